/-! ===== the reference books ===== -/
theorem RVq.sq {F v r x : Int} (h : RVq F v r) : RVq (Jvm.Pilot.CBookIndexLaw_law_r3826_022878.sq F x) v r := fun z => h (sq_z.mp z).1
theorem RVq.to {F F' v r r' : Int} (h : RVq F v r) (e : F' = 0 → F = 0) (q : r' = r) : RVq F' v r' := fun z => q.trans (h (e z))
theorem RQ4.to {F F' : Int} {f g : Nat → va_E} {r : Nat} {k n v w : Int} (h : RQ4 F f r k n v w) (e : F' = 0 → F = 0) (q3 : aI g r 3 = aI f r 3) (q4 : aI g r 4 = aI f r 4) (q6 : aI g r 6 = aI f r 6) (q7 : aI g r 7 = aI f r 7) : RQ4 F' g r k n v w := fun z => by
  obtain ⟨a, b, c, d⟩ := h (e z)
  exact ⟨q3.trans a, q4.trans b, q6.trans c, q7.trans d⟩
theorem bk_w10 {T : Int → Int} {n : Int} {r : Int → Int} (h0 : r 0 = vN T n (tQn T n 1 0)) (h1 : r 1 = vN T n (tQn T n 3 0)) (h2 : r 2 = vN T n (tQn T n 5 0)) (h4 : r 3 = ruK T n (bE6 T n) ∧ r 4 = ruN T n (bE6 T n) ∧ r 6 = rfV (ruK T n (bE6 T n)) (ruV T n (bE6 T n)) (ruW T n (bE6 T n)) ∧ r 7 = rfW (ruK T n (bE6 T n)) (ruW T n (bE6 T n))) (h5 : r 5 = daV T n (tQn T n 1 (bE7 T n))) (h8 : r 8 = spU T n (bE7 T n) ∧ r 9 = spT T n (bE7 T n)) (h10 : r 10 = r 5) : ∀ j : Int, 0 ≤ j → j ≤ 10 → r j = bkW T n j := by
  intro j j0 j1
  rcases (show j = 0 ∨ j = 1 ∨ j = 2 ∨ j = 3 ∨ j = 4 ∨ j = 5 ∨ j = 6 ∨ j = 7 ∨ j = 8 ∨ j = 9 ∨ j = 10 by omega) with q | q | q | q | q | q | q | q | q | q | q <;> subst q
  · exact h0.trans bkW_0.symm
  · exact h1.trans bkW_1.symm
  · exact h2.trans bkW_2.symm
  · exact h4.1.trans bkW_3.symm
  · exact h4.2.1.trans bkW_4.symm
  · exact h5.trans bkW_5.symm
  · exact h4.2.2.1.trans bkW_6.symm
  · exact h4.2.2.2.trans bkW_7.symm
  · exact h8.1.trans bkW_8.symm
  · exact h8.2.trans bkW_9.symm
  · exact (h10.trans h5).trans bkW_10.symm
theorem bk_z {T : Int → Int} {n : Int} (h : bkF T n = 0) : plF T n 0 = 0 ∧ ruF T n (bE6 T n) = 0 ∧ spF T n (bE7 T n) = 0 := by
  by_cases c0 : plF T n 0 = 0
  · by_cases c1 : ruF T n (bE6 T n) = 0
    · by_cases c2 : spF T n (bE7 T n) = 0
      · exact ⟨c0, c1, c2⟩
      · exact absurd ((bk_2 c0 c1 c2).symm.trans h) c2
    · exact absurd ((bk_1 c0 c1).symm.trans h) c1
  · exact absurd ((bk_0 c0).symm.trans h) c0
theorem pl_z {T : Int → Int} {n : Int} (h : plF T n 0 = 0) : nS T n (tQn T n 1 0) 0 7 = 0 ∧ nS T n (tQn T n 3 0) 0 1439 = 0 ∧ nS T n (tQn T n 5 0) 1 4320 = 0 := by
  rw [← pl_sq] at h
  have a := sq_z.mp h
  have b := sq_z.mp a.1
  have c := sq_z.mp b.1
  have d := sq_z.mp c.1
  have e := sq_z.mp d.1
  exact ⟨e.2, c.2, a.2⟩
theorem da_b {T : Int → Int} {n e : Int} (e0 : 0 ≤ e) (e1 : e ≤ n) (h : daF T n e = 0) : 0 ≤ daV T n e ∧ daV T n e ≤ 36524 := by
  have z := da_z h
  have q := tQ_r2 (T := T) e0 e1
  have r := tQ_r2 (T := T) q.1 q.2
  have a := (nS_b e0 e1).2 z.1
  have b := (nS_b q.1 q.2).2 z.2.1
  have c := (nS_b r.1 r.2).2 z.2.2
  have m := mst_rg a.1 a.2 b.1 b.2 c.1 c.2
  have m2 : daV T n e = mst (vN T n e) (vN T n (tQ T n e)) + vN T n (tQ T n (tQ T n e)) - 1 := rfl
  rw [m2]
  omega
/-- the bounds of what is booked -/
theorem bk_bd {T : Int → Int} {n : Int} (hn : 0 ≤ n) (h : bkF T n = 0) : (0 ≤ bkW T n 1 ∧ bkW T n 1 ≤ 1439) ∧ (1 ≤ bkW T n 2 ∧ bkW T n 2 ≤ 4320) ∧ (bkW T n 3 = 0 ∨ 1 ≤ bkW T n 4) ∧ (0 ≤ bkW T n 4 ∧ bkW T n 4 ≤ 999) ∧ (0 ≤ bkW T n 5 ∧ bkW T n 5 ≤ 36524) ∧ (-1 ≤ bkW T n 8 ∧ bkW T n 8 ≤ 36524) := by
  obtain ⟨z1, z2, z3⟩ := bk_z h
  have p := pl_z z1
  have q := fun k => tQn_b (T := T) (Int.le_refl 0) hn k
  have a := (nS_b (q 3).1 (q 3).2).2 p.2.1
  have b := (nS_b (q 5).1 (q 5).2).2 p.2.2
  have b6 : 0 ≤ bE6 T n ∧ bE6 T n ≤ n := q 6
  have b7 : 0 ≤ bE7 T n ∧ bE7 T n ≤ n := ruE_b b6.1 b6.2
  have ok := ru_ok b6.1 b6.2 z2
  have w := fun k => tQn_b (T := T) b7.1 b7.2 k
  rw [sp_sq] at z3
  have y := sq_z.mp z3
  have y2 := sq_z.mp y.2
  have d := da_b (w 1).1 (w 1).2 y2.1
  have e1 : bkW T n 1 = vN T n (tQn T n 3 0) := bkW_1
  have e2 : bkW T n 2 = vN T n (tQn T n 5 0) := bkW_2
  have e3 : bkW T n 3 = ruK T n (bE6 T n) := bkW_3
  have e4 : bkW T n 4 = ruN T n (bE6 T n) := bkW_4
  have e5 : bkW T n 5 = daV T n (tQn T n 1 (bE7 T n)) := bkW_5
  have e8 : bkW T n 8 = spU T n (bE7 T n) := bkW_8
  rw [e1, e2, e3, e4, e5, e8]
  have ku : -1 ≤ spU T n (bE7 T n) ∧ spU T n (bE7 T n) ≤ 36524 := by
    by_cases c : wS T n (tQn T n 4 (bE7 T n)) wTimes = 0
    · have : spU T n (bE7 T n) = -1 := (et_t (s := 0) c).2.1
      omega
    · by_cases c2 : wS T n (tQn T n 4 (bE7 T n)) wUntil = 0
      · have u := et_u (s := daV T n (tQn T n 1 (bE7 T n))) c c2
        have k : daF T n (tQ T n (tQn T n 4 (bE7 T n))) = 0 := by
          by_cases v : daF T n (tQ T n (tQn T n 4 (bE7 T n))) = 0
          · exact v
          · exact absurd ((u.1 v).symm.trans y2.2) v
        have s : spU T n (bE7 T n) = daV T n (tQ T n (tQn T n 4 (bE7 T n))) := u.2.2.2.1
        have g := da_b (w 5).1 (w 5).2 k
        have g2 : daV T n (tQ T n (tQn T n 4 (bE7 T n))) = daV T n (tQn T n 5 (bE7 T n)) := rfl
        omega
      · have : spU T n (bE7 T n) = -1 := (et_n (s := 0) c c2).2.1
        omega
  have kn : (ruK T n (bE6 T n) = 0 ∨ 1 ≤ ruN T n (bE6 T n)) ∧ 0 ≤ ruN T n (bE6 T n) ∧ ruN T n (bE6 T n) ≤ 999 := by
    clear z1 z2 z3 p a b d e1 e2 e3 e4 e5 e8 ku y y2
    unfold okP at ok
    rcases ok with o | o | o | o
    · exact ⟨Or.inl o.1, by omega, by omega⟩
    · exact ⟨Or.inr (by omega), by omega, by omega⟩
    · exact ⟨Or.inr (by omega), by omega, by omega⟩
    · have := o.1; have := o.2.1; exact ⟨Or.inr (by omega), by omega, by omega⟩
  exact ⟨a, b, kn.1, kn.2, d, ku⟩
theorem ps_0 {T : Int → Int} {n : Int} {f f1 : Nat → va_E} {a : Nat} (p : NXP T n f f1 a) (h20 : fI f a 20 = 0) (h16 : fI f a 16 = 0) (k : fI f1 a 20 = fI f a 20) (n0 : 0 ≤ n) (n1 : n ≤ 160) : PSr T n f1 a 0 0 := by
  rcases p with ⟨p1, p2⟩ | ⟨p1, p2, p3, p4⟩
  · omega
  · have b := tP_b (T := T) n0
    rw [h16] at p2
    have q := p2.1
    exact ⟨k.trans h20, Int.le_refl 0, by omega, by omega, p3, p4, fun _ => p2⟩
theorem sq_cg {F x y : Int} (h : F = 0 → x = y) : sq F x = sq F y := by
  by_cases c : F = 0
  · rw [h c]
  · rw [sq_1 c, sq_1 c]
theorem rb_b {T : Int → Int} {n : Int} (hn : 0 ≤ n) (k : Nat) : (0 ≤ tQn T n k 0 ∧ tQn T n k 0 ≤ n) ∧ (0 ≤ tQn T n k (bE7 T n) ∧ tQn T n k (bE7 T n) ≤ n) := by
  have a := fun k => tQn_b (T := T) (Int.le_refl 0) hn k
  have b : 0 ≤ bE7 T n ∧ bE7 T n ≤ n := ruE_b (a 6).1 (a 6).2
  exact ⟨a k, tQn_b b.1 b.2 k⟩
set_option maxHeartbeats 4000000 in
set_option maxRecDepth 100000 in
theorem c_X10_book_p {Z : Zt} (zo : Zok Z) (l : Launch) (D : va_G) (cy : Cy) (L0 : List Nat) (f0 : Nat → va_E) (a0 : Nat) (ad : Nat → Nat) (hs : MS cy L0 f0 a0 ad) (hv : MV f0 a0 ad) (t1 : 0 ≤ fI f0 a0 9) (t2 : fI f0 a0 9 ≤ 168) (p1 : 0 ≤ fI f0 a0 15) (p2 : fI f0 a0 15 ≤ 168) (hd : DT f0 ad 36525) (Tt : Int → Int) (nn : Int) (hnn : fI f0 a0 9 = nn) (hT : ∀ i : Int, 0 ≤ i → i < 168 → aI f0 (ad 8) i = Tt i) (bT : ∀ i : Int, 0 ≤ Tt i ∧ Tt i ≤ 255) : Ci Z l yX10_book (Cond.code yX10_book cX10_book 2 (some .int) :: TB) ({ frames := 10, cells := 0, slots := 0, locals := 210 } : Room) 0 0 D (tq cy) [.ref a0] L0 f0 (fun (r : Int) (L1 : List Nat) (f1 : Nat → va_E) => L0 = L1 ∧ MS cy L0 f1 a0 ad ∧ Kp a0 ad [4, 21] [5, 9, 10, 14, 15, 16, 17, 18, 19, 20, 22] f0 f1 ∧ (MV f1 a0 ad ∧ fI f1 a0 9 = 0 ∧ 0 ≤ fI f1 a0 15 ∧ fI f1 a0 15 ≤ 168 ∧ ((r = -1 ∧ (160 < nn ∨ 12 ≤ fI f0 a0 5) ∧ fI f1 a0 5 = fI f0 a0 5 ∧ (∀ x : Int, 0 ≤ x → x < 44 * fI f0 a0 5 → aI f1 (ad 4) x = aI f0 (ad 4) x)) ∨ (nn ≤ 160 ∧ fI f0 a0 5 < 12 ∧ bkF Tt nn ≠ 0 ∧ r = -2 - bkF Tt nn ∧ fI f1 a0 5 = fI f0 a0 5 ∧ (∀ x : Int, 0 ≤ x → x < 44 * fI f0 a0 5 → aI f1 (ad 4) x = aI f0 (ad 4) x)) ∨ (nn ≤ 160 ∧ fI f0 a0 5 < 12 ∧ bkF Tt nn = 0 ∧ r = fI f0 a0 5 ∧ fI f1 a0 5 = fI f0 a0 5 + 1 ∧ (∀ x : Int, 0 ≤ x → x < 44 * fI f0 a0 5 → aI f1 (ad 4) x = aI f0 (ad 4) x) ∧ (∀ j : Int, 0 ≤ j → j ≤ 10 → aI f1 (ad 4) (44 * fI f0 a0 5 + j) = bkW Tt nn j) ∧ aI f1 (ad 4) (44 * fI f0 a0 5 + 11) = 0)))) := by
  refine Ci.enter (cc := cX10_book) (n := 2) rfl (plainFor_of_name (by decide)) (Nat.le_of_ble_eq_true rfl) ?_
  intro p e s m below meth c ls A hx hb hr hts hown hlocks hnm hml hK hA hAe hw hZ hl
  have hown : s.vm.findClass RX10 = some m.cls := hown
  have hl : lv_has ls 2 [(0, .ref a0)] := hl
  have hN : ZN s := (zo.2.2.2.2 _ _ _ hZ).2
  have hE : Kp a0 ad [4, 21] [5, 9, 10, 14, 15, 16, 17, 18, 19, 20, 22] f0 f0 := Kp.refl _ _ _ _ _
  have m5 := hv.1
  have m6 := hv.2.1
  have n0 : 0 ≤ nn := by omega
  have bu := bkF_u (T := Tt) n0
  have tb0 := (rb_b (T := Tt) n0 0).1
  have tb1 := (rb_b (T := Tt) n0 1).1
  have tb2 := (rb_b (T := Tt) n0 2).1
  have tb3 := (rb_b (T := Tt) n0 3).1
  have tb4 := (rb_b (T := Tt) n0 4).1
  have tb5 := (rb_b (T := Tt) n0 5).1
  have tb6 := (rb_b (T := Tt) n0 6).1
  have tc0 := (rb_b (T := Tt) n0 0).2
  have tc1 := (rb_b (T := Tt) n0 1).2
  have tc2 := (rb_b (T := Tt) n0 2).2
  have tc3 := (rb_b (T := Tt) n0 3).2
  have tc4 := (rb_b (T := Tt) n0 4).2
  have tcz : 0 ≤ bE7 Tt nn ∧ bE7 Tt nn ≤ nn := tc0
  have h4 : ∀ x : Int, 0 ≤ x → x < 44 * fI f0 a0 5 → aI f0 (ad 4) x = aI f0 (ad 4) x := fun _ _ _ => rfl
  have J143 : ∀ (L : List Nat) (fw143 : Nat → va_E) (hs : MS cy L0 fw143 a0 ad) (hE : Kp a0 ad [4, 21] [5, 9, 10, 14, 15, 16, 17, 18, 19, 20, 22] f0 fw143) (h4 : ∀ x : Int, 0 ≤ x → x < 44 * fI f0 a0 5 → aI fw143 (ad 4) x = aI f0 (ad 4) x) (i5 : fI fw143 a0 14 = nn) (u5 : fI fw143 a0 5 = fI f0 a0 5) (u9 : fI fw143 a0 9 = 0) (n11 : fI f0 a0 5 ≤ 11) (n1 : nn ≤ 160) (ps : PSr Tt nn fw143 a0 (bkF Tt nn) (etE Tt nn (tQn Tt nn 4 (bE7 Tt nn)))) (w0 : RVq (sq (wS Tt nn 0 wBook) (nS Tt nn (tQn Tt nn 1 0) 0 7)) (vN Tt nn (tQn Tt nn 1 0)) (aI fw143 (ad 21) 0)) (w1 : RVq (sq (sq (sq (wS Tt nn 0 wBook) (nS Tt nn (tQn Tt nn 1 0) 0 7)) (wS Tt nn (tQn Tt nn 2 0) wAt)) (nS Tt nn (tQn Tt nn 3 0) 0 1439)) (vN Tt nn (tQn Tt nn 3 0)) (aI fw143 (ad 21) 1)) (w2 : RVq (plF Tt nn 0) (vN Tt nn (tQn Tt nn 5 0)) (aI fw143 (ad 21) 2)) (w4 : RQ4 (sq (plF Tt nn 0) (ruF Tt nn (bE6 Tt nn))) fw143 (ad 21) (ruK Tt nn (bE6 Tt nn)) (ruN Tt nn (bE6 Tt nn)) (rfV (ruK Tt nn (bE6 Tt nn)) (ruV Tt nn (bE6 Tt nn)) (ruW Tt nn (bE6 Tt nn))) (rfW (ruK Tt nn (bE6 Tt nn)) (ruW Tt nn (bE6 Tt nn)))) (w5 : RVq (sq (sq (sq (plF Tt nn 0) (ruF Tt nn (bE6 Tt nn))) (wS Tt nn (bE7 Tt nn) wFrom)) (daF Tt nn (tQn Tt nn 1 (bE7 Tt nn)))) (daV Tt nn (tQn Tt nn 1 (bE7 Tt nn))) (aI fw143 (ad 21) 5)) (w8 : RQ2 (bkF Tt nn) fw143 (ad 21) (etU Tt nn (tQn Tt nn 4 (bE7 Tt nn))) (etT Tt nn (tQn Tt nn 4 (bE7 Tt nn)))) (H : Heap) (locs : List Loc) (ls : Array Slot) (hw : Wd D A s.heap L0 fw143 H locs) (hl : lv_has ls 2 [(0, .ref a0)]), W p l e ({ frames := 10, cells := 0, slots := 0, locals := 210 } : Room) s m ([.ref a0] : List Value).toArray below meth c H locs (0) (0) (MQ below (Qi D (tq cy) L0 f0 s.heap.size (fun (r : Int) (L1 : List Nat) (f1 : Nat → va_E) => L0 = L1 ∧ MS cy L0 f1 a0 ad ∧ Kp a0 ad [4, 21] [5, 9, 10, 14, 15, 16, 17, 18, 19, 20, 22] f0 f1 ∧ (MV f1 a0 ad ∧ fI f1 a0 9 = 0 ∧ 0 ≤ fI f1 a0 15 ∧ fI f1 a0 15 ≤ 168 ∧ ((r = -1 ∧ (160 < nn ∨ 12 ≤ fI f0 a0 5) ∧ fI f1 a0 5 = fI f0 a0 5 ∧ (∀ x : Int, 0 ≤ x → x < 44 * fI f0 a0 5 → aI f1 (ad 4) x = aI f0 (ad 4) x)) ∨ (nn ≤ 160 ∧ fI f0 a0 5 < 12 ∧ bkF Tt nn ≠ 0 ∧ r = -2 - bkF Tt nn ∧ fI f1 a0 5 = fI f0 a0 5 ∧ (∀ x : Int, 0 ≤ x → x < 44 * fI f0 a0 5 → aI f1 (ad 4) x = aI f0 (ad 4) x)) ∨ (nn ≤ 160 ∧ fI f0 a0 5 < 12 ∧ bkF Tt nn = 0 ∧ r = fI f0 a0 5 ∧ fI f1 a0 5 = fI f0 a0 5 + 1 ∧ (∀ x : Int, 0 ≤ x → x < 44 * fI f0 a0 5 → aI f1 (ad 4) x = aI f0 (ad 4) x) ∧ (∀ j : Int, 0 ≤ j → j ≤ 10 → aI f1 (ad 4) (44 * fI f0 a0 5 + j) = bkW Tt nn j) ∧ aI f1 (ad 4) (44 * fI f0 a0 5 + 11) = 0))))) ([.ref a0] : List Value).toArray s 0 0 A) (F0 m 143 ls []) := by
    intro L fw143 hs hE h4 i5 u5 u9 n11 n1 ps w0 w1 w2 w4 w5 w8 H locs ls hw hl
    have ps1 := ps.1
    have ps2 := ps.2.1
    have ps3 := ps.2.2.1
    have ps4 := ps.2.2.2.1
    have ps5 := ps.2.2.2.2.1
    have ps6 := ps.2.2.2.2.2.1
    have Q8 : aI fw143 (ad 8) = aI f0 (ad 8) := funext fun x => hE.1 8 rfl (by decide) x
    refine lv_aload_n hx hb dX10_book_143 rfl (lv_at hl 0 rfl) ?_
    refine q_geti (ci := 8) (C := RX10) (T := TX10) (N := 26) hx hb hts (fun w h => List.mem_cons_of_mem _ (mfX100 w h)) hown hK hw hs.1 hs.2.1 rfl 20 (by decide) (hts _ (List.mem_cons_of_mem _ (mr19 _ (List.mem_of_getElem? (i := 2) rfl)))) (fun _ h => h) rfl dX10_book_144 (fun x_1 lx_1 ux_1 ex_1 => ?_)
    refine q_if_le (tgt := 158) hx hb dX10_book_147 (by decide) ⟨lx_1, ux_1⟩ (fun c147 => ?_) (fun c147 => ?_)
    · have zz : bkF Tt nn = 0 := by omega
      have bd := bk_bd (T := Tt) n0 zz
      obtain ⟨y1, y2, y3⟩ := bk_z zz
      have y4 := y1
      rw [← pl_sq] at y4
      have v2 := w2 y1
      have v1 := w1 (sq_z.mp (sq_z.mp y4).1).1
      have v0 := w0 (sq_z.mp (sq_z.mp (sq_z.mp (sq_z.mp y4).1).1).1).1
      have z7 := sq_z.mpr ⟨y1, y2⟩
      have v4 := w4 z7
      have y5 := y3
      rw [sp_sq] at y5
      have y6 := sq_z.mp y5
      have v5 := w5 (sq_z.mpr ⟨sq_z.mpr ⟨z7, y6.1⟩, (sq_z.mp y6.2).1⟩)
      have v8 := w8 zz
      clear w0 w1 w2 w4 w5 w8 y4 y5 y6
      refine lv_aload_n hx hb dX10_book_158 rfl (lv_at hl 0 rfl) ?_
      refine q_getr (ci := 8) (C := RX10) (T := TX10) (N := 26) hx hb hts (fun w h => List.mem_cons_of_mem _ (mfX100 w h)) hown hK hw hs.1 hs.2.1 rfl 21 (by decide) (hts _ (List.mem_cons_of_mem _ (mr3 _ (List.mem_of_getElem? (i := 22) rfl)))) (fun _ h => h) rfl (hs.2.2.1 21 rfl).1 dX10_book_159 ?_
      refine q_bipush hx hb dX10_book_162 rfl ?_
      refine lv_aload_n hx hb dX10_book_164 rfl (lv_at hl 0 rfl) ?_
      refine q_getr (ci := 8) (C := RX10) (T := TX10) (N := 26) hx hb hts (fun w h => List.mem_cons_of_mem _ (mfX100 w h)) hown hK hw hs.1 hs.2.1 rfl 21 (by decide) (hts _ (List.mem_cons_of_mem _ (mr3 _ (List.mem_of_getElem? (i := 22) rfl)))) (fun _ h => h) rfl (hs.2.2.1 21 rfl).1 dX10_book_165 ?_
      refine q_iconst hx hb dX10_book_168 ?_
      refine q_iald hx hb hK hw (hs.2.2.1 21 rfl).2.1 1 (hs.2.2.1 21 rfl).2.2 rfl ⟨by decide, by decide⟩ (by omega) (by show _ < ((44 : Nat) : Int); omega) dX10_book_169 (fun x_2 lx_2 ux_2 ex_2 => ?_)
      refine q_iast hx hb hK hw (hs.2.2.1 21 rfl).2.1 1 (hs.2.2.1 21 rfl).2.2 rfl ⟨by decide, by decide⟩ (by omega) (by show _ < ((44 : Nat) : Int); omega) dX10_book_170 (fun H locs hw => ?_)
      obtain ⟨f_3, ef_3⟩ : ∃ g : Nat → va_E, g = aU fw143 (ad 21) 10 (iI x_2) := ⟨_, rfl⟩
      have t5_f_3 : fI f_3 a0 5 = fI fw143 a0 5 := by rw [ef_3]; exact hs.fI_aU rfl _ _
      have t9_f_3 : fI f_3 a0 9 = fI fw143 a0 9 := by rw [ef_3]; exact hs.fI_aU rfl _ _
      have t14_f_3 : fI f_3 a0 14 = fI fw143 a0 14 := by rw [ef_3]; exact hs.fI_aU rfl _ _
      have t15_f_3 : fI f_3 a0 15 = fI fw143 a0 15 := by rw [ef_3]; exact hs.fI_aU rfl _ _
      have t16_f_3 : fI f_3 a0 16 = fI fw143 a0 16 := by rw [ef_3]; exact hs.fI_aU rfl _ _
      have t17_f_3 : fI f_3 a0 17 = fI fw143 a0 17 := by rw [ef_3]; exact hs.fI_aU rfl _ _
      have t19_f_3 : fI f_3 a0 19 = fI fw143 a0 19 := by rw [ef_3]; exact hs.fI_aU rfl _ _
      have t20_f_3 : fI f_3 a0 20 = fI fw143 a0 20 := by rw [ef_3]; exact hs.fI_aU rfl _ _
      have t22_f_3 : fI f_3 a0 22 = fI fw143 a0 22 := by rw [ef_3]; exact hs.fI_aU rfl _ _
      have hE := hE.trans (show Kp a0 ad [4, 21] [5, 9, 10, 14, 15, 16, 17, 18, 19, 20, 22] fw143 f_3 by rw [ef_3]; exact Kp_aU hs rfl (by decide))
      have hs_ := hs
      have hs : MS cy L0 f_3 a0 ad := by rw [ef_3]; exact MS_aU hs rfl
      rw [← ef_3] at hw
      have Q8 : aI f_3 (ad 8) = aI f0 (ad 8) := funext fun x => hE.1 8 rfl (by decide) x
      have c21_0_f_3 : aI f_3 (ad 21) 0 = aI fw143 (ad 21) 0 := by rw [ef_3]; exact hs_.aI_nj rfl (by decide) (by decide) (by decide)
      have c21_1_f_3 : aI f_3 (ad 21) 1 = aI fw143 (ad 21) 1 := by rw [ef_3]; exact hs_.aI_nj rfl (by decide) (by decide) (by decide)
      have c21_2_f_3 : aI f_3 (ad 21) 2 = aI fw143 (ad 21) 2 := by rw [ef_3]; exact hs_.aI_nj rfl (by decide) (by decide) (by decide)
      have c21_3_f_3 : aI f_3 (ad 21) 3 = aI fw143 (ad 21) 3 := by rw [ef_3]; exact hs_.aI_nj rfl (by decide) (by decide) (by decide)
      have c21_4_f_3 : aI f_3 (ad 21) 4 = aI fw143 (ad 21) 4 := by rw [ef_3]; exact hs_.aI_nj rfl (by decide) (by decide) (by decide)
      have c21_5_f_3 : aI f_3 (ad 21) 5 = aI fw143 (ad 21) 5 := by rw [ef_3]; exact hs_.aI_nj rfl (by decide) (by decide) (by decide)
      have c21_6_f_3 : aI f_3 (ad 21) 6 = aI fw143 (ad 21) 6 := by rw [ef_3]; exact hs_.aI_nj rfl (by decide) (by decide) (by decide)
      have c21_7_f_3 : aI f_3 (ad 21) 7 = aI fw143 (ad 21) 7 := by rw [ef_3]; exact hs_.aI_nj rfl (by decide) (by decide) (by decide)
      have c21_8_f_3 : aI f_3 (ad 21) 8 = aI fw143 (ad 21) 8 := by rw [ef_3]; exact hs_.aI_nj rfl (by decide) (by decide) (by decide)
      have c21_9_f_3 : aI f_3 (ad 21) 9 = aI fw143 (ad 21) 9 := by rw [ef_3]; exact hs_.aI_nj rfl (by decide) (by decide) (by decide)
      have c21_10_f_3 : aI f_3 (ad 21) 10 = x_2 := by rw [ef_3]; exact hs_.aI_self rfl ⟨lx_2, ux_2⟩
      have c21_11_f_3 : aI f_3 (ad 21) 11 = aI fw143 (ad 21) 11 := by rw [ef_3]; exact hs_.aI_nj rfl (by decide) (by decide) (by decide)
      have h4 : ∀ x : Int, 0 ≤ x → x < 44 * fI f0 a0 5 → aI f_3 (ad 4) x = aI f0 (ad 4) x := fun x q0 q1 => Eq.trans (by rw [ef_3]; exact hs_.aI_ne rfl rfl (by decide) _) (h4 x q0 q1)
      refine lv_aload_n hx hb dX10_book_171 rfl (lv_at hl 0 rfl) ?_
      refine q_getr (ci := 8) (C := RX10) (T := TX10) (N := 26) hx hb hts (fun w h => List.mem_cons_of_mem _ (mfX100 w h)) hown hK hw hs.1 hs.2.1 rfl 21 (by decide) (hts _ (List.mem_cons_of_mem _ (mr3 _ (List.mem_of_getElem? (i := 22) rfl)))) (fun _ h => h) rfl (hs.2.2.1 21 rfl).1 dX10_book_172 ?_
      refine q_bipush hx hb dX10_book_175 rfl ?_
      refine q_iconst hx hb dX10_book_177 ?_
      refine q_iast hx hb hK hw (hs.2.2.1 21 rfl).2.1 1 (hs.2.2.1 21 rfl).2.2 rfl ⟨by decide, by decide⟩ (by omega) (by show _ < ((44 : Nat) : Int); omega) dX10_book_178 (fun H locs hw => ?_)
      obtain ⟨f_4, ef_4⟩ : ∃ g : Nat → va_E, g = aU f_3 (ad 21) 11 (iI 0) := ⟨_, rfl⟩
      have t5_f_4 : fI f_4 a0 5 = fI f_3 a0 5 := by rw [ef_4]; exact hs.fI_aU rfl _ _
      have t9_f_4 : fI f_4 a0 9 = fI f_3 a0 9 := by rw [ef_4]; exact hs.fI_aU rfl _ _
      have t14_f_4 : fI f_4 a0 14 = fI f_3 a0 14 := by rw [ef_4]; exact hs.fI_aU rfl _ _
      have t15_f_4 : fI f_4 a0 15 = fI f_3 a0 15 := by rw [ef_4]; exact hs.fI_aU rfl _ _
      have t16_f_4 : fI f_4 a0 16 = fI f_3 a0 16 := by rw [ef_4]; exact hs.fI_aU rfl _ _
      have t17_f_4 : fI f_4 a0 17 = fI f_3 a0 17 := by rw [ef_4]; exact hs.fI_aU rfl _ _
      have t19_f_4 : fI f_4 a0 19 = fI f_3 a0 19 := by rw [ef_4]; exact hs.fI_aU rfl _ _
      have t20_f_4 : fI f_4 a0 20 = fI f_3 a0 20 := by rw [ef_4]; exact hs.fI_aU rfl _ _
      have t22_f_4 : fI f_4 a0 22 = fI f_3 a0 22 := by rw [ef_4]; exact hs.fI_aU rfl _ _
      have hE := hE.trans (show Kp a0 ad [4, 21] [5, 9, 10, 14, 15, 16, 17, 18, 19, 20, 22] f_3 f_4 by rw [ef_4]; exact Kp_aU hs rfl (by decide))
      have hs_ := hs
      have hs : MS cy L0 f_4 a0 ad := by rw [ef_4]; exact MS_aU hs rfl
      rw [← ef_4] at hw
      have Q8 : aI f_4 (ad 8) = aI f0 (ad 8) := funext fun x => hE.1 8 rfl (by decide) x
      have c21_0_f_4 : aI f_4 (ad 21) 0 = aI f_3 (ad 21) 0 := by rw [ef_4]; exact hs_.aI_nj rfl (by decide) (by decide) (by decide)
      have c21_1_f_4 : aI f_4 (ad 21) 1 = aI f_3 (ad 21) 1 := by rw [ef_4]; exact hs_.aI_nj rfl (by decide) (by decide) (by decide)
      have c21_2_f_4 : aI f_4 (ad 21) 2 = aI f_3 (ad 21) 2 := by rw [ef_4]; exact hs_.aI_nj rfl (by decide) (by decide) (by decide)
      have c21_3_f_4 : aI f_4 (ad 21) 3 = aI f_3 (ad 21) 3 := by rw [ef_4]; exact hs_.aI_nj rfl (by decide) (by decide) (by decide)
      have c21_4_f_4 : aI f_4 (ad 21) 4 = aI f_3 (ad 21) 4 := by rw [ef_4]; exact hs_.aI_nj rfl (by decide) (by decide) (by decide)
      have c21_5_f_4 : aI f_4 (ad 21) 5 = aI f_3 (ad 21) 5 := by rw [ef_4]; exact hs_.aI_nj rfl (by decide) (by decide) (by decide)
      have c21_6_f_4 : aI f_4 (ad 21) 6 = aI f_3 (ad 21) 6 := by rw [ef_4]; exact hs_.aI_nj rfl (by decide) (by decide) (by decide)
      have c21_7_f_4 : aI f_4 (ad 21) 7 = aI f_3 (ad 21) 7 := by rw [ef_4]; exact hs_.aI_nj rfl (by decide) (by decide) (by decide)
      have c21_8_f_4 : aI f_4 (ad 21) 8 = aI f_3 (ad 21) 8 := by rw [ef_4]; exact hs_.aI_nj rfl (by decide) (by decide) (by decide)
      have c21_9_f_4 : aI f_4 (ad 21) 9 = aI f_3 (ad 21) 9 := by rw [ef_4]; exact hs_.aI_nj rfl (by decide) (by decide) (by decide)
      have c21_10_f_4 : aI f_4 (ad 21) 10 = aI f_3 (ad 21) 10 := by rw [ef_4]; exact hs_.aI_nj rfl (by decide) (by decide) (by decide)
      have c21_11_f_4 : aI f_4 (ad 21) 11 = 0 := by rw [ef_4]; exact hs_.aI_self rfl ⟨by decide, by decide⟩
      have h4 : ∀ x : Int, 0 ≤ x → x < 44 * fI f0 a0 5 → aI f_4 (ad 4) x = aI f0 (ad 4) x := fun x q0 q1 => Eq.trans (by rw [ef_4]; exact hs_.aI_ne rfl rfl (by decide) _) (h4 x q0 q1)
      have bw := bk_w10 (T := Tt) (n := nn) (r := fun j => aI f_4 (ad 21) j) (by show aI f_4 (ad 21) 0 = _; omega) (by show aI f_4 (ad 21) 1 = _; omega) (by show aI f_4 (ad 21) 2 = _; omega) ⟨by show aI f_4 (ad 21) 3 = _; omega, by show aI f_4 (ad 21) 4 = _; omega, by show aI f_4 (ad 21) 6 = _; omega, by show aI f_4 (ad 21) 7 = _; omega⟩ (by show aI f_4 (ad 21) 5 = _; omega) ⟨by show aI f_4 (ad 21) 8 = etU Tt nn (tQn Tt nn 4 (bE7 Tt nn)); omega, by show aI f_4 (ad 21) 9 = etT Tt nn (tQn Tt nn 4 (bE7 Tt nn)); omega⟩ (by show aI f_4 (ad 21) 10 = aI f_4 (ad 21) 5; omega)
      have bw : ∀ j : Int, 0 ≤ j → j ≤ 10 → aI f_4 (ad 21) j = bkW Tt nn j := bw
      have ze : aI f_4 (ad 21) 11 = 0 := by omega
      clear v0 v1 v2 v4 v5 v8
      refine q_iconst hx hb dX10_book_179 ?_
      refine lv_istore_n (lv' := [(1, .int (iI 0)), (0, .ref a0)]) hx hb dX10_book_180 rfl hl (by decide) rfl (fun ls hl => ?_)
      have J181 : ∀ (n181 : Nat) (y1_181 : Int) (ly1_181 : -2147483648 ≤ y1_181) (uy1_181 : y1_181 ≤ 2147483647) (L : List Nat) (fw181 : Nat → va_E) (hs : MS cy L0 fw181 a0 ad) (hE : Kp a0 ad [4, 21] [5, 9, 10, 14, 15, 16, 17, 18, 19, 20, 22] f0 fw181) (h4 : ∀ x : Int, 0 ≤ x → x < 44 * fI f0 a0 5 → aI fw181 (ad 4) x = aI f0 (ad 4) x) (i1 : 0 ≤ y1_181) (i2 : y1_181 ≤ 44) (u5 : fI fw181 a0 5 = fI f0 a0 5) (u9 : fI fw181 a0 9 = 0) (j3 : 0 ≤ fI fw181 a0 15) (j4 : fI fw181 a0 15 ≤ 168) (bw : ∀ j : Int, 0 ≤ j → j ≤ 10 → aI fw181 (ad 21) j = bkW Tt nn j) (ze : aI fw181 (ad 21) 11 = 0) (cp : ∀ j : Int, 0 ≤ j → j < y1_181 → aI fw181 (ad 4) (44 * fI f0 a0 5 + j) = aI fw181 (ad 21) j) (hn181 : ((2147483647 : Int) - y1_181).toNat < n181) (H : Heap) (locs : List Loc) (ls : Array Slot) (hw : Wd D A s.heap L0 fw181 H locs) (hl : lv_has ls 2 [(0, .ref a0), (1, .int (iI y1_181))]), W p l e ({ frames := 10, cells := 0, slots := 0, locals := 210 } : Room) s m ([.ref a0] : List Value).toArray below meth c H locs (0) (0) (MQ below (Qi D (tq cy) L0 f0 s.heap.size (fun (r : Int) (L1 : List Nat) (f1 : Nat → va_E) => L0 = L1 ∧ MS cy L0 f1 a0 ad ∧ Kp a0 ad [4, 21] [5, 9, 10, 14, 15, 16, 17, 18, 19, 20, 22] f0 f1 ∧ (MV f1 a0 ad ∧ fI f1 a0 9 = 0 ∧ 0 ≤ fI f1 a0 15 ∧ fI f1 a0 15 ≤ 168 ∧ ((r = -1 ∧ (160 < nn ∨ 12 ≤ fI f0 a0 5) ∧ fI f1 a0 5 = fI f0 a0 5 ∧ (∀ x : Int, 0 ≤ x → x < 44 * fI f0 a0 5 → aI f1 (ad 4) x = aI f0 (ad 4) x)) ∨ (nn ≤ 160 ∧ fI f0 a0 5 < 12 ∧ bkF Tt nn ≠ 0 ∧ r = -2 - bkF Tt nn ∧ fI f1 a0 5 = fI f0 a0 5 ∧ (∀ x : Int, 0 ≤ x → x < 44 * fI f0 a0 5 → aI f1 (ad 4) x = aI f0 (ad 4) x)) ∨ (nn ≤ 160 ∧ fI f0 a0 5 < 12 ∧ bkF Tt nn = 0 ∧ r = fI f0 a0 5 ∧ fI f1 a0 5 = fI f0 a0 5 + 1 ∧ (∀ x : Int, 0 ≤ x → x < 44 * fI f0 a0 5 → aI f1 (ad 4) x = aI f0 (ad 4) x) ∧ (∀ j : Int, 0 ≤ j → j ≤ 10 → aI f1 (ad 4) (44 * fI f0 a0 5 + j) = bkW Tt nn j) ∧ aI f1 (ad 4) (44 * fI f0 a0 5 + 11) = 0))))) ([.ref a0] : List Value).toArray s 0 0 A) (F0 m 181 ls []) := by
        intro n181
        induction n181 with
        | zero => intro y1_181 ly1_181 uy1_181 L fw181 hs hE h4 i1 i2 u5 u9 j3 j4 bw ze cp hn181; exact absurd hn181 (Nat.not_lt_zero _)
        | succ n181 ih181 =>
          intro y1_181 ly1_181 uy1_181 L fw181 hs hE h4 i1 i2 u5 u9 j3 j4 bw ze cp hn181 H locs ls hw hl
          have Q8 : aI fw181 (ad 8) = aI f0 (ad 8) := funext fun x => hE.1 8 rfl (by decide) x
          refine lv_iload_n hx hb dX10_book_181 rfl (lv_at hl 1 rfl) ?_
          refine q_bipush hx hb dX10_book_182 rfl ?_
          refine q_icmp_ge (tgt := 213) hx hb dX10_book_184 (by decide) ⟨ly1_181, uy1_181⟩ ⟨by decide, by decide⟩ (fun c184 => ?_) (fun c184 => ?_)
          · refine lv_aload_n hx hb dX10_book_213 rfl (lv_at hl 0 rfl) ?_
            refine lv_dup hx hb dX10_book_214 rfl ?_
            refine q_geti (ci := 8) (C := RX10) (T := TX10) (N := 26) hx hb hts (fun w h => List.mem_cons_of_mem _ (mfX100 w h)) hown hK hw hs.1 hs.2.1 rfl 5 (by decide) (hts _ (List.mem_cons_of_mem _ (mr19 _ (List.mem_of_getElem? (i := 1) rfl)))) (fun _ h => h) rfl dX10_book_215 (fun x_5 lx_5 ux_5 ex_5 => ?_)
            refine q_iconst hx hb dX10_book_218 ?_
            first | refine q_iadd hx hb dX10_book_219 ⟨by omega, by omega⟩ (fun x_6 lx_6 ux_6 ex_6 => ?_) | refine q_iaddw hx hb dX10_book_219 (fun x_6 lx_6 ux_6 ex_6 => ?_)
            refine q_puti (ci := 8) (C := RX10) (T := TX10) (N := 26) hx hb hts (fun w h => List.mem_cons_of_mem _ (mfX100 w h)) hown hK hw hs.1 hs.2.1 rfl 5 (by decide) (hts _ (List.mem_cons_of_mem _ (mr19 _ (List.mem_of_getElem? (i := 1) rfl)))) (fun _ h => h) tyX10 tyX10_ok nmX10 rfl (ty := .int) (by decide +kernel) rfl rfl dX10_book_220 (fun H locs hw => ?_)
            obtain ⟨f_7, ef_7⟩ : ∃ g : Nat → va_E, g = pU fw181 a0 5 (.int (iI x_6)) := ⟨_, rfl⟩
            have v5_f_7 : fI f_7 a0 5 = x_6 := by rw [ef_7]; exact fI_pU_self hs.2.1 rfl ⟨lx_6, ux_6⟩
            have t9_f_7 : fI f_7 a0 9 = fI fw181 a0 9 := by rw [ef_7]; exact fI_pU (Or.inr (by decide))
            have t14_f_7 : fI f_7 a0 14 = fI fw181 a0 14 := by rw [ef_7]; exact fI_pU (Or.inr (by decide))
            have t15_f_7 : fI f_7 a0 15 = fI fw181 a0 15 := by rw [ef_7]; exact fI_pU (Or.inr (by decide))
            have t16_f_7 : fI f_7 a0 16 = fI fw181 a0 16 := by rw [ef_7]; exact fI_pU (Or.inr (by decide))
            have t17_f_7 : fI f_7 a0 17 = fI fw181 a0 17 := by rw [ef_7]; exact fI_pU (Or.inr (by decide))
            have t19_f_7 : fI f_7 a0 19 = fI fw181 a0 19 := by rw [ef_7]; exact fI_pU (Or.inr (by decide))
            have t20_f_7 : fI f_7 a0 20 = fI fw181 a0 20 := by rw [ef_7]; exact fI_pU (Or.inr (by decide))
            have t22_f_7 : fI f_7 a0 22 = fI fw181 a0 22 := by rw [ef_7]; exact fI_pU (Or.inr (by decide))
            have hE := hE.trans (show Kp a0 ad [4, 21] [5, 9, 10, 14, 15, 16, 17, 18, 19, 20, 22] fw181 f_7 by rw [ef_7]; exact Kp_pU hs (by decide))
            have hs_ := hs
            have hs : MS cy L0 f_7 a0 ad := by rw [ef_7]; exact MS_pU hs rfl
            rw [← ef_7] at hw
            have Q8 : aI f_7 (ad 8) = aI f0 (ad 8) := funext fun x => hE.1 8 rfl (by decide) x
            have c21_0_f_7 : aI f_7 (ad 21) 0 = aI fw181 (ad 21) 0 := by rw [ef_7]; exact hs_.aI_pU _ _
            have c21_1_f_7 : aI f_7 (ad 21) 1 = aI fw181 (ad 21) 1 := by rw [ef_7]; exact hs_.aI_pU _ _
            have c21_2_f_7 : aI f_7 (ad 21) 2 = aI fw181 (ad 21) 2 := by rw [ef_7]; exact hs_.aI_pU _ _
            have c21_3_f_7 : aI f_7 (ad 21) 3 = aI fw181 (ad 21) 3 := by rw [ef_7]; exact hs_.aI_pU _ _
            have c21_4_f_7 : aI f_7 (ad 21) 4 = aI fw181 (ad 21) 4 := by rw [ef_7]; exact hs_.aI_pU _ _
            have c21_5_f_7 : aI f_7 (ad 21) 5 = aI fw181 (ad 21) 5 := by rw [ef_7]; exact hs_.aI_pU _ _
            have c21_6_f_7 : aI f_7 (ad 21) 6 = aI fw181 (ad 21) 6 := by rw [ef_7]; exact hs_.aI_pU _ _
            have c21_7_f_7 : aI f_7 (ad 21) 7 = aI fw181 (ad 21) 7 := by rw [ef_7]; exact hs_.aI_pU _ _
            have c21_8_f_7 : aI f_7 (ad 21) 8 = aI fw181 (ad 21) 8 := by rw [ef_7]; exact hs_.aI_pU _ _
            have c21_9_f_7 : aI f_7 (ad 21) 9 = aI fw181 (ad 21) 9 := by rw [ef_7]; exact hs_.aI_pU _ _
            have c21_10_f_7 : aI f_7 (ad 21) 10 = aI fw181 (ad 21) 10 := by rw [ef_7]; exact hs_.aI_pU _ _
            have c21_11_f_7 : aI f_7 (ad 21) 11 = aI fw181 (ad 21) 11 := by rw [ef_7]; exact hs_.aI_pU _ _
            have h4 : ∀ x : Int, 0 ≤ x → x < 44 * fI f0 a0 5 → aI f_7 (ad 4) x = aI f0 (ad 4) x := fun x q0 q1 => Eq.trans (by rw [ef_7]; exact hs_.aI_pU _ _) (h4 x q0 q1)
            have cp2 : ∀ j : Int, 0 ≤ j → j < 44 → aI f_7 (ad 4) (44 * fI f0 a0 5 + j) = aI fw181 (ad 21) j := fun j q0 q1 => Eq.trans (by rw [ef_7]; exact hs_.aI_pU _ _) (cp j q0 (by omega))
            have B1 : aI fw181 (ad 21) 1 = bkW Tt nn 1 := bw 1 (by decide) (by decide)
            have B2 : aI fw181 (ad 21) 2 = bkW Tt nn 2 := bw 2 (by decide) (by decide)
            have B3 : aI fw181 (ad 21) 3 = bkW Tt nn 3 := bw 3 (by decide) (by decide)
            have B4 : aI fw181 (ad 21) 4 = bkW Tt nn 4 := bw 4 (by decide) (by decide)
            have B5 : aI fw181 (ad 21) 5 = bkW Tt nn 5 := bw 5 (by decide) (by decide)
            have B8 : aI fw181 (ad 21) 8 = bkW Tt nn 8 := bw 8 (by decide) (by decide)
            have B10 : aI fw181 (ad 21) 10 = bkW Tt nn 10 := bw 10 (by decide) (by decide)
            have B105 : bkW Tt nn 10 = bkW Tt nn 5 := bkW_10.trans bkW_5.symm
            have hro : RO (aI f_7 (ad 4)) (44 * fI f0 a0 5) := RO.of cp2 (by show 0 ≤ aI fw181 (ad 21) 1; omega) (by show aI fw181 (ad 21) 1 ≤ 1439; omega) (by show 1 ≤ aI fw181 (ad 21) 2; omega) (by show aI fw181 (ad 21) 2 ≤ 4320; omega) (by show aI fw181 (ad 21) 3 = 0 ∨ 1 ≤ aI fw181 (ad 21) 4; omega) (by show 0 ≤ aI fw181 (ad 21) 4; omega) (by show aI fw181 (ad 21) 4 ≤ 999; omega) (by show 0 ≤ aI fw181 (ad 21) 5; omega) (by show aI fw181 (ad 21) 5 ≤ 36524; omega) (by show -1 ≤ aI fw181 (ad 21) 8; omega) (by show aI fw181 (ad 21) 8 ≤ 36524; omega) (by show 0 ≤ aI fw181 (ad 21) 10; omega) (by show aI fw181 (ad 21) 10 ≤ 36524; omega) (by show aI fw181 (ad 21) 11 = 0; omega)
            have bw2 : ∀ j : Int, 0 ≤ j → j ≤ 10 → aI f_7 (ad 4) (44 * fI f0 a0 5 + j) = bkW Tt nn j := fun j q0 q1 => (cp2 j q0 (by omega)).trans (bw j q0 q1)
            have be2 : aI f_7 (ad 4) (44 * fI f0 a0 5 + 11) = 0 := (cp2 11 (by decide) (by decide)).trans ze
            refine lv_aload_n hx hb dX10_book_223 rfl (lv_at hl 0 rfl) ?_
            refine q_geti (ci := 8) (C := RX10) (T := TX10) (N := 26) hx hb hts (fun w h => List.mem_cons_of_mem _ (mfX100 w h)) hown hK hw hs.1 hs.2.1 rfl 5 (by decide) (hts _ (List.mem_cons_of_mem _ (mr19 _ (List.mem_of_getElem? (i := 1) rfl)))) (fun _ h => h) rfl dX10_book_224 (fun x_8 lx_8 ux_8 ex_8 => ?_)
            refine q_iconst hx hb dX10_book_227 ?_
            first | refine q_isub hx hb dX10_book_228 ⟨by omega, by omega⟩ (fun x_9 lx_9 ux_9 ex_9 => ?_) | refine q_isubw hx hb dX10_book_228 (fun x_9 lx_9 ux_9 ex_9 => ?_)
            exact q_ret_i hx hb hr hlocks hK hAe hw ⟨lx_9, ux_9⟩ (Nat.le_of_ble_eq_true rfl) (Nat.le_of_ble_eq_true rfl) dX10_book_229 (by exact ⟨rfl, hs, hE, hv.grow (by omega) (by omega) h4 hro, by omega, by omega, by omega, Or.inr (Or.inr ⟨by omega, by omega, zz, by omega, by omega, h4, bw2, be2⟩)⟩)
          · refine lv_aload_n hx hb dX10_book_187 rfl (lv_at hl 0 rfl) ?_
            refine q_getr (ci := 8) (C := RX10) (T := TX10) (N := 26) hx hb hts (fun w h => List.mem_cons_of_mem _ (mfX100 w h)) hown hK hw hs.1 hs.2.1 rfl 4 (by decide) (hts _ (List.mem_cons_of_mem _ (mr3 _ (List.mem_of_getElem? (i := 14) rfl)))) (fun _ h => h) rfl (hs.2.2.1 4 rfl).1 dX10_book_188 ?_
            refine q_bipush hx hb dX10_book_191 rfl ?_
            refine lv_aload_n hx hb dX10_book_193 rfl (lv_at hl 0 rfl) ?_
            refine q_geti (ci := 8) (C := RX10) (T := TX10) (N := 26) hx hb hts (fun w h => List.mem_cons_of_mem _ (mfX100 w h)) hown hK hw hs.1 hs.2.1 rfl 5 (by decide) (hts _ (List.mem_cons_of_mem _ (mr19 _ (List.mem_of_getElem? (i := 1) rfl)))) (fun _ h => h) rfl dX10_book_194 (fun x_10 lx_10 ux_10 ex_10 => ?_)
            first | refine q_imul hx hb dX10_book_197 ⟨by omega, by omega⟩ (fun x_11 lx_11 ux_11 ex_11 => ?_) | refine q_imulw hx hb dX10_book_197 (fun x_11 lx_11 ux_11 ex_11 => ?_)
            refine lv_iload_n hx hb dX10_book_198 rfl (lv_at hl 1 rfl) ?_
            first | refine q_iadd hx hb dX10_book_199 ⟨by omega, by omega⟩ (fun x_12 lx_12 ux_12 ex_12 => ?_) | refine q_iaddw hx hb dX10_book_199 (fun x_12 lx_12 ux_12 ex_12 => ?_)
            refine lv_aload_n hx hb dX10_book_200 rfl (lv_at hl 0 rfl) ?_
            refine q_getr (ci := 8) (C := RX10) (T := TX10) (N := 26) hx hb hts (fun w h => List.mem_cons_of_mem _ (mfX100 w h)) hown hK hw hs.1 hs.2.1 rfl 21 (by decide) (hts _ (List.mem_cons_of_mem _ (mr3 _ (List.mem_of_getElem? (i := 22) rfl)))) (fun _ h => h) rfl (hs.2.2.1 21 rfl).1 dX10_book_201 ?_
            refine lv_iload_n hx hb dX10_book_204 rfl (lv_at hl 1 rfl) ?_
            refine q_iald hx hb hK hw (hs.2.2.1 21 rfl).2.1 1 (hs.2.2.1 21 rfl).2.2 rfl ⟨ly1_181, uy1_181⟩ (by omega) (by show _ < ((44 : Nat) : Int); omega) dX10_book_205 (fun x_13 lx_13 ux_13 ex_13 => ?_)
            refine q_iast hx hb hK hw (hs.2.2.1 4 rfl).2.1 1 (hs.2.2.1 4 rfl).2.2 rfl ⟨lx_12, ux_12⟩ (by omega) (by show _ < ((528 : Nat) : Int); omega) dX10_book_206 (fun H locs hw => ?_)
            obtain ⟨f_14, ef_14⟩ : ∃ g : Nat → va_E, g = aU fw181 (ad 4) x_12 (iI x_13) := ⟨_, rfl⟩
            have t5_f_14 : fI f_14 a0 5 = fI fw181 a0 5 := by rw [ef_14]; exact hs.fI_aU rfl _ _
            have t9_f_14 : fI f_14 a0 9 = fI fw181 a0 9 := by rw [ef_14]; exact hs.fI_aU rfl _ _
            have t14_f_14 : fI f_14 a0 14 = fI fw181 a0 14 := by rw [ef_14]; exact hs.fI_aU rfl _ _
            have t15_f_14 : fI f_14 a0 15 = fI fw181 a0 15 := by rw [ef_14]; exact hs.fI_aU rfl _ _
            have t16_f_14 : fI f_14 a0 16 = fI fw181 a0 16 := by rw [ef_14]; exact hs.fI_aU rfl _ _
            have t17_f_14 : fI f_14 a0 17 = fI fw181 a0 17 := by rw [ef_14]; exact hs.fI_aU rfl _ _
            have t19_f_14 : fI f_14 a0 19 = fI fw181 a0 19 := by rw [ef_14]; exact hs.fI_aU rfl _ _
            have t20_f_14 : fI f_14 a0 20 = fI fw181 a0 20 := by rw [ef_14]; exact hs.fI_aU rfl _ _
            have t22_f_14 : fI f_14 a0 22 = fI fw181 a0 22 := by rw [ef_14]; exact hs.fI_aU rfl _ _
            have hE := hE.trans (show Kp a0 ad [4, 21] [5, 9, 10, 14, 15, 16, 17, 18, 19, 20, 22] fw181 f_14 by rw [ef_14]; exact Kp_aU hs rfl (by decide))
            have hs_ := hs
            have hs : MS cy L0 f_14 a0 ad := by rw [ef_14]; exact MS_aU hs rfl
            rw [← ef_14] at hw
            have Q8 : aI f_14 (ad 8) = aI f0 (ad 8) := funext fun x => hE.1 8 rfl (by decide) x
            have c21_0_f_14 : aI f_14 (ad 21) 0 = aI fw181 (ad 21) 0 := by rw [ef_14]; exact hs_.aI_ne rfl rfl (by decide) _
            have c21_1_f_14 : aI f_14 (ad 21) 1 = aI fw181 (ad 21) 1 := by rw [ef_14]; exact hs_.aI_ne rfl rfl (by decide) _
            have c21_2_f_14 : aI f_14 (ad 21) 2 = aI fw181 (ad 21) 2 := by rw [ef_14]; exact hs_.aI_ne rfl rfl (by decide) _
            have c21_3_f_14 : aI f_14 (ad 21) 3 = aI fw181 (ad 21) 3 := by rw [ef_14]; exact hs_.aI_ne rfl rfl (by decide) _
            have c21_4_f_14 : aI f_14 (ad 21) 4 = aI fw181 (ad 21) 4 := by rw [ef_14]; exact hs_.aI_ne rfl rfl (by decide) _
            have c21_5_f_14 : aI f_14 (ad 21) 5 = aI fw181 (ad 21) 5 := by rw [ef_14]; exact hs_.aI_ne rfl rfl (by decide) _
            have c21_6_f_14 : aI f_14 (ad 21) 6 = aI fw181 (ad 21) 6 := by rw [ef_14]; exact hs_.aI_ne rfl rfl (by decide) _
            have c21_7_f_14 : aI f_14 (ad 21) 7 = aI fw181 (ad 21) 7 := by rw [ef_14]; exact hs_.aI_ne rfl rfl (by decide) _
            have c21_8_f_14 : aI f_14 (ad 21) 8 = aI fw181 (ad 21) 8 := by rw [ef_14]; exact hs_.aI_ne rfl rfl (by decide) _
            have c21_9_f_14 : aI f_14 (ad 21) 9 = aI fw181 (ad 21) 9 := by rw [ef_14]; exact hs_.aI_ne rfl rfl (by decide) _
            have c21_10_f_14 : aI f_14 (ad 21) 10 = aI fw181 (ad 21) 10 := by rw [ef_14]; exact hs_.aI_ne rfl rfl (by decide) _
            have c21_11_f_14 : aI f_14 (ad 21) 11 = aI fw181 (ad 21) 11 := by rw [ef_14]; exact hs_.aI_ne rfl rfl (by decide) _
            have h4 : ∀ x : Int, 0 ≤ x → x < 44 * fI f0 a0 5 → aI f_14 (ad 4) x = aI f0 (ad 4) x := fun x q0 q1 => Eq.trans (by rw [ef_14]; exact hs_.aI_nj rfl (by omega) q0 (by omega)) (h4 x q0 q1)
            have cp : ∀ j : Int, 0 ≤ j → j < y1_181 + 1 → aI f_14 (ad 4) (44 * fI f0 a0 5 + j) = aI f_14 (ad 21) j := by
              intro j q0 q1
              have a1 : aI f_14 (ad 21) j = aI fw181 (ad 21) j := by rw [ef_14]; exact hs_.aI_ne rfl rfl (by decide) _
              by_cases ej : 44 * fI f0 a0 5 + j = x_12
              · have a2 : aI f_14 (ad 4) x_12 = x_13 := by rw [ef_14]; exact hs_.aI_self rfl ⟨by omega, by omega⟩
                have a3 : j = y1_181 := by omega
                rw [ej, a2, a1, a3]; assumption
              · have a2 : aI f_14 (ad 4) (44 * fI f0 a0 5 + j) = aI fw181 (ad 4) (44 * fI f0 a0 5 + j) := by rw [ef_14]; exact hs_.aI_nj rfl (by omega) (by omega) ej
                rw [a2, a1]; exact cp j q0 (by omega)
            have bw9 : ∀ j : Int, 0 ≤ j → j ≤ 10 → aI f_14 (ad 21) j = bkW Tt nn j := fun j q0 q1 => Eq.trans (by rw [ef_14]; exact hs_.aI_ne rfl rfl (by decide) _) (bw j q0 q1)
            obtain ⟨x_15, lx_15, ux_15, hx_15, ex_15⟩ := q_inc y1_181 (1)
            try (replace ex_15 : x_15 = y1_181 + (1) := by omega)
            refine lv_iinc (v := iI x_15) (lv' := [(1, .int (iI x_15)), (0, .ref a0)]) hx hb dX10_book_207 hl (k := 1) rfl hx_15 (by decide) rfl (fun ls hl => ?_)
            refine lv_goto (tgt := 181) hx hb dX10_book_210 (by decide) ?_
            exact ih181 x_15 lx_15 ux_15 L0 f_14 hs hE h4 (by omega) (by omega) (by omega) (by omega) (by omega) (by omega) (by first | exact bw | exact bw9) (by omega) (by first | exact fun j q0 q1 => cp j q0 (by omega) | (intro j q0 q1; omega)) (by omega) _ _ _ hw (lv_sub hl [1, 0] rfl)
      exact J181 ((((2147483647 : Int) - 0).toNat) + 1) 0 (by decide) (by decide) L0 f_4 hs hE h4 (by omega) (by omega) (by omega) (by omega) (by omega) (by omega) (by first | exact bw | exact bw9) (by omega) (by first | exact fun j q0 q1 => cp j q0 (by omega) | (intro j q0 q1; omega)) (by omega) _ _ _ hw (lv_sub hl [1, 0] rfl)
    · have nz : bkF Tt nn ≠ 0 := by omega
      refine q_bipush hx hb dX10_book_150 rfl ?_
      refine lv_aload_n hx hb dX10_book_152 rfl (lv_at hl 0 rfl) ?_
      refine q_geti (ci := 8) (C := RX10) (T := TX10) (N := 26) hx hb hts (fun w h => List.mem_cons_of_mem _ (mfX100 w h)) hown hK hw hs.1 hs.2.1 rfl 20 (by decide) (hts _ (List.mem_cons_of_mem _ (mr19 _ (List.mem_of_getElem? (i := 2) rfl)))) (fun _ h => h) rfl dX10_book_153 (fun x_16 lx_16 ux_16 ex_16 => ?_)
      first | refine q_isub hx hb dX10_book_156 ⟨by omega, by omega⟩ (fun x_17 lx_17 ux_17 ex_17 => ?_) | refine q_isubw hx hb dX10_book_156 (fun x_17 lx_17 ux_17 ex_17 => ?_)
      exact q_ret_i hx hb hr hlocks hK hAe hw ⟨lx_17, ux_17⟩ (Nat.le_of_ble_eq_true rfl) (Nat.le_of_ble_eq_true rfl) dX10_book_157 (by exact ⟨rfl, hs, hE, hv.same (by omega) h4, by omega, by omega, by omega, Or.inr (Or.inl ⟨by omega, by omega, nz, by omega, by omega, h4⟩)⟩)
  have J139 : ∀ (L : List Nat) (fw139 : Nat → va_E) (hs : MS cy L0 fw139 a0 ad) (hE : Kp a0 ad [4, 21] [5, 9, 10, 14, 15, 16, 17, 18, 19, 20, 22] f0 fw139) (h4 : ∀ x : Int, 0 ≤ x → x < 44 * fI f0 a0 5 → aI fw139 (ad 4) x = aI f0 (ad 4) x) (i5 : fI fw139 a0 14 = nn) (u5 : fI fw139 a0 5 = fI f0 a0 5) (u9 : fI fw139 a0 9 = 0) (n11 : fI f0 a0 5 ≤ 11) (n1 : nn ≤ 160) (ps : PSr Tt nn fw139 a0 (sq (sq (sq (plF Tt nn 0) (ruF Tt nn (bE6 Tt nn))) (wS Tt nn (bE7 Tt nn) wFrom)) (daF Tt nn (tQn Tt nn 1 (bE7 Tt nn)))) (tQn Tt nn 4 (bE7 Tt nn))) (w0 : RVq (sq (wS Tt nn 0 wBook) (nS Tt nn (tQn Tt nn 1 0) 0 7)) (vN Tt nn (tQn Tt nn 1 0)) (aI fw139 (ad 21) 0)) (w1 : RVq (sq (sq (sq (wS Tt nn 0 wBook) (nS Tt nn (tQn Tt nn 1 0) 0 7)) (wS Tt nn (tQn Tt nn 2 0) wAt)) (nS Tt nn (tQn Tt nn 3 0) 0 1439)) (vN Tt nn (tQn Tt nn 3 0)) (aI fw139 (ad 21) 1)) (w2 : RVq (plF Tt nn 0) (vN Tt nn (tQn Tt nn 5 0)) (aI fw139 (ad 21) 2)) (w4 : RQ4 (sq (plF Tt nn 0) (ruF Tt nn (bE6 Tt nn))) fw139 (ad 21) (ruK Tt nn (bE6 Tt nn)) (ruN Tt nn (bE6 Tt nn)) (rfV (ruK Tt nn (bE6 Tt nn)) (ruV Tt nn (bE6 Tt nn)) (ruW Tt nn (bE6 Tt nn))) (rfW (ruK Tt nn (bE6 Tt nn)) (ruW Tt nn (bE6 Tt nn)))) (w5 : RVq (sq (sq (sq (plF Tt nn 0) (ruF Tt nn (bE6 Tt nn))) (wS Tt nn (bE7 Tt nn) wFrom)) (daF Tt nn (tQn Tt nn 1 (bE7 Tt nn)))) (daV Tt nn (tQn Tt nn 1 (bE7 Tt nn))) (aI fw139 (ad 21) 5)) (H : Heap) (locs : List Loc) (ls : Array Slot) (hw : Wd D A s.heap L0 fw139 H locs) (hl : lv_has ls 2 [(0, .ref a0)]), W p l e ({ frames := 10, cells := 0, slots := 0, locals := 210 } : Room) s m ([.ref a0] : List Value).toArray below meth c H locs (0) (0) (MQ below (Qi D (tq cy) L0 f0 s.heap.size (fun (r : Int) (L1 : List Nat) (f1 : Nat → va_E) => L0 = L1 ∧ MS cy L0 f1 a0 ad ∧ Kp a0 ad [4, 21] [5, 9, 10, 14, 15, 16, 17, 18, 19, 20, 22] f0 f1 ∧ (MV f1 a0 ad ∧ fI f1 a0 9 = 0 ∧ 0 ≤ fI f1 a0 15 ∧ fI f1 a0 15 ≤ 168 ∧ ((r = -1 ∧ (160 < nn ∨ 12 ≤ fI f0 a0 5) ∧ fI f1 a0 5 = fI f0 a0 5 ∧ (∀ x : Int, 0 ≤ x → x < 44 * fI f0 a0 5 → aI f1 (ad 4) x = aI f0 (ad 4) x)) ∨ (nn ≤ 160 ∧ fI f0 a0 5 < 12 ∧ bkF Tt nn ≠ 0 ∧ r = -2 - bkF Tt nn ∧ fI f1 a0 5 = fI f0 a0 5 ∧ (∀ x : Int, 0 ≤ x → x < 44 * fI f0 a0 5 → aI f1 (ad 4) x = aI f0 (ad 4) x)) ∨ (nn ≤ 160 ∧ fI f0 a0 5 < 12 ∧ bkF Tt nn = 0 ∧ r = fI f0 a0 5 ∧ fI f1 a0 5 = fI f0 a0 5 + 1 ∧ (∀ x : Int, 0 ≤ x → x < 44 * fI f0 a0 5 → aI f1 (ad 4) x = aI f0 (ad 4) x) ∧ (∀ j : Int, 0 ≤ j → j ≤ 10 → aI f1 (ad 4) (44 * fI f0 a0 5 + j) = bkW Tt nn j) ∧ aI f1 (ad 4) (44 * fI f0 a0 5 + 11) = 0))))) ([.ref a0] : List Value).toArray s 0 0 A) (F0 m 139 ls []) := by
    intro L fw139 hs hE h4 i5 u5 u9 n11 n1 ps w0 w1 w2 w4 w5 H locs ls hw hl
    have ps1 := ps.1
    have ps2 := ps.2.1
    have ps3 := ps.2.2.1
    have ps4 := ps.2.2.2.1
    have ps5 := ps.2.2.2.2.1
    have ps6 := ps.2.2.2.2.2.1
    have Q8 : aI fw139 (ad 8) = aI f0 (ad 8) := funext fun x => hE.1 8 rfl (by decide) x
    refine lv_aload_n hx hb dX10_book_139 rfl (lv_at hl 0 rfl) ?_
    refine q_call_v hA hK hw (va_runV (As := []) (rest := []) ⟨hx, hb, hml, hown, hts⟩ (c_X10_endTold_p zo l D cy L0 fw139 a0 ad hs Tt nn n0 n1 (by omega) (by first | exact hT | exact fun i q0 q1 => (congrFun Q8 i).trans (hT i q0 q1)) bT _ _ ps (by omega) (by omega) (by first | exact hd | exact hd.kp hE (by decide) (by decide) (by decide) (by decide)) _) (cwV 0 hts (gT (inV (mr22 _ (List.mem_of_getElem? (i := 1) rfl)) (mr22 _ (List.mem_of_getElem? (i := 2) rfl)) (mr22 _ (List.mem_of_getElem? (i := 3) rfl)) (mr1 _ (List.mem_of_getElem? (i := 5) rfl)) (mr22 _ (List.mem_of_getElem? (i := 4) rfl)))) rfl rfl rfl (by decide +kernel) ⟨Nat.le_of_ble_eq_true rfl, Nat.le_of_ble_eq_true rfl⟩) (Wd.preV zo hA hZ hw hK hs.1 hs.2.1 rfl) rfl rfl hl.1 rfl (lv_room (Nat.le_of_ble_eq_true rfl)) dX10_book_140 ⟨Nat.le_of_ble_eq_true rfl, Nat.le_of_ble_eq_true rfl⟩) (fun L1 f_19 H locs ex_18 hw => ?_)
    obtain ⟨rfl, hs, hX, ex_18⟩ := ex_18
    have hE := hE.trans (hX.mono (rs' := [4, 21]) (fs' := [5, 9, 10, 14, 15, 16, 17, 18, 19, 20, 22]) (by decide) (by decide))
    have t5_f_19 : fI f_19 a0 5 = fI fw139 a0 5 := hX.2 5 (by decide)
    have t9_f_19 : fI f_19 a0 9 = fI fw139 a0 9 := hX.2 9 (by decide)
    have t14_f_19 : fI f_19 a0 14 = fI fw139 a0 14 := hX.2 14 (by decide)
    have h4 : ∀ x : Int, 0 ≤ x → x < 44 * fI f0 a0 5 → aI f_19 (ad 4) x = aI f0 (ad 4) x := fun x q0 q1 => (hX.1 4 rfl (by decide) x).trans (h4 x q0 q1)
    have Q8 : aI f_19 (ad 8) = aI f0 (ad 8) := funext fun x => hE.1 8 rfl (by decide) x
    obtain ⟨ps, w8, q0, q1, q2, q3, q4, q5, q6, q7⟩ := ex_18
    have eq9 : sq (sq (sq (sq (plF Tt nn 0) (ruF Tt nn (bE6 Tt nn))) (wS Tt nn (bE7 Tt nn) wFrom)) (daF Tt nn (tQn Tt nn 1 (bE7 Tt nn)))) (etX Tt nn (tQn Tt nn 4 (bE7 Tt nn)) (aI fw139 (ad 21) 5)) = bkF Tt nn := (sq_cg (fun z => by rw [w5 z])).trans (bk_sq rfl)
    have ps : PSr Tt nn f_19 a0 (bkF Tt nn) (etE Tt nn (tQn Tt nn 4 (bE7 Tt nn))) := ps.to eq9.symm rfl
    have w8 : RQ2 (bkF Tt nn) f_19 (ad 21) (etU Tt nn (tQn Tt nn 4 (bE7 Tt nn))) (etT Tt nn (tQn Tt nn 4 (bE7 Tt nn))) := fun z => w8 (eq9.trans z)
    exact J143 L0 f_19 hs hE h4 (by omega) (by omega) (by omega) (by omega) (by omega) (by exact ps) (by exact w0.to (fun z => z) (by omega)) (by exact w1.to (fun z => z) (by omega)) (by exact w2.to (fun z => z) (by omega)) (by exact w4.to (fun z => z) (by omega) (by omega) (by omega) (by omega)) (by exact w5.to (fun z => z) (by omega)) (by exact w8) _ _ _ hw (lv_sub hl [0] rfl)
  have J129 : ∀ (L : List Nat) (fw129 : Nat → va_E) (hs : MS cy L0 fw129 a0 ad) (hE : Kp a0 ad [4, 21] [5, 9, 10, 14, 15, 16, 17, 18, 19, 20, 22] f0 fw129) (h4 : ∀ x : Int, 0 ≤ x → x < 44 * fI f0 a0 5 → aI fw129 (ad 4) x = aI f0 (ad 4) x) (i5 : fI fw129 a0 14 = nn) (u5 : fI fw129 a0 5 = fI f0 a0 5) (u9 : fI fw129 a0 9 = 0) (n11 : fI f0 a0 5 ≤ 11) (n1 : nn ≤ 160) (ps : PSr Tt nn fw129 a0 (sq (sq (plF Tt nn 0) (ruF Tt nn (bE6 Tt nn))) (wS Tt nn (bE7 Tt nn) wFrom)) (tQn Tt nn 1 (bE7 Tt nn))) (w0 : RVq (sq (wS Tt nn 0 wBook) (nS Tt nn (tQn Tt nn 1 0) 0 7)) (vN Tt nn (tQn Tt nn 1 0)) (aI fw129 (ad 21) 0)) (w1 : RVq (sq (sq (sq (wS Tt nn 0 wBook) (nS Tt nn (tQn Tt nn 1 0) 0 7)) (wS Tt nn (tQn Tt nn 2 0) wAt)) (nS Tt nn (tQn Tt nn 3 0) 0 1439)) (vN Tt nn (tQn Tt nn 3 0)) (aI fw129 (ad 21) 1)) (w2 : RVq (plF Tt nn 0) (vN Tt nn (tQn Tt nn 5 0)) (aI fw129 (ad 21) 2)) (w4 : RQ4 (sq (plF Tt nn 0) (ruF Tt nn (bE6 Tt nn))) fw129 (ad 21) (ruK Tt nn (bE6 Tt nn)) (ruN Tt nn (bE6 Tt nn)) (rfV (ruK Tt nn (bE6 Tt nn)) (ruV Tt nn (bE6 Tt nn)) (ruW Tt nn (bE6 Tt nn))) (rfW (ruK Tt nn (bE6 Tt nn)) (ruW Tt nn (bE6 Tt nn)))) (H : Heap) (locs : List Loc) (ls : Array Slot) (hw : Wd D A s.heap L0 fw129 H locs) (hl : lv_has ls 2 [(0, .ref a0)]), W p l e ({ frames := 10, cells := 0, slots := 0, locals := 210 } : Room) s m ([.ref a0] : List Value).toArray below meth c H locs (0) (0) (MQ below (Qi D (tq cy) L0 f0 s.heap.size (fun (r : Int) (L1 : List Nat) (f1 : Nat → va_E) => L0 = L1 ∧ MS cy L0 f1 a0 ad ∧ Kp a0 ad [4, 21] [5, 9, 10, 14, 15, 16, 17, 18, 19, 20, 22] f0 f1 ∧ (MV f1 a0 ad ∧ fI f1 a0 9 = 0 ∧ 0 ≤ fI f1 a0 15 ∧ fI f1 a0 15 ≤ 168 ∧ ((r = -1 ∧ (160 < nn ∨ 12 ≤ fI f0 a0 5) ∧ fI f1 a0 5 = fI f0 a0 5 ∧ (∀ x : Int, 0 ≤ x → x < 44 * fI f0 a0 5 → aI f1 (ad 4) x = aI f0 (ad 4) x)) ∨ (nn ≤ 160 ∧ fI f0 a0 5 < 12 ∧ bkF Tt nn ≠ 0 ∧ r = -2 - bkF Tt nn ∧ fI f1 a0 5 = fI f0 a0 5 ∧ (∀ x : Int, 0 ≤ x → x < 44 * fI f0 a0 5 → aI f1 (ad 4) x = aI f0 (ad 4) x)) ∨ (nn ≤ 160 ∧ fI f0 a0 5 < 12 ∧ bkF Tt nn = 0 ∧ r = fI f0 a0 5 ∧ fI f1 a0 5 = fI f0 a0 5 + 1 ∧ (∀ x : Int, 0 ≤ x → x < 44 * fI f0 a0 5 → aI f1 (ad 4) x = aI f0 (ad 4) x) ∧ (∀ j : Int, 0 ≤ j → j ≤ 10 → aI f1 (ad 4) (44 * fI f0 a0 5 + j) = bkW Tt nn j) ∧ aI f1 (ad 4) (44 * fI f0 a0 5 + 11) = 0))))) ([.ref a0] : List Value).toArray s 0 0 A) (F0 m 129 ls []) := by
    intro L fw129 hs hE h4 i5 u5 u9 n11 n1 ps w0 w1 w2 w4 H locs ls hw hl
    have ps1 := ps.1
    have ps2 := ps.2.1
    have ps3 := ps.2.2.1
    have ps4 := ps.2.2.2.1
    have ps5 := ps.2.2.2.2.1
    have ps6 := ps.2.2.2.2.2.1
    have Q8 : aI fw129 (ad 8) = aI f0 (ad 8) := funext fun x => hE.1 8 rfl (by decide) x
    refine lv_aload_n hx hb dX10_book_129 rfl (lv_at hl 0 rfl) ?_
    refine q_getr (ci := 8) (C := RX10) (T := TX10) (N := 26) hx hb hts (fun w h => List.mem_cons_of_mem _ (mfX100 w h)) hown hK hw hs.1 hs.2.1 rfl 21 (by decide) (hts _ (List.mem_cons_of_mem _ (mr3 _ (List.mem_of_getElem? (i := 22) rfl)))) (fun _ h => h) rfl (hs.2.2.1 21 rfl).1 dX10_book_130 ?_
    refine q_iconst hx hb dX10_book_133 ?_
    refine lv_aload_n hx hb dX10_book_134 rfl (lv_at hl 0 rfl) ?_
    refine q_call_i hA hK hw (va_runV (As := []) (rest := [.int (iI 5), .ref (ad 21)]) ⟨hx, hb, hml, hown, hts⟩ (c_X10_dateTold_p zo l D cy L0 fw129 a0 ad hs Tt nn n0 n1 (by omega) (by first | exact hT | exact fun i q0 q1 => (congrFun Q8 i).trans (hT i q0 q1)) bT _ _ ps (by omega) (by omega) (by first | exact hd | exact hd.kp hE (by decide) (by decide) (by decide) (by decide)) _) (cwV 0 hts (gT (inV (mr21 _ (List.mem_of_getElem? (i := 16) rfl)) (mr21 _ (List.mem_of_getElem? (i := 17) rfl)) (mr21 _ (List.mem_of_getElem? (i := 18) rfl)) (mr1 _ (List.mem_of_getElem? (i := 5) rfl)) (mr21 _ (List.mem_of_getElem? (i := 19) rfl)))) rfl rfl rfl (by decide +kernel) ⟨Nat.le_of_ble_eq_true rfl, Nat.le_of_ble_eq_true rfl⟩) (Wd.preV zo hA hZ hw hK hs.1 hs.2.1 rfl) rfl rfl hl.1 rfl (lv_room (Nat.le_of_ble_eq_true rfl)) dX10_book_135 ⟨Nat.le_of_ble_eq_true rfl, Nat.le_of_ble_eq_true rfl⟩) (fun x_20 L1 f_21 H locs lx_20 ux_20 ex_20 hw => ?_)
    obtain ⟨rfl, hs, hX, ex_20⟩ := ex_20
    have hE := hE.trans (hX.mono (rs' := [4, 21]) (fs' := [5, 9, 10, 14, 15, 16, 17, 18, 19, 20, 22]) (by decide) (by decide))
    have t5_f_21 : fI f_21 a0 5 = fI fw129 a0 5 := hX.2 5 (by decide)
    have t9_f_21 : fI f_21 a0 9 = fI fw129 a0 9 := hX.2 9 (by decide)
    have t14_f_21 : fI f_21 a0 14 = fI fw129 a0 14 := hX.2 14 (by decide)
    have c21_0_f_21 : aI f_21 (ad 21) 0 = aI fw129 (ad 21) 0 := hX.1 21 rfl (by decide) _
    have c21_1_f_21 : aI f_21 (ad 21) 1 = aI fw129 (ad 21) 1 := hX.1 21 rfl (by decide) _
    have c21_2_f_21 : aI f_21 (ad 21) 2 = aI fw129 (ad 21) 2 := hX.1 21 rfl (by decide) _
    have c21_3_f_21 : aI f_21 (ad 21) 3 = aI fw129 (ad 21) 3 := hX.1 21 rfl (by decide) _
    have c21_4_f_21 : aI f_21 (ad 21) 4 = aI fw129 (ad 21) 4 := hX.1 21 rfl (by decide) _
    have c21_5_f_21 : aI f_21 (ad 21) 5 = aI fw129 (ad 21) 5 := hX.1 21 rfl (by decide) _
    have c21_6_f_21 : aI f_21 (ad 21) 6 = aI fw129 (ad 21) 6 := hX.1 21 rfl (by decide) _
    have c21_7_f_21 : aI f_21 (ad 21) 7 = aI fw129 (ad 21) 7 := hX.1 21 rfl (by decide) _
    have c21_8_f_21 : aI f_21 (ad 21) 8 = aI fw129 (ad 21) 8 := hX.1 21 rfl (by decide) _
    have c21_9_f_21 : aI f_21 (ad 21) 9 = aI fw129 (ad 21) 9 := hX.1 21 rfl (by decide) _
    have c21_10_f_21 : aI f_21 (ad 21) 10 = aI fw129 (ad 21) 10 := hX.1 21 rfl (by decide) _
    have c21_11_f_21 : aI f_21 (ad 21) 11 = aI fw129 (ad 21) 11 := hX.1 21 rfl (by decide) _
    have h4 : ∀ x : Int, 0 ≤ x → x < 44 * fI f0 a0 5 → aI f_21 (ad 4) x = aI f0 (ad 4) x := fun x q0 q1 => (hX.1 4 rfl (by decide) x).trans (h4 x q0 q1)
    have Q8 : aI f_21 (ad 8) = aI f0 (ad 8) := funext fun x => hE.1 8 rfl (by decide) x
    obtain ⟨ps, v135, r1, r2, r3⟩ := ex_20
    have ps : PSr Tt nn f_21 a0 (sq (sq (sq (plF Tt nn 0) (ruF Tt nn (bE6 Tt nn))) (wS Tt nn (bE7 Tt nn) wFrom)) (daF Tt nn (tQn Tt nn 1 (bE7 Tt nn)))) (tQn Tt nn 4 (bE7 Tt nn)) := ps
    refine q_iast hx hb hK hw (hs.2.2.1 21 rfl).2.1 1 (hs.2.2.1 21 rfl).2.2 rfl ⟨by decide, by decide⟩ (by omega) (by show _ < ((44 : Nat) : Int); omega) dX10_book_138 (fun H locs hw => ?_)
    obtain ⟨f_22, ef_22⟩ : ∃ g : Nat → va_E, g = aU f_21 (ad 21) 5 (iI x_20) := ⟨_, rfl⟩
    have t5_f_22 : fI f_22 a0 5 = fI f_21 a0 5 := by rw [ef_22]; exact hs.fI_aU rfl _ _
    have t9_f_22 : fI f_22 a0 9 = fI f_21 a0 9 := by rw [ef_22]; exact hs.fI_aU rfl _ _
    have t14_f_22 : fI f_22 a0 14 = fI f_21 a0 14 := by rw [ef_22]; exact hs.fI_aU rfl _ _
    have t15_f_22 : fI f_22 a0 15 = fI f_21 a0 15 := by rw [ef_22]; exact hs.fI_aU rfl _ _
    have t16_f_22 : fI f_22 a0 16 = fI f_21 a0 16 := by rw [ef_22]; exact hs.fI_aU rfl _ _
    have t17_f_22 : fI f_22 a0 17 = fI f_21 a0 17 := by rw [ef_22]; exact hs.fI_aU rfl _ _
    have t19_f_22 : fI f_22 a0 19 = fI f_21 a0 19 := by rw [ef_22]; exact hs.fI_aU rfl _ _
    have t20_f_22 : fI f_22 a0 20 = fI f_21 a0 20 := by rw [ef_22]; exact hs.fI_aU rfl _ _
    have t22_f_22 : fI f_22 a0 22 = fI f_21 a0 22 := by rw [ef_22]; exact hs.fI_aU rfl _ _
    have hE := hE.trans (show Kp a0 ad [4, 21] [5, 9, 10, 14, 15, 16, 17, 18, 19, 20, 22] f_21 f_22 by rw [ef_22]; exact Kp_aU hs rfl (by decide))
    have hs_ := hs
    have hs : MS cy L0 f_22 a0 ad := by rw [ef_22]; exact MS_aU hs rfl
    rw [← ef_22] at hw
    have Q8 : aI f_22 (ad 8) = aI f0 (ad 8) := funext fun x => hE.1 8 rfl (by decide) x
    have c21_0_f_22 : aI f_22 (ad 21) 0 = aI f_21 (ad 21) 0 := by rw [ef_22]; exact hs_.aI_nj rfl (by decide) (by decide) (by decide)
    have c21_1_f_22 : aI f_22 (ad 21) 1 = aI f_21 (ad 21) 1 := by rw [ef_22]; exact hs_.aI_nj rfl (by decide) (by decide) (by decide)
    have c21_2_f_22 : aI f_22 (ad 21) 2 = aI f_21 (ad 21) 2 := by rw [ef_22]; exact hs_.aI_nj rfl (by decide) (by decide) (by decide)
    have c21_3_f_22 : aI f_22 (ad 21) 3 = aI f_21 (ad 21) 3 := by rw [ef_22]; exact hs_.aI_nj rfl (by decide) (by decide) (by decide)
    have c21_4_f_22 : aI f_22 (ad 21) 4 = aI f_21 (ad 21) 4 := by rw [ef_22]; exact hs_.aI_nj rfl (by decide) (by decide) (by decide)
    have c21_5_f_22 : aI f_22 (ad 21) 5 = x_20 := by rw [ef_22]; exact hs_.aI_self rfl ⟨lx_20, ux_20⟩
    have c21_6_f_22 : aI f_22 (ad 21) 6 = aI f_21 (ad 21) 6 := by rw [ef_22]; exact hs_.aI_nj rfl (by decide) (by decide) (by decide)
    have c21_7_f_22 : aI f_22 (ad 21) 7 = aI f_21 (ad 21) 7 := by rw [ef_22]; exact hs_.aI_nj rfl (by decide) (by decide) (by decide)
    have c21_8_f_22 : aI f_22 (ad 21) 8 = aI f_21 (ad 21) 8 := by rw [ef_22]; exact hs_.aI_nj rfl (by decide) (by decide) (by decide)
    have c21_9_f_22 : aI f_22 (ad 21) 9 = aI f_21 (ad 21) 9 := by rw [ef_22]; exact hs_.aI_nj rfl (by decide) (by decide) (by decide)
    have c21_10_f_22 : aI f_22 (ad 21) 10 = aI f_21 (ad 21) 10 := by rw [ef_22]; exact hs_.aI_nj rfl (by decide) (by decide) (by decide)
    have c21_11_f_22 : aI f_22 (ad 21) 11 = aI f_21 (ad 21) 11 := by rw [ef_22]; exact hs_.aI_nj rfl (by decide) (by decide) (by decide)
    have h4 : ∀ x : Int, 0 ≤ x → x < 44 * fI f0 a0 5 → aI f_22 (ad 4) x = aI f0 (ad 4) x := fun x q0 q1 => Eq.trans (by rw [ef_22]; exact hs_.aI_ne rfl rfl (by decide) _) (h4 x q0 q1)
    have ps := ps.aU (hs_.2.2.1 21 rfl).2.2 ef_22
    have w5 : RVq (sq (sq (sq (plF Tt nn 0) (ruF Tt nn (bE6 Tt nn))) (wS Tt nn (bE7 Tt nn) wFrom)) (daF Tt nn (tQn Tt nn 1 (bE7 Tt nn)))) (daV Tt nn (tQn Tt nn 1 (bE7 Tt nn))) (aI f_22 (ad 21) 5) := v135.to (fun z => z) (by omega)
    exact J139 L0 f_22 hs hE h4 (by omega) (by omega) (by omega) (by omega) (by omega) (by exact ps) (by exact w0.to (fun z => z) (by omega)) (by exact w1.to (fun z => z) (by omega)) (by exact w2.to (fun z => z) (by omega)) (by exact w4.to (fun z => z) (by omega) (by omega) (by omega) (by omega)) (by exact w5.to (fun z => z) (by omega)) _ _ _ hw (lv_sub hl [0] rfl)
  have J123 : ∀ (L : List Nat) (fw123 : Nat → va_E) (hs : MS cy L0 fw123 a0 ad) (hE : Kp a0 ad [4, 21] [5, 9, 10, 14, 15, 16, 17, 18, 19, 20, 22] f0 fw123) (h4 : ∀ x : Int, 0 ≤ x → x < 44 * fI f0 a0 5 → aI fw123 (ad 4) x = aI f0 (ad 4) x) (i5 : fI fw123 a0 14 = nn) (u5 : fI fw123 a0 5 = fI f0 a0 5) (u9 : fI fw123 a0 9 = 0) (n11 : fI f0 a0 5 ≤ 11) (n1 : nn ≤ 160) (ps : PSr Tt nn fw123 a0 (sq (plF Tt nn 0) (ruF Tt nn (bE6 Tt nn))) (bE7 Tt nn)) (w0 : RVq (sq (wS Tt nn 0 wBook) (nS Tt nn (tQn Tt nn 1 0) 0 7)) (vN Tt nn (tQn Tt nn 1 0)) (aI fw123 (ad 21) 0)) (w1 : RVq (sq (sq (sq (wS Tt nn 0 wBook) (nS Tt nn (tQn Tt nn 1 0) 0 7)) (wS Tt nn (tQn Tt nn 2 0) wAt)) (nS Tt nn (tQn Tt nn 3 0) 0 1439)) (vN Tt nn (tQn Tt nn 3 0)) (aI fw123 (ad 21) 1)) (w2 : RVq (plF Tt nn 0) (vN Tt nn (tQn Tt nn 5 0)) (aI fw123 (ad 21) 2)) (w4 : RQ4 (sq (plF Tt nn 0) (ruF Tt nn (bE6 Tt nn))) fw123 (ad 21) (ruK Tt nn (bE6 Tt nn)) (ruN Tt nn (bE6 Tt nn)) (rfV (ruK Tt nn (bE6 Tt nn)) (ruV Tt nn (bE6 Tt nn)) (ruW Tt nn (bE6 Tt nn))) (rfW (ruK Tt nn (bE6 Tt nn)) (ruW Tt nn (bE6 Tt nn)))) (H : Heap) (locs : List Loc) (ls : Array Slot) (hw : Wd D A s.heap L0 fw123 H locs) (hl : lv_has ls 2 [(0, .ref a0)]), W p l e ({ frames := 10, cells := 0, slots := 0, locals := 210 } : Room) s m ([.ref a0] : List Value).toArray below meth c H locs (0) (0) (MQ below (Qi D (tq cy) L0 f0 s.heap.size (fun (r : Int) (L1 : List Nat) (f1 : Nat → va_E) => L0 = L1 ∧ MS cy L0 f1 a0 ad ∧ Kp a0 ad [4, 21] [5, 9, 10, 14, 15, 16, 17, 18, 19, 20, 22] f0 f1 ∧ (MV f1 a0 ad ∧ fI f1 a0 9 = 0 ∧ 0 ≤ fI f1 a0 15 ∧ fI f1 a0 15 ≤ 168 ∧ ((r = -1 ∧ (160 < nn ∨ 12 ≤ fI f0 a0 5) ∧ fI f1 a0 5 = fI f0 a0 5 ∧ (∀ x : Int, 0 ≤ x → x < 44 * fI f0 a0 5 → aI f1 (ad 4) x = aI f0 (ad 4) x)) ∨ (nn ≤ 160 ∧ fI f0 a0 5 < 12 ∧ bkF Tt nn ≠ 0 ∧ r = -2 - bkF Tt nn ∧ fI f1 a0 5 = fI f0 a0 5 ∧ (∀ x : Int, 0 ≤ x → x < 44 * fI f0 a0 5 → aI f1 (ad 4) x = aI f0 (ad 4) x)) ∨ (nn ≤ 160 ∧ fI f0 a0 5 < 12 ∧ bkF Tt nn = 0 ∧ r = fI f0 a0 5 ∧ fI f1 a0 5 = fI f0 a0 5 + 1 ∧ (∀ x : Int, 0 ≤ x → x < 44 * fI f0 a0 5 → aI f1 (ad 4) x = aI f0 (ad 4) x) ∧ (∀ j : Int, 0 ≤ j → j ≤ 10 → aI f1 (ad 4) (44 * fI f0 a0 5 + j) = bkW Tt nn j) ∧ aI f1 (ad 4) (44 * fI f0 a0 5 + 11) = 0))))) ([.ref a0] : List Value).toArray s 0 0 A) (F0 m 123 ls []) := by
    intro L fw123 hs hE h4 i5 u5 u9 n11 n1 ps w0 w1 w2 w4 H locs ls hw hl
    have ps1 := ps.1
    have ps2 := ps.2.1
    have ps3 := ps.2.2.1
    have ps4 := ps.2.2.2.1
    have ps5 := ps.2.2.2.2.1
    have ps6 := ps.2.2.2.2.2.1
    have Q8 : aI fw123 (ad 8) = aI f0 (ad 8) := funext fun x => hE.1 8 rfl (by decide) x
    refine lv_aload_n hx hb dX10_book_123 rfl (lv_at hl 0 rfl) ?_
    obtain ⟨t_23, v_t_23, h_t_23⟩ : ∃ q v : Nat, ∀ (A : Nat → Prop) (U : State) (H : Heap), Z A U H → vk_R RX10 215 "from" q U ∧ Tx [102, 114, 111, 109] q v A U H := ztx_40 zo
    obtain ⟨b_t_23, eb_t_23⟩ : ∃ b : List Int32, b = [102, 114, 111, 109] := ⟨_, rfl⟩
    have nb_t_23 : Asc b_t_23 := by rw [eb_t_23]; exact ⟨by decide, by decide +kernel⟩
    have tx_t_23 : ∀ (A : Nat → Prop) (U : State) (H : Heap), Z A U H → Tx b_t_23 t_23 v_t_23 A U H := fun A U H h => by rw [eb_t_23]; exact (h_t_23 A U H h).2
    have wok_t_23 : WOK b_t_23 := by rw [eb_t_23]; unfold WOK; decide +kernel
    have eb_t_23 : b_t_23 = wFrom := by rw [eb_t_23]; rfl
    refine va_ldcS hx hb hown (h_t_23 _ _ _ hZ).1 dX10_book_124 ?_
    refine q_call_v hA hK hw (va_runV (As := [.ref t_23]) (rest := []) ⟨hx, hb, hml, hown, hts⟩ (c_X10_must_p zo l D cy L0 fw123 a0 t_23 b_t_23 v_t_23 nb_t_23 tx_t_23 ad hs wok_t_23 Tt nn n0 n1 (by omega) (by first | exact hT | exact fun i q0 q1 => (congrFun Q8 i).trans (hT i q0 q1)) bT _ _ ps (by omega) (by omega) _) (cwV 1 hts (gT (inV (mr19 _ (List.mem_of_getElem? (i := 23) rfl)) (mr20 _ (List.mem_of_getElem? (i := 0) rfl)) (mr20 _ (List.mem_of_getElem? (i := 1) rfl)) (mr1 _ (List.mem_of_getElem? (i := 5) rfl)) (mr20 _ (List.mem_of_getElem? (i := 2) rfl)))) rfl rfl rfl (by decide +kernel) ⟨Nat.le_of_ble_eq_true rfl, Nat.le_of_ble_eq_true rfl⟩) (Wd.preV zo hA hZ hw hK hs.1 hs.2.1 rfl) rfl rfl hl.1 rfl (lv_room (Nat.le_of_ble_eq_true rfl)) dX10_book_126 ⟨Nat.le_of_ble_eq_true rfl, Nat.le_of_ble_eq_true rfl⟩) (fun L1 f_25 H locs ex_24 hw => ?_)
    obtain ⟨rfl, hs, hX, ex_24⟩ := ex_24
    have hE := hE.trans (hX.mono (rs' := [4, 21]) (fs' := [5, 9, 10, 14, 15, 16, 17, 18, 19, 20, 22]) (by decide) (by decide))
    have t5_f_25 : fI f_25 a0 5 = fI fw123 a0 5 := hX.2 5 (by decide)
    have t9_f_25 : fI f_25 a0 9 = fI fw123 a0 9 := hX.2 9 (by decide)
    have t14_f_25 : fI f_25 a0 14 = fI fw123 a0 14 := hX.2 14 (by decide)
    have t22_f_25 : fI f_25 a0 22 = fI fw123 a0 22 := hX.2 22 (by decide)
    have c21_0_f_25 : aI f_25 (ad 21) 0 = aI fw123 (ad 21) 0 := hX.1 21 rfl (by decide) _
    have c21_1_f_25 : aI f_25 (ad 21) 1 = aI fw123 (ad 21) 1 := hX.1 21 rfl (by decide) _
    have c21_2_f_25 : aI f_25 (ad 21) 2 = aI fw123 (ad 21) 2 := hX.1 21 rfl (by decide) _
    have c21_3_f_25 : aI f_25 (ad 21) 3 = aI fw123 (ad 21) 3 := hX.1 21 rfl (by decide) _
    have c21_4_f_25 : aI f_25 (ad 21) 4 = aI fw123 (ad 21) 4 := hX.1 21 rfl (by decide) _
    have c21_5_f_25 : aI f_25 (ad 21) 5 = aI fw123 (ad 21) 5 := hX.1 21 rfl (by decide) _
    have c21_6_f_25 : aI f_25 (ad 21) 6 = aI fw123 (ad 21) 6 := hX.1 21 rfl (by decide) _
    have c21_7_f_25 : aI f_25 (ad 21) 7 = aI fw123 (ad 21) 7 := hX.1 21 rfl (by decide) _
    have c21_8_f_25 : aI f_25 (ad 21) 8 = aI fw123 (ad 21) 8 := hX.1 21 rfl (by decide) _
    have c21_9_f_25 : aI f_25 (ad 21) 9 = aI fw123 (ad 21) 9 := hX.1 21 rfl (by decide) _
    have c21_10_f_25 : aI f_25 (ad 21) 10 = aI fw123 (ad 21) 10 := hX.1 21 rfl (by decide) _
    have c21_11_f_25 : aI f_25 (ad 21) 11 = aI fw123 (ad 21) 11 := hX.1 21 rfl (by decide) _
    have h4 : ∀ x : Int, 0 ≤ x → x < 44 * fI f0 a0 5 → aI f_25 (ad 4) x = aI f0 (ad 4) x := fun x q0 q1 => (hX.1 4 rfl (by decide) x).trans (h4 x q0 q1)
    have Q8 : aI f_25 (ad 8) = aI f0 (ad 8) := funext fun x => hE.1 8 rfl (by decide) x
    have ps : PSr Tt nn f_25 a0 (sq (sq (plF Tt nn 0) (ruF Tt nn (bE6 Tt nn))) (wS Tt nn (bE7 Tt nn) wFrom)) (tQn Tt nn 1 (bE7 Tt nn)) := by have q := ex_24; rw [eb_t_23] at q; exact q
    clear ex_24
    exact J129 L0 f_25 hs hE h4 (by omega) (by omega) (by omega) (by omega) (by omega) (by exact ps) (by exact w0.to (fun z => z) (by omega)) (by exact w1.to (fun z => z) (by omega)) (by exact w2.to (fun z => z) (by omega)) (by exact w4.to (fun z => z) (by omega) (by omega) (by omega) (by omega)) _ _ _ hw (lv_sub hl [0] rfl)
  have J112 : ∀ (L : List Nat) (fw112 : Nat → va_E) (hs : MS cy L0 fw112 a0 ad) (hE : Kp a0 ad [4, 21] [5, 9, 10, 14, 15, 16, 17, 18, 19, 20, 22] f0 fw112) (h4 : ∀ x : Int, 0 ≤ x → x < 44 * fI f0 a0 5 → aI fw112 (ad 4) x = aI f0 (ad 4) x) (i5 : fI fw112 a0 14 = nn) (u5 : fI fw112 a0 5 = fI f0 a0 5) (u9 : fI fw112 a0 9 = 0) (n11 : fI f0 a0 5 ≤ 11) (n1 : nn ≤ 160) (ps : PSr Tt nn fw112 a0 (plF Tt nn 0) (tQn Tt nn 6 0)) (w0 : RVq (sq (wS Tt nn 0 wBook) (nS Tt nn (tQn Tt nn 1 0) 0 7)) (vN Tt nn (tQn Tt nn 1 0)) (aI fw112 (ad 21) 0)) (w1 : RVq (sq (sq (sq (wS Tt nn 0 wBook) (nS Tt nn (tQn Tt nn 1 0) 0 7)) (wS Tt nn (tQn Tt nn 2 0) wAt)) (nS Tt nn (tQn Tt nn 3 0) 0 1439)) (vN Tt nn (tQn Tt nn 3 0)) (aI fw112 (ad 21) 1)) (w2 : RVq (plF Tt nn 0) (vN Tt nn (tQn Tt nn 5 0)) (aI fw112 (ad 21) 2)) (H : Heap) (locs : List Loc) (ls : Array Slot) (hw : Wd D A s.heap L0 fw112 H locs) (hl : lv_has ls 2 [(0, .ref a0)]), W p l e ({ frames := 10, cells := 0, slots := 0, locals := 210 } : Room) s m ([.ref a0] : List Value).toArray below meth c H locs (0) (0) (MQ below (Qi D (tq cy) L0 f0 s.heap.size (fun (r : Int) (L1 : List Nat) (f1 : Nat → va_E) => L0 = L1 ∧ MS cy L0 f1 a0 ad ∧ Kp a0 ad [4, 21] [5, 9, 10, 14, 15, 16, 17, 18, 19, 20, 22] f0 f1 ∧ (MV f1 a0 ad ∧ fI f1 a0 9 = 0 ∧ 0 ≤ fI f1 a0 15 ∧ fI f1 a0 15 ≤ 168 ∧ ((r = -1 ∧ (160 < nn ∨ 12 ≤ fI f0 a0 5) ∧ fI f1 a0 5 = fI f0 a0 5 ∧ (∀ x : Int, 0 ≤ x → x < 44 * fI f0 a0 5 → aI f1 (ad 4) x = aI f0 (ad 4) x)) ∨ (nn ≤ 160 ∧ fI f0 a0 5 < 12 ∧ bkF Tt nn ≠ 0 ∧ r = -2 - bkF Tt nn ∧ fI f1 a0 5 = fI f0 a0 5 ∧ (∀ x : Int, 0 ≤ x → x < 44 * fI f0 a0 5 → aI f1 (ad 4) x = aI f0 (ad 4) x)) ∨ (nn ≤ 160 ∧ fI f0 a0 5 < 12 ∧ bkF Tt nn = 0 ∧ r = fI f0 a0 5 ∧ fI f1 a0 5 = fI f0 a0 5 + 1 ∧ (∀ x : Int, 0 ≤ x → x < 44 * fI f0 a0 5 → aI f1 (ad 4) x = aI f0 (ad 4) x) ∧ (∀ j : Int, 0 ≤ j → j ≤ 10 → aI f1 (ad 4) (44 * fI f0 a0 5 + j) = bkW Tt nn j) ∧ aI f1 (ad 4) (44 * fI f0 a0 5 + 11) = 0))))) ([.ref a0] : List Value).toArray s 0 0 A) (F0 m 112 ls []) := by
    intro L fw112 hs hE h4 i5 u5 u9 n11 n1 ps w0 w1 w2 H locs ls hw hl
    have ps1 := ps.1
    have ps2 := ps.2.1
    have ps3 := ps.2.2.1
    have ps4 := ps.2.2.2.1
    have ps5 := ps.2.2.2.2.1
    have ps6 := ps.2.2.2.2.2.1
    have Q8 : aI fw112 (ad 8) = aI f0 (ad 8) := funext fun x => hE.1 8 rfl (by decide) x
    refine lv_aload_n hx hb dX10_book_112 rfl (lv_at hl 0 rfl) ?_
    refine q_geti (ci := 8) (C := RX10) (T := TX10) (N := 26) hx hb hts (fun w h => List.mem_cons_of_mem _ (mfX100 w h)) hown hK hw hs.1 hs.2.1 rfl 20 (by decide) (hts _ (List.mem_cons_of_mem _ (mr19 _ (List.mem_of_getElem? (i := 2) rfl)))) (fun _ h => h) rfl dX10_book_113 (fun x_26 lx_26 ux_26 ex_26 => ?_)
    refine q_if_ne (tgt := 123) hx hb dX10_book_116 (by decide) ⟨lx_26, ux_26⟩ (fun c116 => ?_) (fun c116 => ?_)
    · have h9 : plF Tt nn 0 ≠ 0 := by omega
      have p123 : PSr Tt nn fw112 a0 (sq (plF Tt nn 0) (ruF Tt nn (bE6 Tt nn))) (bE7 Tt nn) := ps.F h9 (sq_1 h9)
      have w4 : RQ4 (sq (plF Tt nn 0) (ruF Tt nn (bE6 Tt nn))) fw112 (ad 21) (ruK Tt nn (bE6 Tt nn)) (ruN Tt nn (bE6 Tt nn)) (rfV (ruK Tt nn (bE6 Tt nn)) (ruV Tt nn (bE6 Tt nn)) (ruW Tt nn (bE6 Tt nn))) (rfW (ruK Tt nn (bE6 Tt nn)) (ruW Tt nn (bE6 Tt nn))) := fun z => absurd (sq_z.mp z).1 h9
      exact J123 L0 fw112 hs hE h4 (by omega) (by omega) (by omega) (by omega) (by omega) (by exact p123) (by exact w0.to (fun z => z) (by omega)) (by exact w1.to (fun z => z) (by omega)) (by exact w2.to (fun z => z) (by omega)) (by exact w4) _ _ _ hw (lv_sub hl [0] rfl)
    · have z6 : plF Tt nn 0 = 0 := by omega
      refine lv_aload_n hx hb dX10_book_119 rfl (lv_at hl 0 rfl) ?_
      refine q_call_v hA hK hw (va_runV (As := []) (rest := []) ⟨hx, hb, hml, hown, hts⟩ (c_X10_ruleTold_p zo l D cy L0 fw112 a0 ad hs Tt nn n0 n1 (by omega) (by first | exact hT | exact fun i q0 q1 => (congrFun Q8 i).trans (hT i q0 q1)) bT _ _ ps (by omega) (by omega) z6 _) (cwV 0 hts (gT (inV (mr20 _ (List.mem_of_getElem? (i := 20) rfl)) (mr20 _ (List.mem_of_getElem? (i := 21) rfl)) (mr20 _ (List.mem_of_getElem? (i := 22) rfl)) (mr1 _ (List.mem_of_getElem? (i := 5) rfl)) (mr20 _ (List.mem_of_getElem? (i := 23) rfl)))) rfl rfl rfl (by decide +kernel) ⟨Nat.le_of_ble_eq_true rfl, Nat.le_of_ble_eq_true rfl⟩) (Wd.preV zo hA hZ hw hK hs.1 hs.2.1 rfl) rfl rfl hl.1 rfl (lv_room (Nat.le_of_ble_eq_true rfl)) dX10_book_120 ⟨Nat.le_of_ble_eq_true rfl, Nat.le_of_ble_eq_true rfl⟩) (fun L1 f_28 H locs ex_27 hw => ?_)
      obtain ⟨rfl, hs, hX, ex_27⟩ := ex_27
      have hE := hE.trans (hX.mono (rs' := [4, 21]) (fs' := [5, 9, 10, 14, 15, 16, 17, 18, 19, 20, 22]) (by decide) (by decide))
      have t5_f_28 : fI f_28 a0 5 = fI fw112 a0 5 := hX.2 5 (by decide)
      have t9_f_28 : fI f_28 a0 9 = fI fw112 a0 9 := hX.2 9 (by decide)
      have t14_f_28 : fI f_28 a0 14 = fI fw112 a0 14 := hX.2 14 (by decide)
      have t22_f_28 : fI f_28 a0 22 = fI fw112 a0 22 := hX.2 22 (by decide)
      have h4 : ∀ x : Int, 0 ≤ x → x < 44 * fI f0 a0 5 → aI f_28 (ad 4) x = aI f0 (ad 4) x := fun x q0 q1 => (hX.1 4 rfl (by decide) x).trans (h4 x q0 q1)
      have Q8 : aI f_28 (ad 8) = aI f0 (ad 8) := funext fun x => hE.1 8 rfl (by decide) x
      obtain ⟨ps, w4, q0, q1, q2, q5, q8, q9⟩ := ex_27
      have p123 : PSr Tt nn f_28 a0 (sq (plF Tt nn 0) (ruF Tt nn (bE6 Tt nn))) (bE7 Tt nn) := ps.to (sq_0 z6) rfl
      have w4 : RQ4 (sq (plF Tt nn 0) (ruF Tt nn (bE6 Tt nn))) f_28 (ad 21) (ruK Tt nn (bE6 Tt nn)) (ruN Tt nn (bE6 Tt nn)) (rfV (ruK Tt nn (bE6 Tt nn)) (ruV Tt nn (bE6 Tt nn)) (ruW Tt nn (bE6 Tt nn))) (rfW (ruK Tt nn (bE6 Tt nn)) (ruW Tt nn (bE6 Tt nn))) := fun z => w4 (sq_z.mp z).2
      exact J123 L0 f_28 hs hE h4 (by omega) (by omega) (by omega) (by omega) (by omega) (by exact p123) (by exact w0.to (fun z => z) (by omega)) (by exact w1.to (fun z => z) (by omega)) (by exact w2.to (fun z => z) (by omega)) (by exact w4) _ _ _ hw (lv_sub hl [0] rfl)
  have J98 : ∀ (L : List Nat) (fw98 : Nat → va_E) (hs : MS cy L0 fw98 a0 ad) (hE : Kp a0 ad [4, 21] [5, 9, 10, 14, 15, 16, 17, 18, 19, 20, 22] f0 fw98) (h4 : ∀ x : Int, 0 ≤ x → x < 44 * fI f0 a0 5 → aI fw98 (ad 4) x = aI f0 (ad 4) x) (i5 : fI fw98 a0 14 = nn) (u5 : fI fw98 a0 5 = fI f0 a0 5) (u9 : fI fw98 a0 9 = 0) (n11 : fI f0 a0 5 ≤ 11) (n1 : nn ≤ 160) (ps : PSr Tt nn fw98 a0 (sq (sq (sq (sq (wS Tt nn 0 wBook) (nS Tt nn (tQn Tt nn 1 0) 0 7)) (wS Tt nn (tQn Tt nn 2 0) wAt)) (nS Tt nn (tQn Tt nn 3 0) 0 1439)) (wS Tt nn (tQn Tt nn 4 0) wFor)) (tQn Tt nn 5 0)) (w0 : RVq (sq (wS Tt nn 0 wBook) (nS Tt nn (tQn Tt nn 1 0) 0 7)) (vN Tt nn (tQn Tt nn 1 0)) (aI fw98 (ad 21) 0)) (w1 : RVq (sq (sq (sq (wS Tt nn 0 wBook) (nS Tt nn (tQn Tt nn 1 0) 0 7)) (wS Tt nn (tQn Tt nn 2 0) wAt)) (nS Tt nn (tQn Tt nn 3 0) 0 1439)) (vN Tt nn (tQn Tt nn 3 0)) (aI fw98 (ad 21) 1)) (H : Heap) (locs : List Loc) (ls : Array Slot) (hw : Wd D A s.heap L0 fw98 H locs) (hl : lv_has ls 2 [(0, .ref a0)]), W p l e ({ frames := 10, cells := 0, slots := 0, locals := 210 } : Room) s m ([.ref a0] : List Value).toArray below meth c H locs (0) (0) (MQ below (Qi D (tq cy) L0 f0 s.heap.size (fun (r : Int) (L1 : List Nat) (f1 : Nat → va_E) => L0 = L1 ∧ MS cy L0 f1 a0 ad ∧ Kp a0 ad [4, 21] [5, 9, 10, 14, 15, 16, 17, 18, 19, 20, 22] f0 f1 ∧ (MV f1 a0 ad ∧ fI f1 a0 9 = 0 ∧ 0 ≤ fI f1 a0 15 ∧ fI f1 a0 15 ≤ 168 ∧ ((r = -1 ∧ (160 < nn ∨ 12 ≤ fI f0 a0 5) ∧ fI f1 a0 5 = fI f0 a0 5 ∧ (∀ x : Int, 0 ≤ x → x < 44 * fI f0 a0 5 → aI f1 (ad 4) x = aI f0 (ad 4) x)) ∨ (nn ≤ 160 ∧ fI f0 a0 5 < 12 ∧ bkF Tt nn ≠ 0 ∧ r = -2 - bkF Tt nn ∧ fI f1 a0 5 = fI f0 a0 5 ∧ (∀ x : Int, 0 ≤ x → x < 44 * fI f0 a0 5 → aI f1 (ad 4) x = aI f0 (ad 4) x)) ∨ (nn ≤ 160 ∧ fI f0 a0 5 < 12 ∧ bkF Tt nn = 0 ∧ r = fI f0 a0 5 ∧ fI f1 a0 5 = fI f0 a0 5 + 1 ∧ (∀ x : Int, 0 ≤ x → x < 44 * fI f0 a0 5 → aI f1 (ad 4) x = aI f0 (ad 4) x) ∧ (∀ j : Int, 0 ≤ j → j ≤ 10 → aI f1 (ad 4) (44 * fI f0 a0 5 + j) = bkW Tt nn j) ∧ aI f1 (ad 4) (44 * fI f0 a0 5 + 11) = 0))))) ([.ref a0] : List Value).toArray s 0 0 A) (F0 m 98 ls []) := by
    intro L fw98 hs hE h4 i5 u5 u9 n11 n1 ps w0 w1 H locs ls hw hl
    have ps1 := ps.1
    have ps2 := ps.2.1
    have ps3 := ps.2.2.1
    have ps4 := ps.2.2.2.1
    have ps5 := ps.2.2.2.2.1
    have ps6 := ps.2.2.2.2.2.1
    have Q8 : aI fw98 (ad 8) = aI f0 (ad 8) := funext fun x => hE.1 8 rfl (by decide) x
    refine lv_aload_n hx hb dX10_book_98 rfl (lv_at hl 0 rfl) ?_
    refine q_getr (ci := 8) (C := RX10) (T := TX10) (N := 26) hx hb hts (fun w h => List.mem_cons_of_mem _ (mfX100 w h)) hown hK hw hs.1 hs.2.1 rfl 21 (by decide) (hts _ (List.mem_cons_of_mem _ (mr3 _ (List.mem_of_getElem? (i := 22) rfl)))) (fun _ h => h) rfl (hs.2.2.1 21 rfl).1 dX10_book_99 ?_
    refine q_iconst hx hb dX10_book_102 ?_
    refine lv_aload_n hx hb dX10_book_103 rfl (lv_at hl 0 rfl) ?_
    refine q_iconst hx hb dX10_book_104 ?_
    refine q_sipush hx hb dX10_book_105 rfl ?_
    refine q_call_i hA hK hw (va_runV (As := [.int (iI 1), .int (iI 4320)]) (rest := [.int (iI 2), .ref (ad 21)]) ⟨hx, hb, hml, hown, hts⟩ (c_X10_numberTold_p zo l D cy L0 fw98 a0 1 (by decide) (by decide) 4320 (by decide) (by decide) ad hs Tt nn n0 n1 (by omega) (by first | exact hT | exact fun i q0 q1 => (congrFun Q8 i).trans (hT i q0 q1)) bT _ _ ps (by omega) (by omega) _) (cwV 2 hts (gT (inV (mr20 _ (List.mem_of_getElem? (i := 16) rfl)) (mr20 _ (List.mem_of_getElem? (i := 17) rfl)) (mr20 _ (List.mem_of_getElem? (i := 18) rfl)) (mr1 _ (List.mem_of_getElem? (i := 5) rfl)) (mr20 _ (List.mem_of_getElem? (i := 19) rfl)))) rfl rfl rfl (by decide +kernel) ⟨Nat.le_of_ble_eq_true rfl, Nat.le_of_ble_eq_true rfl⟩) (Wd.preV zo hA hZ hw hK hs.1 hs.2.1 rfl) rfl rfl hl.1 rfl (lv_room (Nat.le_of_ble_eq_true rfl)) dX10_book_108 ⟨Nat.le_of_ble_eq_true rfl, Nat.le_of_ble_eq_true rfl⟩) (fun x_29 L1 f_30 H locs lx_29 ux_29 ex_29 hw => ?_)
    obtain ⟨rfl, hs, hX, ex_29⟩ := ex_29
    have hE := hE.trans (hX.mono (rs' := [4, 21]) (fs' := [5, 9, 10, 14, 15, 16, 17, 18, 19, 20, 22]) (by decide) (by decide))
    have t5_f_30 : fI f_30 a0 5 = fI fw98 a0 5 := hX.2 5 (by decide)
    have t9_f_30 : fI f_30 a0 9 = fI fw98 a0 9 := hX.2 9 (by decide)
    have t14_f_30 : fI f_30 a0 14 = fI fw98 a0 14 := hX.2 14 (by decide)
    have t22_f_30 : fI f_30 a0 22 = fI fw98 a0 22 := hX.2 22 (by decide)
    have c21_0_f_30 : aI f_30 (ad 21) 0 = aI fw98 (ad 21) 0 := hX.1 21 rfl (by decide) _
    have c21_1_f_30 : aI f_30 (ad 21) 1 = aI fw98 (ad 21) 1 := hX.1 21 rfl (by decide) _
    have c21_2_f_30 : aI f_30 (ad 21) 2 = aI fw98 (ad 21) 2 := hX.1 21 rfl (by decide) _
    have c21_3_f_30 : aI f_30 (ad 21) 3 = aI fw98 (ad 21) 3 := hX.1 21 rfl (by decide) _
    have c21_4_f_30 : aI f_30 (ad 21) 4 = aI fw98 (ad 21) 4 := hX.1 21 rfl (by decide) _
    have c21_5_f_30 : aI f_30 (ad 21) 5 = aI fw98 (ad 21) 5 := hX.1 21 rfl (by decide) _
    have c21_6_f_30 : aI f_30 (ad 21) 6 = aI fw98 (ad 21) 6 := hX.1 21 rfl (by decide) _
    have c21_7_f_30 : aI f_30 (ad 21) 7 = aI fw98 (ad 21) 7 := hX.1 21 rfl (by decide) _
    have c21_8_f_30 : aI f_30 (ad 21) 8 = aI fw98 (ad 21) 8 := hX.1 21 rfl (by decide) _
    have c21_9_f_30 : aI f_30 (ad 21) 9 = aI fw98 (ad 21) 9 := hX.1 21 rfl (by decide) _
    have c21_10_f_30 : aI f_30 (ad 21) 10 = aI fw98 (ad 21) 10 := hX.1 21 rfl (by decide) _
    have c21_11_f_30 : aI f_30 (ad 21) 11 = aI fw98 (ad 21) 11 := hX.1 21 rfl (by decide) _
    have h4 : ∀ x : Int, 0 ≤ x → x < 44 * fI f0 a0 5 → aI f_30 (ad 4) x = aI f0 (ad 4) x := fun x q0 q1 => (hX.1 4 rfl (by decide) x).trans (h4 x q0 q1)
    have Q8 : aI f_30 (ad 8) = aI f0 (ad 8) := funext fun x => hE.1 8 rfl (by decide) x
    obtain ⟨ps, v108⟩ := ex_29
    have ps : PSr Tt nn f_30 a0 (plF Tt nn 0) (tQn Tt nn 6 0) := ps.to pl_sq.symm rfl
    have v108 := v108.to (F' := plF Tt nn 0) (fun z => pl_sq.trans z) rfl
    refine q_iast hx hb hK hw (hs.2.2.1 21 rfl).2.1 1 (hs.2.2.1 21 rfl).2.2 rfl ⟨by decide, by decide⟩ (by omega) (by show _ < ((44 : Nat) : Int); omega) dX10_book_111 (fun H locs hw => ?_)
    obtain ⟨f_31, ef_31⟩ : ∃ g : Nat → va_E, g = aU f_30 (ad 21) 2 (iI x_29) := ⟨_, rfl⟩
    have t5_f_31 : fI f_31 a0 5 = fI f_30 a0 5 := by rw [ef_31]; exact hs.fI_aU rfl _ _
    have t9_f_31 : fI f_31 a0 9 = fI f_30 a0 9 := by rw [ef_31]; exact hs.fI_aU rfl _ _
    have t14_f_31 : fI f_31 a0 14 = fI f_30 a0 14 := by rw [ef_31]; exact hs.fI_aU rfl _ _
    have t15_f_31 : fI f_31 a0 15 = fI f_30 a0 15 := by rw [ef_31]; exact hs.fI_aU rfl _ _
    have t16_f_31 : fI f_31 a0 16 = fI f_30 a0 16 := by rw [ef_31]; exact hs.fI_aU rfl _ _
    have t17_f_31 : fI f_31 a0 17 = fI f_30 a0 17 := by rw [ef_31]; exact hs.fI_aU rfl _ _
    have t19_f_31 : fI f_31 a0 19 = fI f_30 a0 19 := by rw [ef_31]; exact hs.fI_aU rfl _ _
    have t20_f_31 : fI f_31 a0 20 = fI f_30 a0 20 := by rw [ef_31]; exact hs.fI_aU rfl _ _
    have t22_f_31 : fI f_31 a0 22 = fI f_30 a0 22 := by rw [ef_31]; exact hs.fI_aU rfl _ _
    have hE := hE.trans (show Kp a0 ad [4, 21] [5, 9, 10, 14, 15, 16, 17, 18, 19, 20, 22] f_30 f_31 by rw [ef_31]; exact Kp_aU hs rfl (by decide))
    have hs_ := hs
    have hs : MS cy L0 f_31 a0 ad := by rw [ef_31]; exact MS_aU hs rfl
    rw [← ef_31] at hw
    have Q8 : aI f_31 (ad 8) = aI f0 (ad 8) := funext fun x => hE.1 8 rfl (by decide) x
    have c21_0_f_31 : aI f_31 (ad 21) 0 = aI f_30 (ad 21) 0 := by rw [ef_31]; exact hs_.aI_nj rfl (by decide) (by decide) (by decide)
    have c21_1_f_31 : aI f_31 (ad 21) 1 = aI f_30 (ad 21) 1 := by rw [ef_31]; exact hs_.aI_nj rfl (by decide) (by decide) (by decide)
    have c21_2_f_31 : aI f_31 (ad 21) 2 = x_29 := by rw [ef_31]; exact hs_.aI_self rfl ⟨lx_29, ux_29⟩
    have c21_3_f_31 : aI f_31 (ad 21) 3 = aI f_30 (ad 21) 3 := by rw [ef_31]; exact hs_.aI_nj rfl (by decide) (by decide) (by decide)
    have c21_4_f_31 : aI f_31 (ad 21) 4 = aI f_30 (ad 21) 4 := by rw [ef_31]; exact hs_.aI_nj rfl (by decide) (by decide) (by decide)
    have c21_5_f_31 : aI f_31 (ad 21) 5 = aI f_30 (ad 21) 5 := by rw [ef_31]; exact hs_.aI_nj rfl (by decide) (by decide) (by decide)
    have c21_6_f_31 : aI f_31 (ad 21) 6 = aI f_30 (ad 21) 6 := by rw [ef_31]; exact hs_.aI_nj rfl (by decide) (by decide) (by decide)
    have c21_7_f_31 : aI f_31 (ad 21) 7 = aI f_30 (ad 21) 7 := by rw [ef_31]; exact hs_.aI_nj rfl (by decide) (by decide) (by decide)
    have c21_8_f_31 : aI f_31 (ad 21) 8 = aI f_30 (ad 21) 8 := by rw [ef_31]; exact hs_.aI_nj rfl (by decide) (by decide) (by decide)
    have c21_9_f_31 : aI f_31 (ad 21) 9 = aI f_30 (ad 21) 9 := by rw [ef_31]; exact hs_.aI_nj rfl (by decide) (by decide) (by decide)
    have c21_10_f_31 : aI f_31 (ad 21) 10 = aI f_30 (ad 21) 10 := by rw [ef_31]; exact hs_.aI_nj rfl (by decide) (by decide) (by decide)
    have c21_11_f_31 : aI f_31 (ad 21) 11 = aI f_30 (ad 21) 11 := by rw [ef_31]; exact hs_.aI_nj rfl (by decide) (by decide) (by decide)
    have h4 : ∀ x : Int, 0 ≤ x → x < 44 * fI f0 a0 5 → aI f_31 (ad 4) x = aI f0 (ad 4) x := fun x q0 q1 => Eq.trans (by rw [ef_31]; exact hs_.aI_ne rfl rfl (by decide) _) (h4 x q0 q1)
    have ps := ps.aU (hs_.2.2.1 21 rfl).2.2 ef_31
    have w2 : RVq (plF Tt nn 0) (vN Tt nn (tQn Tt nn 5 0)) (aI f_31 (ad 21) 2) := v108.to (fun z => z) (by omega)
    exact J112 L0 f_31 hs hE h4 (by omega) (by omega) (by omega) (by omega) (by omega) (by exact ps) (by exact w0.to (fun z => z) (by omega)) (by exact w1.to (fun z => z) (by omega)) (by exact w2.to (fun z => z) (by omega)) _ _ _ hw (lv_sub hl [0] rfl)
  have J92 : ∀ (L : List Nat) (fw92 : Nat → va_E) (hs : MS cy L0 fw92 a0 ad) (hE : Kp a0 ad [4, 21] [5, 9, 10, 14, 15, 16, 17, 18, 19, 20, 22] f0 fw92) (h4 : ∀ x : Int, 0 ≤ x → x < 44 * fI f0 a0 5 → aI fw92 (ad 4) x = aI f0 (ad 4) x) (i5 : fI fw92 a0 14 = nn) (u5 : fI fw92 a0 5 = fI f0 a0 5) (u9 : fI fw92 a0 9 = 0) (n11 : fI f0 a0 5 ≤ 11) (n1 : nn ≤ 160) (ps : PSr Tt nn fw92 a0 (sq (sq (sq (wS Tt nn 0 wBook) (nS Tt nn (tQn Tt nn 1 0) 0 7)) (wS Tt nn (tQn Tt nn 2 0) wAt)) (nS Tt nn (tQn Tt nn 3 0) 0 1439)) (tQn Tt nn 4 0)) (w0 : RVq (sq (wS Tt nn 0 wBook) (nS Tt nn (tQn Tt nn 1 0) 0 7)) (vN Tt nn (tQn Tt nn 1 0)) (aI fw92 (ad 21) 0)) (w1 : RVq (sq (sq (sq (wS Tt nn 0 wBook) (nS Tt nn (tQn Tt nn 1 0) 0 7)) (wS Tt nn (tQn Tt nn 2 0) wAt)) (nS Tt nn (tQn Tt nn 3 0) 0 1439)) (vN Tt nn (tQn Tt nn 3 0)) (aI fw92 (ad 21) 1)) (H : Heap) (locs : List Loc) (ls : Array Slot) (hw : Wd D A s.heap L0 fw92 H locs) (hl : lv_has ls 2 [(0, .ref a0)]), W p l e ({ frames := 10, cells := 0, slots := 0, locals := 210 } : Room) s m ([.ref a0] : List Value).toArray below meth c H locs (0) (0) (MQ below (Qi D (tq cy) L0 f0 s.heap.size (fun (r : Int) (L1 : List Nat) (f1 : Nat → va_E) => L0 = L1 ∧ MS cy L0 f1 a0 ad ∧ Kp a0 ad [4, 21] [5, 9, 10, 14, 15, 16, 17, 18, 19, 20, 22] f0 f1 ∧ (MV f1 a0 ad ∧ fI f1 a0 9 = 0 ∧ 0 ≤ fI f1 a0 15 ∧ fI f1 a0 15 ≤ 168 ∧ ((r = -1 ∧ (160 < nn ∨ 12 ≤ fI f0 a0 5) ∧ fI f1 a0 5 = fI f0 a0 5 ∧ (∀ x : Int, 0 ≤ x → x < 44 * fI f0 a0 5 → aI f1 (ad 4) x = aI f0 (ad 4) x)) ∨ (nn ≤ 160 ∧ fI f0 a0 5 < 12 ∧ bkF Tt nn ≠ 0 ∧ r = -2 - bkF Tt nn ∧ fI f1 a0 5 = fI f0 a0 5 ∧ (∀ x : Int, 0 ≤ x → x < 44 * fI f0 a0 5 → aI f1 (ad 4) x = aI f0 (ad 4) x)) ∨ (nn ≤ 160 ∧ fI f0 a0 5 < 12 ∧ bkF Tt nn = 0 ∧ r = fI f0 a0 5 ∧ fI f1 a0 5 = fI f0 a0 5 + 1 ∧ (∀ x : Int, 0 ≤ x → x < 44 * fI f0 a0 5 → aI f1 (ad 4) x = aI f0 (ad 4) x) ∧ (∀ j : Int, 0 ≤ j → j ≤ 10 → aI f1 (ad 4) (44 * fI f0 a0 5 + j) = bkW Tt nn j) ∧ aI f1 (ad 4) (44 * fI f0 a0 5 + 11) = 0))))) ([.ref a0] : List Value).toArray s 0 0 A) (F0 m 92 ls []) := by
    intro L fw92 hs hE h4 i5 u5 u9 n11 n1 ps w0 w1 H locs ls hw hl
    have ps1 := ps.1
    have ps2 := ps.2.1
    have ps3 := ps.2.2.1
    have ps4 := ps.2.2.2.1
    have ps5 := ps.2.2.2.2.1
    have ps6 := ps.2.2.2.2.2.1
    have Q8 : aI fw92 (ad 8) = aI f0 (ad 8) := funext fun x => hE.1 8 rfl (by decide) x
    refine lv_aload_n hx hb dX10_book_92 rfl (lv_at hl 0 rfl) ?_
    obtain ⟨t_32, v_t_32, h_t_32⟩ : ∃ q v : Nat, ∀ (A : Nat → Prop) (U : State) (H : Heap), Z A U H → vk_R RX10 210 "for" q U ∧ Tx [102, 111, 114] q v A U H := ztx_39 zo
    obtain ⟨b_t_32, eb_t_32⟩ : ∃ b : List Int32, b = [102, 111, 114] := ⟨_, rfl⟩
    have nb_t_32 : Asc b_t_32 := by rw [eb_t_32]; exact ⟨by decide, by decide +kernel⟩
    have tx_t_32 : ∀ (A : Nat → Prop) (U : State) (H : Heap), Z A U H → Tx b_t_32 t_32 v_t_32 A U H := fun A U H h => by rw [eb_t_32]; exact (h_t_32 A U H h).2
    have wok_t_32 : WOK b_t_32 := by rw [eb_t_32]; unfold WOK; decide +kernel
    have eb_t_32 : b_t_32 = wFor := by rw [eb_t_32]; rfl
    refine va_ldcS hx hb hown (h_t_32 _ _ _ hZ).1 dX10_book_93 ?_
    refine q_call_v hA hK hw (va_runV (As := [.ref t_32]) (rest := []) ⟨hx, hb, hml, hown, hts⟩ (c_X10_must_p zo l D cy L0 fw92 a0 t_32 b_t_32 v_t_32 nb_t_32 tx_t_32 ad hs wok_t_32 Tt nn n0 n1 (by omega) (by first | exact hT | exact fun i q0 q1 => (congrFun Q8 i).trans (hT i q0 q1)) bT _ _ ps (by omega) (by omega) _) (cwV 1 hts (gT (inV (mr19 _ (List.mem_of_getElem? (i := 23) rfl)) (mr20 _ (List.mem_of_getElem? (i := 0) rfl)) (mr20 _ (List.mem_of_getElem? (i := 1) rfl)) (mr1 _ (List.mem_of_getElem? (i := 5) rfl)) (mr20 _ (List.mem_of_getElem? (i := 2) rfl)))) rfl rfl rfl (by decide +kernel) ⟨Nat.le_of_ble_eq_true rfl, Nat.le_of_ble_eq_true rfl⟩) (Wd.preV zo hA hZ hw hK hs.1 hs.2.1 rfl) rfl rfl hl.1 rfl (lv_room (Nat.le_of_ble_eq_true rfl)) dX10_book_95 ⟨Nat.le_of_ble_eq_true rfl, Nat.le_of_ble_eq_true rfl⟩) (fun L1 f_34 H locs ex_33 hw => ?_)
    obtain ⟨rfl, hs, hX, ex_33⟩ := ex_33
    have hE := hE.trans (hX.mono (rs' := [4, 21]) (fs' := [5, 9, 10, 14, 15, 16, 17, 18, 19, 20, 22]) (by decide) (by decide))
    have t5_f_34 : fI f_34 a0 5 = fI fw92 a0 5 := hX.2 5 (by decide)
    have t9_f_34 : fI f_34 a0 9 = fI fw92 a0 9 := hX.2 9 (by decide)
    have t14_f_34 : fI f_34 a0 14 = fI fw92 a0 14 := hX.2 14 (by decide)
    have t22_f_34 : fI f_34 a0 22 = fI fw92 a0 22 := hX.2 22 (by decide)
    have c21_0_f_34 : aI f_34 (ad 21) 0 = aI fw92 (ad 21) 0 := hX.1 21 rfl (by decide) _
    have c21_1_f_34 : aI f_34 (ad 21) 1 = aI fw92 (ad 21) 1 := hX.1 21 rfl (by decide) _
    have c21_2_f_34 : aI f_34 (ad 21) 2 = aI fw92 (ad 21) 2 := hX.1 21 rfl (by decide) _
    have c21_3_f_34 : aI f_34 (ad 21) 3 = aI fw92 (ad 21) 3 := hX.1 21 rfl (by decide) _
    have c21_4_f_34 : aI f_34 (ad 21) 4 = aI fw92 (ad 21) 4 := hX.1 21 rfl (by decide) _
    have c21_5_f_34 : aI f_34 (ad 21) 5 = aI fw92 (ad 21) 5 := hX.1 21 rfl (by decide) _
    have c21_6_f_34 : aI f_34 (ad 21) 6 = aI fw92 (ad 21) 6 := hX.1 21 rfl (by decide) _
    have c21_7_f_34 : aI f_34 (ad 21) 7 = aI fw92 (ad 21) 7 := hX.1 21 rfl (by decide) _
    have c21_8_f_34 : aI f_34 (ad 21) 8 = aI fw92 (ad 21) 8 := hX.1 21 rfl (by decide) _
    have c21_9_f_34 : aI f_34 (ad 21) 9 = aI fw92 (ad 21) 9 := hX.1 21 rfl (by decide) _
    have c21_10_f_34 : aI f_34 (ad 21) 10 = aI fw92 (ad 21) 10 := hX.1 21 rfl (by decide) _
    have c21_11_f_34 : aI f_34 (ad 21) 11 = aI fw92 (ad 21) 11 := hX.1 21 rfl (by decide) _
    have h4 : ∀ x : Int, 0 ≤ x → x < 44 * fI f0 a0 5 → aI f_34 (ad 4) x = aI f0 (ad 4) x := fun x q0 q1 => (hX.1 4 rfl (by decide) x).trans (h4 x q0 q1)
    have Q8 : aI f_34 (ad 8) = aI f0 (ad 8) := funext fun x => hE.1 8 rfl (by decide) x
    have ps : PSr Tt nn f_34 a0 (sq (sq (sq (sq (wS Tt nn 0 wBook) (nS Tt nn (tQn Tt nn 1 0) 0 7)) (wS Tt nn (tQn Tt nn 2 0) wAt)) (nS Tt nn (tQn Tt nn 3 0) 0 1439)) (wS Tt nn (tQn Tt nn 4 0) wFor)) (tQn Tt nn 5 0) := by have q := ex_33; rw [eb_t_32] at q; exact q
    clear ex_33
    exact J98 L0 f_34 hs hE h4 (by omega) (by omega) (by omega) (by omega) (by omega) (by exact ps) (by exact w0.to (fun z => z) (by omega)) (by exact w1.to (fun z => z) (by omega)) _ _ _ hw (lv_sub hl [0] rfl)
  have J78 : ∀ (L : List Nat) (fw78 : Nat → va_E) (hs : MS cy L0 fw78 a0 ad) (hE : Kp a0 ad [4, 21] [5, 9, 10, 14, 15, 16, 17, 18, 19, 20, 22] f0 fw78) (h4 : ∀ x : Int, 0 ≤ x → x < 44 * fI f0 a0 5 → aI fw78 (ad 4) x = aI f0 (ad 4) x) (i5 : fI fw78 a0 14 = nn) (u5 : fI fw78 a0 5 = fI f0 a0 5) (u9 : fI fw78 a0 9 = 0) (n11 : fI f0 a0 5 ≤ 11) (n1 : nn ≤ 160) (ps : PSr Tt nn fw78 a0 (sq (sq (wS Tt nn 0 wBook) (nS Tt nn (tQn Tt nn 1 0) 0 7)) (wS Tt nn (tQn Tt nn 2 0) wAt)) (tQn Tt nn 3 0)) (w0 : RVq (sq (wS Tt nn 0 wBook) (nS Tt nn (tQn Tt nn 1 0) 0 7)) (vN Tt nn (tQn Tt nn 1 0)) (aI fw78 (ad 21) 0)) (H : Heap) (locs : List Loc) (ls : Array Slot) (hw : Wd D A s.heap L0 fw78 H locs) (hl : lv_has ls 2 [(0, .ref a0)]), W p l e ({ frames := 10, cells := 0, slots := 0, locals := 210 } : Room) s m ([.ref a0] : List Value).toArray below meth c H locs (0) (0) (MQ below (Qi D (tq cy) L0 f0 s.heap.size (fun (r : Int) (L1 : List Nat) (f1 : Nat → va_E) => L0 = L1 ∧ MS cy L0 f1 a0 ad ∧ Kp a0 ad [4, 21] [5, 9, 10, 14, 15, 16, 17, 18, 19, 20, 22] f0 f1 ∧ (MV f1 a0 ad ∧ fI f1 a0 9 = 0 ∧ 0 ≤ fI f1 a0 15 ∧ fI f1 a0 15 ≤ 168 ∧ ((r = -1 ∧ (160 < nn ∨ 12 ≤ fI f0 a0 5) ∧ fI f1 a0 5 = fI f0 a0 5 ∧ (∀ x : Int, 0 ≤ x → x < 44 * fI f0 a0 5 → aI f1 (ad 4) x = aI f0 (ad 4) x)) ∨ (nn ≤ 160 ∧ fI f0 a0 5 < 12 ∧ bkF Tt nn ≠ 0 ∧ r = -2 - bkF Tt nn ∧ fI f1 a0 5 = fI f0 a0 5 ∧ (∀ x : Int, 0 ≤ x → x < 44 * fI f0 a0 5 → aI f1 (ad 4) x = aI f0 (ad 4) x)) ∨ (nn ≤ 160 ∧ fI f0 a0 5 < 12 ∧ bkF Tt nn = 0 ∧ r = fI f0 a0 5 ∧ fI f1 a0 5 = fI f0 a0 5 + 1 ∧ (∀ x : Int, 0 ≤ x → x < 44 * fI f0 a0 5 → aI f1 (ad 4) x = aI f0 (ad 4) x) ∧ (∀ j : Int, 0 ≤ j → j ≤ 10 → aI f1 (ad 4) (44 * fI f0 a0 5 + j) = bkW Tt nn j) ∧ aI f1 (ad 4) (44 * fI f0 a0 5 + 11) = 0))))) ([.ref a0] : List Value).toArray s 0 0 A) (F0 m 78 ls []) := by
    intro L fw78 hs hE h4 i5 u5 u9 n11 n1 ps w0 H locs ls hw hl
    have ps1 := ps.1
    have ps2 := ps.2.1
    have ps3 := ps.2.2.1
    have ps4 := ps.2.2.2.1
    have ps5 := ps.2.2.2.2.1
    have ps6 := ps.2.2.2.2.2.1
    have Q8 : aI fw78 (ad 8) = aI f0 (ad 8) := funext fun x => hE.1 8 rfl (by decide) x
    refine lv_aload_n hx hb dX10_book_78 rfl (lv_at hl 0 rfl) ?_
    refine q_getr (ci := 8) (C := RX10) (T := TX10) (N := 26) hx hb hts (fun w h => List.mem_cons_of_mem _ (mfX100 w h)) hown hK hw hs.1 hs.2.1 rfl 21 (by decide) (hts _ (List.mem_cons_of_mem _ (mr3 _ (List.mem_of_getElem? (i := 22) rfl)))) (fun _ h => h) rfl (hs.2.2.1 21 rfl).1 dX10_book_79 ?_
    refine q_iconst hx hb dX10_book_82 ?_
    refine lv_aload_n hx hb dX10_book_83 rfl (lv_at hl 0 rfl) ?_
    refine q_iconst hx hb dX10_book_84 ?_
    refine q_sipush hx hb dX10_book_85 rfl ?_
    refine q_call_i hA hK hw (va_runV (As := [.int (iI 0), .int (iI 1439)]) (rest := [.int (iI 1), .ref (ad 21)]) ⟨hx, hb, hml, hown, hts⟩ (c_X10_numberTold_p zo l D cy L0 fw78 a0 0 (by decide) (by decide) 1439 (by decide) (by decide) ad hs Tt nn n0 n1 (by omega) (by first | exact hT | exact fun i q0 q1 => (congrFun Q8 i).trans (hT i q0 q1)) bT _ _ ps (by omega) (by omega) _) (cwV 2 hts (gT (inV (mr20 _ (List.mem_of_getElem? (i := 16) rfl)) (mr20 _ (List.mem_of_getElem? (i := 17) rfl)) (mr20 _ (List.mem_of_getElem? (i := 18) rfl)) (mr1 _ (List.mem_of_getElem? (i := 5) rfl)) (mr20 _ (List.mem_of_getElem? (i := 19) rfl)))) rfl rfl rfl (by decide +kernel) ⟨Nat.le_of_ble_eq_true rfl, Nat.le_of_ble_eq_true rfl⟩) (Wd.preV zo hA hZ hw hK hs.1 hs.2.1 rfl) rfl rfl hl.1 rfl (lv_room (Nat.le_of_ble_eq_true rfl)) dX10_book_88 ⟨Nat.le_of_ble_eq_true rfl, Nat.le_of_ble_eq_true rfl⟩) (fun x_35 L1 f_36 H locs lx_35 ux_35 ex_35 hw => ?_)
    obtain ⟨rfl, hs, hX, ex_35⟩ := ex_35
    have hE := hE.trans (hX.mono (rs' := [4, 21]) (fs' := [5, 9, 10, 14, 15, 16, 17, 18, 19, 20, 22]) (by decide) (by decide))
    have t5_f_36 : fI f_36 a0 5 = fI fw78 a0 5 := hX.2 5 (by decide)
    have t9_f_36 : fI f_36 a0 9 = fI fw78 a0 9 := hX.2 9 (by decide)
    have t14_f_36 : fI f_36 a0 14 = fI fw78 a0 14 := hX.2 14 (by decide)
    have t22_f_36 : fI f_36 a0 22 = fI fw78 a0 22 := hX.2 22 (by decide)
    have c21_0_f_36 : aI f_36 (ad 21) 0 = aI fw78 (ad 21) 0 := hX.1 21 rfl (by decide) _
    have c21_1_f_36 : aI f_36 (ad 21) 1 = aI fw78 (ad 21) 1 := hX.1 21 rfl (by decide) _
    have c21_2_f_36 : aI f_36 (ad 21) 2 = aI fw78 (ad 21) 2 := hX.1 21 rfl (by decide) _
    have c21_3_f_36 : aI f_36 (ad 21) 3 = aI fw78 (ad 21) 3 := hX.1 21 rfl (by decide) _
    have c21_4_f_36 : aI f_36 (ad 21) 4 = aI fw78 (ad 21) 4 := hX.1 21 rfl (by decide) _
    have c21_5_f_36 : aI f_36 (ad 21) 5 = aI fw78 (ad 21) 5 := hX.1 21 rfl (by decide) _
    have c21_6_f_36 : aI f_36 (ad 21) 6 = aI fw78 (ad 21) 6 := hX.1 21 rfl (by decide) _
    have c21_7_f_36 : aI f_36 (ad 21) 7 = aI fw78 (ad 21) 7 := hX.1 21 rfl (by decide) _
    have c21_8_f_36 : aI f_36 (ad 21) 8 = aI fw78 (ad 21) 8 := hX.1 21 rfl (by decide) _
    have c21_9_f_36 : aI f_36 (ad 21) 9 = aI fw78 (ad 21) 9 := hX.1 21 rfl (by decide) _
    have c21_10_f_36 : aI f_36 (ad 21) 10 = aI fw78 (ad 21) 10 := hX.1 21 rfl (by decide) _
    have c21_11_f_36 : aI f_36 (ad 21) 11 = aI fw78 (ad 21) 11 := hX.1 21 rfl (by decide) _
    have h4 : ∀ x : Int, 0 ≤ x → x < 44 * fI f0 a0 5 → aI f_36 (ad 4) x = aI f0 (ad 4) x := fun x q0 q1 => (hX.1 4 rfl (by decide) x).trans (h4 x q0 q1)
    have Q8 : aI f_36 (ad 8) = aI f0 (ad 8) := funext fun x => hE.1 8 rfl (by decide) x
    obtain ⟨ps, v88⟩ := ex_35
    have ps : PSr Tt nn f_36 a0 (sq (sq (sq (wS Tt nn 0 wBook) (nS Tt nn (tQn Tt nn 1 0) 0 7)) (wS Tt nn (tQn Tt nn 2 0) wAt)) (nS Tt nn (tQn Tt nn 3 0) 0 1439)) (tQn Tt nn 4 0) := ps
    refine q_iast hx hb hK hw (hs.2.2.1 21 rfl).2.1 1 (hs.2.2.1 21 rfl).2.2 rfl ⟨by decide, by decide⟩ (by omega) (by show _ < ((44 : Nat) : Int); omega) dX10_book_91 (fun H locs hw => ?_)
    obtain ⟨f_37, ef_37⟩ : ∃ g : Nat → va_E, g = aU f_36 (ad 21) 1 (iI x_35) := ⟨_, rfl⟩
    have t5_f_37 : fI f_37 a0 5 = fI f_36 a0 5 := by rw [ef_37]; exact hs.fI_aU rfl _ _
    have t9_f_37 : fI f_37 a0 9 = fI f_36 a0 9 := by rw [ef_37]; exact hs.fI_aU rfl _ _
    have t14_f_37 : fI f_37 a0 14 = fI f_36 a0 14 := by rw [ef_37]; exact hs.fI_aU rfl _ _
    have t15_f_37 : fI f_37 a0 15 = fI f_36 a0 15 := by rw [ef_37]; exact hs.fI_aU rfl _ _
    have t16_f_37 : fI f_37 a0 16 = fI f_36 a0 16 := by rw [ef_37]; exact hs.fI_aU rfl _ _
    have t17_f_37 : fI f_37 a0 17 = fI f_36 a0 17 := by rw [ef_37]; exact hs.fI_aU rfl _ _
    have t19_f_37 : fI f_37 a0 19 = fI f_36 a0 19 := by rw [ef_37]; exact hs.fI_aU rfl _ _
    have t20_f_37 : fI f_37 a0 20 = fI f_36 a0 20 := by rw [ef_37]; exact hs.fI_aU rfl _ _
    have t22_f_37 : fI f_37 a0 22 = fI f_36 a0 22 := by rw [ef_37]; exact hs.fI_aU rfl _ _
    have hE := hE.trans (show Kp a0 ad [4, 21] [5, 9, 10, 14, 15, 16, 17, 18, 19, 20, 22] f_36 f_37 by rw [ef_37]; exact Kp_aU hs rfl (by decide))
    have hs_ := hs
    have hs : MS cy L0 f_37 a0 ad := by rw [ef_37]; exact MS_aU hs rfl
    rw [← ef_37] at hw
    have Q8 : aI f_37 (ad 8) = aI f0 (ad 8) := funext fun x => hE.1 8 rfl (by decide) x
    have c21_0_f_37 : aI f_37 (ad 21) 0 = aI f_36 (ad 21) 0 := by rw [ef_37]; exact hs_.aI_nj rfl (by decide) (by decide) (by decide)
    have c21_1_f_37 : aI f_37 (ad 21) 1 = x_35 := by rw [ef_37]; exact hs_.aI_self rfl ⟨lx_35, ux_35⟩
    have c21_2_f_37 : aI f_37 (ad 21) 2 = aI f_36 (ad 21) 2 := by rw [ef_37]; exact hs_.aI_nj rfl (by decide) (by decide) (by decide)
    have c21_3_f_37 : aI f_37 (ad 21) 3 = aI f_36 (ad 21) 3 := by rw [ef_37]; exact hs_.aI_nj rfl (by decide) (by decide) (by decide)
    have c21_4_f_37 : aI f_37 (ad 21) 4 = aI f_36 (ad 21) 4 := by rw [ef_37]; exact hs_.aI_nj rfl (by decide) (by decide) (by decide)
    have c21_5_f_37 : aI f_37 (ad 21) 5 = aI f_36 (ad 21) 5 := by rw [ef_37]; exact hs_.aI_nj rfl (by decide) (by decide) (by decide)
    have c21_6_f_37 : aI f_37 (ad 21) 6 = aI f_36 (ad 21) 6 := by rw [ef_37]; exact hs_.aI_nj rfl (by decide) (by decide) (by decide)
    have c21_7_f_37 : aI f_37 (ad 21) 7 = aI f_36 (ad 21) 7 := by rw [ef_37]; exact hs_.aI_nj rfl (by decide) (by decide) (by decide)
    have c21_8_f_37 : aI f_37 (ad 21) 8 = aI f_36 (ad 21) 8 := by rw [ef_37]; exact hs_.aI_nj rfl (by decide) (by decide) (by decide)
    have c21_9_f_37 : aI f_37 (ad 21) 9 = aI f_36 (ad 21) 9 := by rw [ef_37]; exact hs_.aI_nj rfl (by decide) (by decide) (by decide)
    have c21_10_f_37 : aI f_37 (ad 21) 10 = aI f_36 (ad 21) 10 := by rw [ef_37]; exact hs_.aI_nj rfl (by decide) (by decide) (by decide)
    have c21_11_f_37 : aI f_37 (ad 21) 11 = aI f_36 (ad 21) 11 := by rw [ef_37]; exact hs_.aI_nj rfl (by decide) (by decide) (by decide)
    have h4 : ∀ x : Int, 0 ≤ x → x < 44 * fI f0 a0 5 → aI f_37 (ad 4) x = aI f0 (ad 4) x := fun x q0 q1 => Eq.trans (by rw [ef_37]; exact hs_.aI_ne rfl rfl (by decide) _) (h4 x q0 q1)
    have ps := ps.aU (hs_.2.2.1 21 rfl).2.2 ef_37
    have w1 : RVq (sq (sq (sq (wS Tt nn 0 wBook) (nS Tt nn (tQn Tt nn 1 0) 0 7)) (wS Tt nn (tQn Tt nn 2 0) wAt)) (nS Tt nn (tQn Tt nn 3 0) 0 1439)) (vN Tt nn (tQn Tt nn 3 0)) (aI f_37 (ad 21) 1) := v88.to (fun z => z) (by omega)
    exact J92 L0 f_37 hs hE h4 (by omega) (by omega) (by omega) (by omega) (by omega) (by exact ps) (by exact w0.to (fun z => z) (by omega)) (by exact w1.to (fun z => z) (by omega)) _ _ _ hw (lv_sub hl [0] rfl)
  have J72 : ∀ (L : List Nat) (fw72 : Nat → va_E) (hs : MS cy L0 fw72 a0 ad) (hE : Kp a0 ad [4, 21] [5, 9, 10, 14, 15, 16, 17, 18, 19, 20, 22] f0 fw72) (h4 : ∀ x : Int, 0 ≤ x → x < 44 * fI f0 a0 5 → aI fw72 (ad 4) x = aI f0 (ad 4) x) (i5 : fI fw72 a0 14 = nn) (u5 : fI fw72 a0 5 = fI f0 a0 5) (u9 : fI fw72 a0 9 = 0) (n11 : fI f0 a0 5 ≤ 11) (n1 : nn ≤ 160) (ps : PSr Tt nn fw72 a0 (sq (wS Tt nn 0 wBook) (nS Tt nn (tQn Tt nn 1 0) 0 7)) (tQn Tt nn 2 0)) (w0 : RVq (sq (wS Tt nn 0 wBook) (nS Tt nn (tQn Tt nn 1 0) 0 7)) (vN Tt nn (tQn Tt nn 1 0)) (aI fw72 (ad 21) 0)) (H : Heap) (locs : List Loc) (ls : Array Slot) (hw : Wd D A s.heap L0 fw72 H locs) (hl : lv_has ls 2 [(0, .ref a0)]), W p l e ({ frames := 10, cells := 0, slots := 0, locals := 210 } : Room) s m ([.ref a0] : List Value).toArray below meth c H locs (0) (0) (MQ below (Qi D (tq cy) L0 f0 s.heap.size (fun (r : Int) (L1 : List Nat) (f1 : Nat → va_E) => L0 = L1 ∧ MS cy L0 f1 a0 ad ∧ Kp a0 ad [4, 21] [5, 9, 10, 14, 15, 16, 17, 18, 19, 20, 22] f0 f1 ∧ (MV f1 a0 ad ∧ fI f1 a0 9 = 0 ∧ 0 ≤ fI f1 a0 15 ∧ fI f1 a0 15 ≤ 168 ∧ ((r = -1 ∧ (160 < nn ∨ 12 ≤ fI f0 a0 5) ∧ fI f1 a0 5 = fI f0 a0 5 ∧ (∀ x : Int, 0 ≤ x → x < 44 * fI f0 a0 5 → aI f1 (ad 4) x = aI f0 (ad 4) x)) ∨ (nn ≤ 160 ∧ fI f0 a0 5 < 12 ∧ bkF Tt nn ≠ 0 ∧ r = -2 - bkF Tt nn ∧ fI f1 a0 5 = fI f0 a0 5 ∧ (∀ x : Int, 0 ≤ x → x < 44 * fI f0 a0 5 → aI f1 (ad 4) x = aI f0 (ad 4) x)) ∨ (nn ≤ 160 ∧ fI f0 a0 5 < 12 ∧ bkF Tt nn = 0 ∧ r = fI f0 a0 5 ∧ fI f1 a0 5 = fI f0 a0 5 + 1 ∧ (∀ x : Int, 0 ≤ x → x < 44 * fI f0 a0 5 → aI f1 (ad 4) x = aI f0 (ad 4) x) ∧ (∀ j : Int, 0 ≤ j → j ≤ 10 → aI f1 (ad 4) (44 * fI f0 a0 5 + j) = bkW Tt nn j) ∧ aI f1 (ad 4) (44 * fI f0 a0 5 + 11) = 0))))) ([.ref a0] : List Value).toArray s 0 0 A) (F0 m 72 ls []) := by
    intro L fw72 hs hE h4 i5 u5 u9 n11 n1 ps w0 H locs ls hw hl
    have ps1 := ps.1
    have ps2 := ps.2.1
    have ps3 := ps.2.2.1
    have ps4 := ps.2.2.2.1
    have ps5 := ps.2.2.2.2.1
    have ps6 := ps.2.2.2.2.2.1
    have Q8 : aI fw72 (ad 8) = aI f0 (ad 8) := funext fun x => hE.1 8 rfl (by decide) x
    refine lv_aload_n hx hb dX10_book_72 rfl (lv_at hl 0 rfl) ?_
    obtain ⟨t_38, v_t_38, h_t_38⟩ : ∃ q v : Nat, ∀ (A : Nat → Prop) (U : State) (H : Heap), Z A U H → vk_R RX10 208 "at" q U ∧ Tx [97, 116] q v A U H := ztx_38 zo
    obtain ⟨b_t_38, eb_t_38⟩ : ∃ b : List Int32, b = [97, 116] := ⟨_, rfl⟩
    have nb_t_38 : Asc b_t_38 := by rw [eb_t_38]; exact ⟨by decide, by decide +kernel⟩
    have tx_t_38 : ∀ (A : Nat → Prop) (U : State) (H : Heap), Z A U H → Tx b_t_38 t_38 v_t_38 A U H := fun A U H h => by rw [eb_t_38]; exact (h_t_38 A U H h).2
    have wok_t_38 : WOK b_t_38 := by rw [eb_t_38]; unfold WOK; decide +kernel
    have eb_t_38 : b_t_38 = wAt := by rw [eb_t_38]; rfl
    refine va_ldcS hx hb hown (h_t_38 _ _ _ hZ).1 dX10_book_73 ?_
    refine q_call_v hA hK hw (va_runV (As := [.ref t_38]) (rest := []) ⟨hx, hb, hml, hown, hts⟩ (c_X10_must_p zo l D cy L0 fw72 a0 t_38 b_t_38 v_t_38 nb_t_38 tx_t_38 ad hs wok_t_38 Tt nn n0 n1 (by omega) (by first | exact hT | exact fun i q0 q1 => (congrFun Q8 i).trans (hT i q0 q1)) bT _ _ ps (by omega) (by omega) _) (cwV 1 hts (gT (inV (mr19 _ (List.mem_of_getElem? (i := 23) rfl)) (mr20 _ (List.mem_of_getElem? (i := 0) rfl)) (mr20 _ (List.mem_of_getElem? (i := 1) rfl)) (mr1 _ (List.mem_of_getElem? (i := 5) rfl)) (mr20 _ (List.mem_of_getElem? (i := 2) rfl)))) rfl rfl rfl (by decide +kernel) ⟨Nat.le_of_ble_eq_true rfl, Nat.le_of_ble_eq_true rfl⟩) (Wd.preV zo hA hZ hw hK hs.1 hs.2.1 rfl) rfl rfl hl.1 rfl (lv_room (Nat.le_of_ble_eq_true rfl)) dX10_book_75 ⟨Nat.le_of_ble_eq_true rfl, Nat.le_of_ble_eq_true rfl⟩) (fun L1 f_40 H locs ex_39 hw => ?_)
    obtain ⟨rfl, hs, hX, ex_39⟩ := ex_39
    have hE := hE.trans (hX.mono (rs' := [4, 21]) (fs' := [5, 9, 10, 14, 15, 16, 17, 18, 19, 20, 22]) (by decide) (by decide))
    have t5_f_40 : fI f_40 a0 5 = fI fw72 a0 5 := hX.2 5 (by decide)
    have t9_f_40 : fI f_40 a0 9 = fI fw72 a0 9 := hX.2 9 (by decide)
    have t14_f_40 : fI f_40 a0 14 = fI fw72 a0 14 := hX.2 14 (by decide)
    have t22_f_40 : fI f_40 a0 22 = fI fw72 a0 22 := hX.2 22 (by decide)
    have c21_0_f_40 : aI f_40 (ad 21) 0 = aI fw72 (ad 21) 0 := hX.1 21 rfl (by decide) _
    have c21_1_f_40 : aI f_40 (ad 21) 1 = aI fw72 (ad 21) 1 := hX.1 21 rfl (by decide) _
    have c21_2_f_40 : aI f_40 (ad 21) 2 = aI fw72 (ad 21) 2 := hX.1 21 rfl (by decide) _
    have c21_3_f_40 : aI f_40 (ad 21) 3 = aI fw72 (ad 21) 3 := hX.1 21 rfl (by decide) _
    have c21_4_f_40 : aI f_40 (ad 21) 4 = aI fw72 (ad 21) 4 := hX.1 21 rfl (by decide) _
    have c21_5_f_40 : aI f_40 (ad 21) 5 = aI fw72 (ad 21) 5 := hX.1 21 rfl (by decide) _
    have c21_6_f_40 : aI f_40 (ad 21) 6 = aI fw72 (ad 21) 6 := hX.1 21 rfl (by decide) _
    have c21_7_f_40 : aI f_40 (ad 21) 7 = aI fw72 (ad 21) 7 := hX.1 21 rfl (by decide) _
    have c21_8_f_40 : aI f_40 (ad 21) 8 = aI fw72 (ad 21) 8 := hX.1 21 rfl (by decide) _
    have c21_9_f_40 : aI f_40 (ad 21) 9 = aI fw72 (ad 21) 9 := hX.1 21 rfl (by decide) _
    have c21_10_f_40 : aI f_40 (ad 21) 10 = aI fw72 (ad 21) 10 := hX.1 21 rfl (by decide) _
    have c21_11_f_40 : aI f_40 (ad 21) 11 = aI fw72 (ad 21) 11 := hX.1 21 rfl (by decide) _
    have h4 : ∀ x : Int, 0 ≤ x → x < 44 * fI f0 a0 5 → aI f_40 (ad 4) x = aI f0 (ad 4) x := fun x q0 q1 => (hX.1 4 rfl (by decide) x).trans (h4 x q0 q1)
    have Q8 : aI f_40 (ad 8) = aI f0 (ad 8) := funext fun x => hE.1 8 rfl (by decide) x
    have ps : PSr Tt nn f_40 a0 (sq (sq (wS Tt nn 0 wBook) (nS Tt nn (tQn Tt nn 1 0) 0 7)) (wS Tt nn (tQn Tt nn 2 0) wAt)) (tQn Tt nn 3 0) := by have q := ex_39; rw [eb_t_38] at q; exact q
    clear ex_39
    exact J78 L0 f_40 hs hE h4 (by omega) (by omega) (by omega) (by omega) (by omega) (by exact ps) (by exact w0.to (fun z => z) (by omega)) _ _ _ hw (lv_sub hl [0] rfl)
  have J59 : ∀ (L : List Nat) (fw59 : Nat → va_E) (hs : MS cy L0 fw59 a0 ad) (hE : Kp a0 ad [4, 21] [5, 9, 10, 14, 15, 16, 17, 18, 19, 20, 22] f0 fw59) (h4 : ∀ x : Int, 0 ≤ x → x < 44 * fI f0 a0 5 → aI fw59 (ad 4) x = aI f0 (ad 4) x) (i5 : fI fw59 a0 14 = nn) (u5 : fI fw59 a0 5 = fI f0 a0 5) (u9 : fI fw59 a0 9 = 0) (n11 : fI f0 a0 5 ≤ 11) (n1 : nn ≤ 160) (ps : PSr Tt nn fw59 a0 (wS Tt nn 0 wBook) (tQn Tt nn 1 0)) (H : Heap) (locs : List Loc) (ls : Array Slot) (hw : Wd D A s.heap L0 fw59 H locs) (hl : lv_has ls 2 [(0, .ref a0)]), W p l e ({ frames := 10, cells := 0, slots := 0, locals := 210 } : Room) s m ([.ref a0] : List Value).toArray below meth c H locs (0) (0) (MQ below (Qi D (tq cy) L0 f0 s.heap.size (fun (r : Int) (L1 : List Nat) (f1 : Nat → va_E) => L0 = L1 ∧ MS cy L0 f1 a0 ad ∧ Kp a0 ad [4, 21] [5, 9, 10, 14, 15, 16, 17, 18, 19, 20, 22] f0 f1 ∧ (MV f1 a0 ad ∧ fI f1 a0 9 = 0 ∧ 0 ≤ fI f1 a0 15 ∧ fI f1 a0 15 ≤ 168 ∧ ((r = -1 ∧ (160 < nn ∨ 12 ≤ fI f0 a0 5) ∧ fI f1 a0 5 = fI f0 a0 5 ∧ (∀ x : Int, 0 ≤ x → x < 44 * fI f0 a0 5 → aI f1 (ad 4) x = aI f0 (ad 4) x)) ∨ (nn ≤ 160 ∧ fI f0 a0 5 < 12 ∧ bkF Tt nn ≠ 0 ∧ r = -2 - bkF Tt nn ∧ fI f1 a0 5 = fI f0 a0 5 ∧ (∀ x : Int, 0 ≤ x → x < 44 * fI f0 a0 5 → aI f1 (ad 4) x = aI f0 (ad 4) x)) ∨ (nn ≤ 160 ∧ fI f0 a0 5 < 12 ∧ bkF Tt nn = 0 ∧ r = fI f0 a0 5 ∧ fI f1 a0 5 = fI f0 a0 5 + 1 ∧ (∀ x : Int, 0 ≤ x → x < 44 * fI f0 a0 5 → aI f1 (ad 4) x = aI f0 (ad 4) x) ∧ (∀ j : Int, 0 ≤ j → j ≤ 10 → aI f1 (ad 4) (44 * fI f0 a0 5 + j) = bkW Tt nn j) ∧ aI f1 (ad 4) (44 * fI f0 a0 5 + 11) = 0))))) ([.ref a0] : List Value).toArray s 0 0 A) (F0 m 59 ls []) := by
    intro L fw59 hs hE h4 i5 u5 u9 n11 n1 ps H locs ls hw hl
    have ps1 := ps.1
    have ps2 := ps.2.1
    have ps3 := ps.2.2.1
    have ps4 := ps.2.2.2.1
    have ps5 := ps.2.2.2.2.1
    have ps6 := ps.2.2.2.2.2.1
    have Q8 : aI fw59 (ad 8) = aI f0 (ad 8) := funext fun x => hE.1 8 rfl (by decide) x
    refine lv_aload_n hx hb dX10_book_59 rfl (lv_at hl 0 rfl) ?_
    refine q_getr (ci := 8) (C := RX10) (T := TX10) (N := 26) hx hb hts (fun w h => List.mem_cons_of_mem _ (mfX100 w h)) hown hK hw hs.1 hs.2.1 rfl 21 (by decide) (hts _ (List.mem_cons_of_mem _ (mr3 _ (List.mem_of_getElem? (i := 22) rfl)))) (fun _ h => h) rfl (hs.2.2.1 21 rfl).1 dX10_book_60 ?_
    refine q_iconst hx hb dX10_book_63 ?_
    refine lv_aload_n hx hb dX10_book_64 rfl (lv_at hl 0 rfl) ?_
    refine q_iconst hx hb dX10_book_65 ?_
    refine q_bipush hx hb dX10_book_66 rfl ?_
    refine q_call_i hA hK hw (va_runV (As := [.int (iI 0), .int (iI 7)]) (rest := [.int (iI 0), .ref (ad 21)]) ⟨hx, hb, hml, hown, hts⟩ (c_X10_numberTold_p zo l D cy L0 fw59 a0 0 (by decide) (by decide) 7 (by decide) (by decide) ad hs Tt nn n0 n1 (by omega) (by first | exact hT | exact fun i q0 q1 => (congrFun Q8 i).trans (hT i q0 q1)) bT _ _ ps (by omega) (by omega) _) (cwV 2 hts (gT (inV (mr20 _ (List.mem_of_getElem? (i := 16) rfl)) (mr20 _ (List.mem_of_getElem? (i := 17) rfl)) (mr20 _ (List.mem_of_getElem? (i := 18) rfl)) (mr1 _ (List.mem_of_getElem? (i := 5) rfl)) (mr20 _ (List.mem_of_getElem? (i := 19) rfl)))) rfl rfl rfl (by decide +kernel) ⟨Nat.le_of_ble_eq_true rfl, Nat.le_of_ble_eq_true rfl⟩) (Wd.preV zo hA hZ hw hK hs.1 hs.2.1 rfl) rfl rfl hl.1 rfl (lv_room (Nat.le_of_ble_eq_true rfl)) dX10_book_68 ⟨Nat.le_of_ble_eq_true rfl, Nat.le_of_ble_eq_true rfl⟩) (fun x_41 L1 f_42 H locs lx_41 ux_41 ex_41 hw => ?_)
    obtain ⟨rfl, hs, hX, ex_41⟩ := ex_41
    have hE := hE.trans (hX.mono (rs' := [4, 21]) (fs' := [5, 9, 10, 14, 15, 16, 17, 18, 19, 20, 22]) (by decide) (by decide))
    have t5_f_42 : fI f_42 a0 5 = fI fw59 a0 5 := hX.2 5 (by decide)
    have t9_f_42 : fI f_42 a0 9 = fI fw59 a0 9 := hX.2 9 (by decide)
    have t14_f_42 : fI f_42 a0 14 = fI fw59 a0 14 := hX.2 14 (by decide)
    have t22_f_42 : fI f_42 a0 22 = fI fw59 a0 22 := hX.2 22 (by decide)
    have c21_0_f_42 : aI f_42 (ad 21) 0 = aI fw59 (ad 21) 0 := hX.1 21 rfl (by decide) _
    have c21_1_f_42 : aI f_42 (ad 21) 1 = aI fw59 (ad 21) 1 := hX.1 21 rfl (by decide) _
    have c21_2_f_42 : aI f_42 (ad 21) 2 = aI fw59 (ad 21) 2 := hX.1 21 rfl (by decide) _
    have c21_3_f_42 : aI f_42 (ad 21) 3 = aI fw59 (ad 21) 3 := hX.1 21 rfl (by decide) _
    have c21_4_f_42 : aI f_42 (ad 21) 4 = aI fw59 (ad 21) 4 := hX.1 21 rfl (by decide) _
    have c21_5_f_42 : aI f_42 (ad 21) 5 = aI fw59 (ad 21) 5 := hX.1 21 rfl (by decide) _
    have c21_6_f_42 : aI f_42 (ad 21) 6 = aI fw59 (ad 21) 6 := hX.1 21 rfl (by decide) _
    have c21_7_f_42 : aI f_42 (ad 21) 7 = aI fw59 (ad 21) 7 := hX.1 21 rfl (by decide) _
    have c21_8_f_42 : aI f_42 (ad 21) 8 = aI fw59 (ad 21) 8 := hX.1 21 rfl (by decide) _
    have c21_9_f_42 : aI f_42 (ad 21) 9 = aI fw59 (ad 21) 9 := hX.1 21 rfl (by decide) _
    have c21_10_f_42 : aI f_42 (ad 21) 10 = aI fw59 (ad 21) 10 := hX.1 21 rfl (by decide) _
    have c21_11_f_42 : aI f_42 (ad 21) 11 = aI fw59 (ad 21) 11 := hX.1 21 rfl (by decide) _
    have h4 : ∀ x : Int, 0 ≤ x → x < 44 * fI f0 a0 5 → aI f_42 (ad 4) x = aI f0 (ad 4) x := fun x q0 q1 => (hX.1 4 rfl (by decide) x).trans (h4 x q0 q1)
    have Q8 : aI f_42 (ad 8) = aI f0 (ad 8) := funext fun x => hE.1 8 rfl (by decide) x
    obtain ⟨ps, v68⟩ := ex_41
    have ps : PSr Tt nn f_42 a0 (sq (wS Tt nn 0 wBook) (nS Tt nn (tQn Tt nn 1 0) 0 7)) (tQn Tt nn 2 0) := ps
    refine q_iast hx hb hK hw (hs.2.2.1 21 rfl).2.1 1 (hs.2.2.1 21 rfl).2.2 rfl ⟨by decide, by decide⟩ (by omega) (by show _ < ((44 : Nat) : Int); omega) dX10_book_71 (fun H locs hw => ?_)
    obtain ⟨f_43, ef_43⟩ : ∃ g : Nat → va_E, g = aU f_42 (ad 21) 0 (iI x_41) := ⟨_, rfl⟩
    have t5_f_43 : fI f_43 a0 5 = fI f_42 a0 5 := by rw [ef_43]; exact hs.fI_aU rfl _ _
    have t9_f_43 : fI f_43 a0 9 = fI f_42 a0 9 := by rw [ef_43]; exact hs.fI_aU rfl _ _
    have t14_f_43 : fI f_43 a0 14 = fI f_42 a0 14 := by rw [ef_43]; exact hs.fI_aU rfl _ _
    have t15_f_43 : fI f_43 a0 15 = fI f_42 a0 15 := by rw [ef_43]; exact hs.fI_aU rfl _ _
    have t16_f_43 : fI f_43 a0 16 = fI f_42 a0 16 := by rw [ef_43]; exact hs.fI_aU rfl _ _
    have t17_f_43 : fI f_43 a0 17 = fI f_42 a0 17 := by rw [ef_43]; exact hs.fI_aU rfl _ _
    have t19_f_43 : fI f_43 a0 19 = fI f_42 a0 19 := by rw [ef_43]; exact hs.fI_aU rfl _ _
    have t20_f_43 : fI f_43 a0 20 = fI f_42 a0 20 := by rw [ef_43]; exact hs.fI_aU rfl _ _
    have t22_f_43 : fI f_43 a0 22 = fI f_42 a0 22 := by rw [ef_43]; exact hs.fI_aU rfl _ _
    have hE := hE.trans (show Kp a0 ad [4, 21] [5, 9, 10, 14, 15, 16, 17, 18, 19, 20, 22] f_42 f_43 by rw [ef_43]; exact Kp_aU hs rfl (by decide))
    have hs_ := hs
    have hs : MS cy L0 f_43 a0 ad := by rw [ef_43]; exact MS_aU hs rfl
    rw [← ef_43] at hw
    have Q8 : aI f_43 (ad 8) = aI f0 (ad 8) := funext fun x => hE.1 8 rfl (by decide) x
    have c21_0_f_43 : aI f_43 (ad 21) 0 = x_41 := by rw [ef_43]; exact hs_.aI_self rfl ⟨lx_41, ux_41⟩
    have c21_1_f_43 : aI f_43 (ad 21) 1 = aI f_42 (ad 21) 1 := by rw [ef_43]; exact hs_.aI_nj rfl (by decide) (by decide) (by decide)
    have c21_2_f_43 : aI f_43 (ad 21) 2 = aI f_42 (ad 21) 2 := by rw [ef_43]; exact hs_.aI_nj rfl (by decide) (by decide) (by decide)
    have c21_3_f_43 : aI f_43 (ad 21) 3 = aI f_42 (ad 21) 3 := by rw [ef_43]; exact hs_.aI_nj rfl (by decide) (by decide) (by decide)
    have c21_4_f_43 : aI f_43 (ad 21) 4 = aI f_42 (ad 21) 4 := by rw [ef_43]; exact hs_.aI_nj rfl (by decide) (by decide) (by decide)
    have c21_5_f_43 : aI f_43 (ad 21) 5 = aI f_42 (ad 21) 5 := by rw [ef_43]; exact hs_.aI_nj rfl (by decide) (by decide) (by decide)
    have c21_6_f_43 : aI f_43 (ad 21) 6 = aI f_42 (ad 21) 6 := by rw [ef_43]; exact hs_.aI_nj rfl (by decide) (by decide) (by decide)
    have c21_7_f_43 : aI f_43 (ad 21) 7 = aI f_42 (ad 21) 7 := by rw [ef_43]; exact hs_.aI_nj rfl (by decide) (by decide) (by decide)
    have c21_8_f_43 : aI f_43 (ad 21) 8 = aI f_42 (ad 21) 8 := by rw [ef_43]; exact hs_.aI_nj rfl (by decide) (by decide) (by decide)
    have c21_9_f_43 : aI f_43 (ad 21) 9 = aI f_42 (ad 21) 9 := by rw [ef_43]; exact hs_.aI_nj rfl (by decide) (by decide) (by decide)
    have c21_10_f_43 : aI f_43 (ad 21) 10 = aI f_42 (ad 21) 10 := by rw [ef_43]; exact hs_.aI_nj rfl (by decide) (by decide) (by decide)
    have c21_11_f_43 : aI f_43 (ad 21) 11 = aI f_42 (ad 21) 11 := by rw [ef_43]; exact hs_.aI_nj rfl (by decide) (by decide) (by decide)
    have h4 : ∀ x : Int, 0 ≤ x → x < 44 * fI f0 a0 5 → aI f_43 (ad 4) x = aI f0 (ad 4) x := fun x q0 q1 => Eq.trans (by rw [ef_43]; exact hs_.aI_ne rfl rfl (by decide) _) (h4 x q0 q1)
    have ps := ps.aU (hs_.2.2.1 21 rfl).2.2 ef_43
    have w0 : RVq (sq (wS Tt nn 0 wBook) (nS Tt nn (tQn Tt nn 1 0) 0 7)) (vN Tt nn (tQn Tt nn 1 0)) (aI f_43 (ad 21) 0) := v68.to (fun z => z) (by omega)
    exact J72 L0 f_43 hs hE h4 (by omega) (by omega) (by omega) (by omega) (by omega) (by exact ps) (by exact w0.to (fun z => z) (by omega)) _ _ _ hw (lv_sub hl [0] rfl)
  have J53 : ∀ (L : List Nat) (fw53 : Nat → va_E) (hs : MS cy L0 fw53 a0 ad) (hE : Kp a0 ad [4, 21] [5, 9, 10, 14, 15, 16, 17, 18, 19, 20, 22] f0 fw53) (h4 : ∀ x : Int, 0 ≤ x → x < 44 * fI f0 a0 5 → aI fw53 (ad 4) x = aI f0 (ad 4) x) (i5 : fI fw53 a0 14 = nn) (u5 : fI fw53 a0 5 = fI f0 a0 5) (u9 : fI fw53 a0 9 = 0) (n11 : fI f0 a0 5 ≤ 11) (n1 : nn ≤ 160) (ps : PSr Tt nn fw53 a0 0 0) (H : Heap) (locs : List Loc) (ls : Array Slot) (hw : Wd D A s.heap L0 fw53 H locs) (hl : lv_has ls 2 [(0, .ref a0)]), W p l e ({ frames := 10, cells := 0, slots := 0, locals := 210 } : Room) s m ([.ref a0] : List Value).toArray below meth c H locs (0) (0) (MQ below (Qi D (tq cy) L0 f0 s.heap.size (fun (r : Int) (L1 : List Nat) (f1 : Nat → va_E) => L0 = L1 ∧ MS cy L0 f1 a0 ad ∧ Kp a0 ad [4, 21] [5, 9, 10, 14, 15, 16, 17, 18, 19, 20, 22] f0 f1 ∧ (MV f1 a0 ad ∧ fI f1 a0 9 = 0 ∧ 0 ≤ fI f1 a0 15 ∧ fI f1 a0 15 ≤ 168 ∧ ((r = -1 ∧ (160 < nn ∨ 12 ≤ fI f0 a0 5) ∧ fI f1 a0 5 = fI f0 a0 5 ∧ (∀ x : Int, 0 ≤ x → x < 44 * fI f0 a0 5 → aI f1 (ad 4) x = aI f0 (ad 4) x)) ∨ (nn ≤ 160 ∧ fI f0 a0 5 < 12 ∧ bkF Tt nn ≠ 0 ∧ r = -2 - bkF Tt nn ∧ fI f1 a0 5 = fI f0 a0 5 ∧ (∀ x : Int, 0 ≤ x → x < 44 * fI f0 a0 5 → aI f1 (ad 4) x = aI f0 (ad 4) x)) ∨ (nn ≤ 160 ∧ fI f0 a0 5 < 12 ∧ bkF Tt nn = 0 ∧ r = fI f0 a0 5 ∧ fI f1 a0 5 = fI f0 a0 5 + 1 ∧ (∀ x : Int, 0 ≤ x → x < 44 * fI f0 a0 5 → aI f1 (ad 4) x = aI f0 (ad 4) x) ∧ (∀ j : Int, 0 ≤ j → j ≤ 10 → aI f1 (ad 4) (44 * fI f0 a0 5 + j) = bkW Tt nn j) ∧ aI f1 (ad 4) (44 * fI f0 a0 5 + 11) = 0))))) ([.ref a0] : List Value).toArray s 0 0 A) (F0 m 53 ls []) := by
    intro L fw53 hs hE h4 i5 u5 u9 n11 n1 ps H locs ls hw hl
    have ps1 := ps.1
    have ps2 := ps.2.1
    have ps3 := ps.2.2.1
    have ps4 := ps.2.2.2.1
    have ps5 := ps.2.2.2.2.1
    have ps6 := ps.2.2.2.2.2.1
    have Q8 : aI fw53 (ad 8) = aI f0 (ad 8) := funext fun x => hE.1 8 rfl (by decide) x
    refine lv_aload_n hx hb dX10_book_53 rfl (lv_at hl 0 rfl) ?_
    obtain ⟨t_44, v_t_44, h_t_44⟩ : ∃ q v : Nat, ∀ (A : Nat → Prop) (U : State) (H : Heap), Z A U H → vk_R RX10 206 "book" q U ∧ Tx [98, 111, 111, 107] q v A U H := ztx_37 zo
    obtain ⟨b_t_44, eb_t_44⟩ : ∃ b : List Int32, b = [98, 111, 111, 107] := ⟨_, rfl⟩
    have nb_t_44 : Asc b_t_44 := by rw [eb_t_44]; exact ⟨by decide, by decide +kernel⟩
    have tx_t_44 : ∀ (A : Nat → Prop) (U : State) (H : Heap), Z A U H → Tx b_t_44 t_44 v_t_44 A U H := fun A U H h => by rw [eb_t_44]; exact (h_t_44 A U H h).2
    have wok_t_44 : WOK b_t_44 := by rw [eb_t_44]; unfold WOK; decide +kernel
    have eb_t_44 : b_t_44 = wBook := by rw [eb_t_44]; rfl
    refine va_ldcS hx hb hown (h_t_44 _ _ _ hZ).1 dX10_book_54 ?_
    refine q_call_v hA hK hw (va_runV (As := [.ref t_44]) (rest := []) ⟨hx, hb, hml, hown, hts⟩ (c_X10_must_p zo l D cy L0 fw53 a0 t_44 b_t_44 v_t_44 nb_t_44 tx_t_44 ad hs wok_t_44 Tt nn n0 n1 (by omega) (by first | exact hT | exact fun i q0 q1 => (congrFun Q8 i).trans (hT i q0 q1)) bT _ _ ps (by omega) (by omega) _) (cwV 1 hts (gT (inV (mr19 _ (List.mem_of_getElem? (i := 23) rfl)) (mr20 _ (List.mem_of_getElem? (i := 0) rfl)) (mr20 _ (List.mem_of_getElem? (i := 1) rfl)) (mr1 _ (List.mem_of_getElem? (i := 5) rfl)) (mr20 _ (List.mem_of_getElem? (i := 2) rfl)))) rfl rfl rfl (by decide +kernel) ⟨Nat.le_of_ble_eq_true rfl, Nat.le_of_ble_eq_true rfl⟩) (Wd.preV zo hA hZ hw hK hs.1 hs.2.1 rfl) rfl rfl hl.1 rfl (lv_room (Nat.le_of_ble_eq_true rfl)) dX10_book_56 ⟨Nat.le_of_ble_eq_true rfl, Nat.le_of_ble_eq_true rfl⟩) (fun L1 f_46 H locs ex_45 hw => ?_)
    obtain ⟨rfl, hs, hX, ex_45⟩ := ex_45
    have hE := hE.trans (hX.mono (rs' := [4, 21]) (fs' := [5, 9, 10, 14, 15, 16, 17, 18, 19, 20, 22]) (by decide) (by decide))
    have t5_f_46 : fI f_46 a0 5 = fI fw53 a0 5 := hX.2 5 (by decide)
    have t9_f_46 : fI f_46 a0 9 = fI fw53 a0 9 := hX.2 9 (by decide)
    have t14_f_46 : fI f_46 a0 14 = fI fw53 a0 14 := hX.2 14 (by decide)
    have t22_f_46 : fI f_46 a0 22 = fI fw53 a0 22 := hX.2 22 (by decide)
    have c21_0_f_46 : aI f_46 (ad 21) 0 = aI fw53 (ad 21) 0 := hX.1 21 rfl (by decide) _
    have c21_1_f_46 : aI f_46 (ad 21) 1 = aI fw53 (ad 21) 1 := hX.1 21 rfl (by decide) _
    have c21_2_f_46 : aI f_46 (ad 21) 2 = aI fw53 (ad 21) 2 := hX.1 21 rfl (by decide) _
    have c21_3_f_46 : aI f_46 (ad 21) 3 = aI fw53 (ad 21) 3 := hX.1 21 rfl (by decide) _
    have c21_4_f_46 : aI f_46 (ad 21) 4 = aI fw53 (ad 21) 4 := hX.1 21 rfl (by decide) _
    have c21_5_f_46 : aI f_46 (ad 21) 5 = aI fw53 (ad 21) 5 := hX.1 21 rfl (by decide) _
    have c21_6_f_46 : aI f_46 (ad 21) 6 = aI fw53 (ad 21) 6 := hX.1 21 rfl (by decide) _
    have c21_7_f_46 : aI f_46 (ad 21) 7 = aI fw53 (ad 21) 7 := hX.1 21 rfl (by decide) _
    have c21_8_f_46 : aI f_46 (ad 21) 8 = aI fw53 (ad 21) 8 := hX.1 21 rfl (by decide) _
    have c21_9_f_46 : aI f_46 (ad 21) 9 = aI fw53 (ad 21) 9 := hX.1 21 rfl (by decide) _
    have c21_10_f_46 : aI f_46 (ad 21) 10 = aI fw53 (ad 21) 10 := hX.1 21 rfl (by decide) _
    have c21_11_f_46 : aI f_46 (ad 21) 11 = aI fw53 (ad 21) 11 := hX.1 21 rfl (by decide) _
    have h4 : ∀ x : Int, 0 ≤ x → x < 44 * fI f0 a0 5 → aI f_46 (ad 4) x = aI f0 (ad 4) x := fun x q0 q1 => (hX.1 4 rfl (by decide) x).trans (h4 x q0 q1)
    have Q8 : aI f_46 (ad 8) = aI f0 (ad 8) := funext fun x => hE.1 8 rfl (by decide) x
    have ps : PSr Tt nn f_46 a0 (wS Tt nn 0 wBook) (tQn Tt nn 1 0) := by have q := ex_45; rw [eb_t_44, sq_0 rfl] at q; exact q
    clear ex_45
    exact J59 L0 f_46 hs hE h4 (by omega) (by omega) (by omega) (by omega) (by omega) (by exact ps) _ _ _ hw (lv_sub hl [0] rfl)
  refine lv_aload_n hx hb dX10_book_0 rfl (lv_at hl 0 rfl) ?_
  refine q_iconst hx hb dX10_book_1 ?_
  refine q_puti (ci := 8) (C := RX10) (T := TX10) (N := 26) hx hb hts (fun w h => List.mem_cons_of_mem _ (mfX100 w h)) hown hK hw hs.1 hs.2.1 rfl 10 (by decide) (hts _ (List.mem_cons_of_mem _ (mr4 _ (List.mem_of_getElem? (i := 19) rfl)))) (fun _ h => h) tyX10 tyX10_ok nmX10 rfl (ty := .int) (by decide +kernel) rfl rfl dX10_book_2 (fun H locs hw => ?_)
  obtain ⟨f_47, ef_47⟩ : ∃ g : Nat → va_E, g = pU f0 a0 10 (.int (iI 0)) := ⟨_, rfl⟩
  have v10_f_47 : fI f_47 a0 10 = 0 := by rw [ef_47]; exact fI_pU_self hs.2.1 rfl ⟨by decide, by decide⟩
  have t5_f_47 : fI f_47 a0 5 = fI f0 a0 5 := by rw [ef_47]; exact fI_pU (Or.inr (by decide))
  have t9_f_47 : fI f_47 a0 9 = fI f0 a0 9 := by rw [ef_47]; exact fI_pU (Or.inr (by decide))
  have t14_f_47 : fI f_47 a0 14 = fI f0 a0 14 := by rw [ef_47]; exact fI_pU (Or.inr (by decide))
  have t15_f_47 : fI f_47 a0 15 = fI f0 a0 15 := by rw [ef_47]; exact fI_pU (Or.inr (by decide))
  have t16_f_47 : fI f_47 a0 16 = fI f0 a0 16 := by rw [ef_47]; exact fI_pU (Or.inr (by decide))
  have t17_f_47 : fI f_47 a0 17 = fI f0 a0 17 := by rw [ef_47]; exact fI_pU (Or.inr (by decide))
  have t19_f_47 : fI f_47 a0 19 = fI f0 a0 19 := by rw [ef_47]; exact fI_pU (Or.inr (by decide))
  have t20_f_47 : fI f_47 a0 20 = fI f0 a0 20 := by rw [ef_47]; exact fI_pU (Or.inr (by decide))
  have t22_f_47 : fI f_47 a0 22 = fI f0 a0 22 := by rw [ef_47]; exact fI_pU (Or.inr (by decide))
  have hE := hE.trans (show Kp a0 ad [4, 21] [5, 9, 10, 14, 15, 16, 17, 18, 19, 20, 22] f0 f_47 by rw [ef_47]; exact Kp_pU hs (by decide))
  have hs_ := hs
  have hs : MS cy L0 f_47 a0 ad := by rw [ef_47]; exact MS_pU hs rfl
  rw [← ef_47] at hw
  have Q8 : aI f_47 (ad 8) = aI f0 (ad 8) := funext fun x => hE.1 8 rfl (by decide) x
  have c21_0_f_47 : aI f_47 (ad 21) 0 = aI f0 (ad 21) 0 := by rw [ef_47]; exact hs_.aI_pU _ _
  have c21_1_f_47 : aI f_47 (ad 21) 1 = aI f0 (ad 21) 1 := by rw [ef_47]; exact hs_.aI_pU _ _
  have c21_2_f_47 : aI f_47 (ad 21) 2 = aI f0 (ad 21) 2 := by rw [ef_47]; exact hs_.aI_pU _ _
  have c21_3_f_47 : aI f_47 (ad 21) 3 = aI f0 (ad 21) 3 := by rw [ef_47]; exact hs_.aI_pU _ _
  have c21_4_f_47 : aI f_47 (ad 21) 4 = aI f0 (ad 21) 4 := by rw [ef_47]; exact hs_.aI_pU _ _
  have c21_5_f_47 : aI f_47 (ad 21) 5 = aI f0 (ad 21) 5 := by rw [ef_47]; exact hs_.aI_pU _ _
  have c21_6_f_47 : aI f_47 (ad 21) 6 = aI f0 (ad 21) 6 := by rw [ef_47]; exact hs_.aI_pU _ _
  have c21_7_f_47 : aI f_47 (ad 21) 7 = aI f0 (ad 21) 7 := by rw [ef_47]; exact hs_.aI_pU _ _
  have c21_8_f_47 : aI f_47 (ad 21) 8 = aI f0 (ad 21) 8 := by rw [ef_47]; exact hs_.aI_pU _ _
  have c21_9_f_47 : aI f_47 (ad 21) 9 = aI f0 (ad 21) 9 := by rw [ef_47]; exact hs_.aI_pU _ _
  have c21_10_f_47 : aI f_47 (ad 21) 10 = aI f0 (ad 21) 10 := by rw [ef_47]; exact hs_.aI_pU _ _
  have c21_11_f_47 : aI f_47 (ad 21) 11 = aI f0 (ad 21) 11 := by rw [ef_47]; exact hs_.aI_pU _ _
  have h4 : ∀ x : Int, 0 ≤ x → x < 44 * fI f0 a0 5 → aI f_47 (ad 4) x = aI f0 (ad 4) x := fun x q0 q1 => Eq.trans (by rw [ef_47]; exact hs_.aI_pU _ _) (h4 x q0 q1)
  refine lv_aload_n hx hb dX10_book_5 rfl (lv_at hl 0 rfl) ?_
  refine lv_aload_n hx hb dX10_book_6 rfl (lv_at hl 0 rfl) ?_
  refine q_geti (ci := 8) (C := RX10) (T := TX10) (N := 26) hx hb hts (fun w h => List.mem_cons_of_mem _ (mfX100 w h)) hown hK hw hs.1 hs.2.1 rfl 9 (by decide) (hts _ (List.mem_cons_of_mem _ (mr4 _ (List.mem_of_getElem? (i := 20) rfl)))) (fun _ h => h) rfl dX10_book_7 (fun x_48 lx_48 ux_48 ex_48 => ?_)
  refine q_puti (ci := 8) (C := RX10) (T := TX10) (N := 26) hx hb hts (fun w h => List.mem_cons_of_mem _ (mfX100 w h)) hown hK hw hs.1 hs.2.1 rfl 14 (by decide) (hts _ (List.mem_cons_of_mem _ (mr19 _ (List.mem_of_getElem? (i := 0) rfl)))) (fun _ h => h) tyX10 tyX10_ok nmX10 rfl (ty := .int) (by decide +kernel) rfl rfl dX10_book_10 (fun H locs hw => ?_)
  obtain ⟨f_49, ef_49⟩ : ∃ g : Nat → va_E, g = pU f_47 a0 14 (.int (iI x_48)) := ⟨_, rfl⟩
  have v14_f_49 : fI f_49 a0 14 = x_48 := by rw [ef_49]; exact fI_pU_self hs.2.1 rfl ⟨lx_48, ux_48⟩
  have t5_f_49 : fI f_49 a0 5 = fI f_47 a0 5 := by rw [ef_49]; exact fI_pU (Or.inr (by decide))
  have t9_f_49 : fI f_49 a0 9 = fI f_47 a0 9 := by rw [ef_49]; exact fI_pU (Or.inr (by decide))
  have t15_f_49 : fI f_49 a0 15 = fI f_47 a0 15 := by rw [ef_49]; exact fI_pU (Or.inr (by decide))
  have t16_f_49 : fI f_49 a0 16 = fI f_47 a0 16 := by rw [ef_49]; exact fI_pU (Or.inr (by decide))
  have t17_f_49 : fI f_49 a0 17 = fI f_47 a0 17 := by rw [ef_49]; exact fI_pU (Or.inr (by decide))
  have t19_f_49 : fI f_49 a0 19 = fI f_47 a0 19 := by rw [ef_49]; exact fI_pU (Or.inr (by decide))
  have t20_f_49 : fI f_49 a0 20 = fI f_47 a0 20 := by rw [ef_49]; exact fI_pU (Or.inr (by decide))
  have t22_f_49 : fI f_49 a0 22 = fI f_47 a0 22 := by rw [ef_49]; exact fI_pU (Or.inr (by decide))
  have hE := hE.trans (show Kp a0 ad [4, 21] [5, 9, 10, 14, 15, 16, 17, 18, 19, 20, 22] f_47 f_49 by rw [ef_49]; exact Kp_pU hs (by decide))
  have hs_ := hs
  have hs : MS cy L0 f_49 a0 ad := by rw [ef_49]; exact MS_pU hs rfl
  rw [← ef_49] at hw
  have Q8 : aI f_49 (ad 8) = aI f0 (ad 8) := funext fun x => hE.1 8 rfl (by decide) x
  have c21_0_f_49 : aI f_49 (ad 21) 0 = aI f_47 (ad 21) 0 := by rw [ef_49]; exact hs_.aI_pU _ _
  have c21_1_f_49 : aI f_49 (ad 21) 1 = aI f_47 (ad 21) 1 := by rw [ef_49]; exact hs_.aI_pU _ _
  have c21_2_f_49 : aI f_49 (ad 21) 2 = aI f_47 (ad 21) 2 := by rw [ef_49]; exact hs_.aI_pU _ _
  have c21_3_f_49 : aI f_49 (ad 21) 3 = aI f_47 (ad 21) 3 := by rw [ef_49]; exact hs_.aI_pU _ _
  have c21_4_f_49 : aI f_49 (ad 21) 4 = aI f_47 (ad 21) 4 := by rw [ef_49]; exact hs_.aI_pU _ _
  have c21_5_f_49 : aI f_49 (ad 21) 5 = aI f_47 (ad 21) 5 := by rw [ef_49]; exact hs_.aI_pU _ _
  have c21_6_f_49 : aI f_49 (ad 21) 6 = aI f_47 (ad 21) 6 := by rw [ef_49]; exact hs_.aI_pU _ _
  have c21_7_f_49 : aI f_49 (ad 21) 7 = aI f_47 (ad 21) 7 := by rw [ef_49]; exact hs_.aI_pU _ _
  have c21_8_f_49 : aI f_49 (ad 21) 8 = aI f_47 (ad 21) 8 := by rw [ef_49]; exact hs_.aI_pU _ _
  have c21_9_f_49 : aI f_49 (ad 21) 9 = aI f_47 (ad 21) 9 := by rw [ef_49]; exact hs_.aI_pU _ _
  have c21_10_f_49 : aI f_49 (ad 21) 10 = aI f_47 (ad 21) 10 := by rw [ef_49]; exact hs_.aI_pU _ _
  have c21_11_f_49 : aI f_49 (ad 21) 11 = aI f_47 (ad 21) 11 := by rw [ef_49]; exact hs_.aI_pU _ _
  have h4 : ∀ x : Int, 0 ≤ x → x < 44 * fI f0 a0 5 → aI f_49 (ad 4) x = aI f0 (ad 4) x := fun x q0 q1 => Eq.trans (by rw [ef_49]; exact hs_.aI_pU _ _) (h4 x q0 q1)
  refine lv_aload_n hx hb dX10_book_13 rfl (lv_at hl 0 rfl) ?_
  refine q_iconst hx hb dX10_book_14 ?_
  refine q_puti (ci := 8) (C := RX10) (T := TX10) (N := 26) hx hb hts (fun w h => List.mem_cons_of_mem _ (mfX100 w h)) hown hK hw hs.1 hs.2.1 rfl 9 (by decide) (hts _ (List.mem_cons_of_mem _ (mr4 _ (List.mem_of_getElem? (i := 20) rfl)))) (fun _ h => h) tyX10 tyX10_ok nmX10 rfl (ty := .int) (by decide +kernel) rfl rfl dX10_book_15 (fun H locs hw => ?_)
  obtain ⟨f_50, ef_50⟩ : ∃ g : Nat → va_E, g = pU f_49 a0 9 (.int (iI 0)) := ⟨_, rfl⟩
  have v9_f_50 : fI f_50 a0 9 = 0 := by rw [ef_50]; exact fI_pU_self hs.2.1 rfl ⟨by decide, by decide⟩
  have t5_f_50 : fI f_50 a0 5 = fI f_49 a0 5 := by rw [ef_50]; exact fI_pU (Or.inr (by decide))
  have t14_f_50 : fI f_50 a0 14 = fI f_49 a0 14 := by rw [ef_50]; exact fI_pU (Or.inr (by decide))
  have t15_f_50 : fI f_50 a0 15 = fI f_49 a0 15 := by rw [ef_50]; exact fI_pU (Or.inr (by decide))
  have t16_f_50 : fI f_50 a0 16 = fI f_49 a0 16 := by rw [ef_50]; exact fI_pU (Or.inr (by decide))
  have t17_f_50 : fI f_50 a0 17 = fI f_49 a0 17 := by rw [ef_50]; exact fI_pU (Or.inr (by decide))
  have t19_f_50 : fI f_50 a0 19 = fI f_49 a0 19 := by rw [ef_50]; exact fI_pU (Or.inr (by decide))
  have t20_f_50 : fI f_50 a0 20 = fI f_49 a0 20 := by rw [ef_50]; exact fI_pU (Or.inr (by decide))
  have t22_f_50 : fI f_50 a0 22 = fI f_49 a0 22 := by rw [ef_50]; exact fI_pU (Or.inr (by decide))
  have hE := hE.trans (show Kp a0 ad [4, 21] [5, 9, 10, 14, 15, 16, 17, 18, 19, 20, 22] f_49 f_50 by rw [ef_50]; exact Kp_pU hs (by decide))
  have hs_ := hs
  have hs : MS cy L0 f_50 a0 ad := by rw [ef_50]; exact MS_pU hs rfl
  rw [← ef_50] at hw
  have Q8 : aI f_50 (ad 8) = aI f0 (ad 8) := funext fun x => hE.1 8 rfl (by decide) x
  have c21_0_f_50 : aI f_50 (ad 21) 0 = aI f_49 (ad 21) 0 := by rw [ef_50]; exact hs_.aI_pU _ _
  have c21_1_f_50 : aI f_50 (ad 21) 1 = aI f_49 (ad 21) 1 := by rw [ef_50]; exact hs_.aI_pU _ _
  have c21_2_f_50 : aI f_50 (ad 21) 2 = aI f_49 (ad 21) 2 := by rw [ef_50]; exact hs_.aI_pU _ _
  have c21_3_f_50 : aI f_50 (ad 21) 3 = aI f_49 (ad 21) 3 := by rw [ef_50]; exact hs_.aI_pU _ _
  have c21_4_f_50 : aI f_50 (ad 21) 4 = aI f_49 (ad 21) 4 := by rw [ef_50]; exact hs_.aI_pU _ _
  have c21_5_f_50 : aI f_50 (ad 21) 5 = aI f_49 (ad 21) 5 := by rw [ef_50]; exact hs_.aI_pU _ _
  have c21_6_f_50 : aI f_50 (ad 21) 6 = aI f_49 (ad 21) 6 := by rw [ef_50]; exact hs_.aI_pU _ _
  have c21_7_f_50 : aI f_50 (ad 21) 7 = aI f_49 (ad 21) 7 := by rw [ef_50]; exact hs_.aI_pU _ _
  have c21_8_f_50 : aI f_50 (ad 21) 8 = aI f_49 (ad 21) 8 := by rw [ef_50]; exact hs_.aI_pU _ _
  have c21_9_f_50 : aI f_50 (ad 21) 9 = aI f_49 (ad 21) 9 := by rw [ef_50]; exact hs_.aI_pU _ _
  have c21_10_f_50 : aI f_50 (ad 21) 10 = aI f_49 (ad 21) 10 := by rw [ef_50]; exact hs_.aI_pU _ _
  have c21_11_f_50 : aI f_50 (ad 21) 11 = aI f_49 (ad 21) 11 := by rw [ef_50]; exact hs_.aI_pU _ _
  have h4 : ∀ x : Int, 0 ≤ x → x < 44 * fI f0 a0 5 → aI f_50 (ad 4) x = aI f0 (ad 4) x := fun x q0 q1 => Eq.trans (by rw [ef_50]; exact hs_.aI_pU _ _) (h4 x q0 q1)
  refine lv_aload_n hx hb dX10_book_18 rfl (lv_at hl 0 rfl) ?_
  refine q_geti (ci := 8) (C := RX10) (T := TX10) (N := 26) hx hb hts (fun w h => List.mem_cons_of_mem _ (mfX100 w h)) hown hK hw hs.1 hs.2.1 rfl 14 (by decide) (hts _ (List.mem_cons_of_mem _ (mr19 _ (List.mem_of_getElem? (i := 0) rfl)))) (fun _ h => h) rfl dX10_book_19 (fun x_51 lx_51 ux_51 ex_51 => ?_)
  refine q_sipush hx hb dX10_book_22 rfl ?_
  refine q_icmp_gt (tgt := 37) hx hb dX10_book_25 (by decide) ⟨lx_51, ux_51⟩ ⟨by decide, by decide⟩ (fun c25 => ?_) (fun c25 => ?_)
  · refine q_iconst hx hb dX10_book_37 ?_
    exact q_ret_i hx hb hr hlocks hK hAe hw ⟨by decide, by decide⟩ (Nat.le_of_ble_eq_true rfl) (Nat.le_of_ble_eq_true rfl) dX10_book_38 (by exact ⟨rfl, hs, hE, hv.same (by omega) h4, by omega, by omega, by omega, Or.inl ⟨by omega, by omega, by omega, h4⟩⟩)
  · have n1 : nn ≤ 160 := by omega
    refine lv_aload_n hx hb dX10_book_28 rfl (lv_at hl 0 rfl) ?_
    refine q_geti (ci := 8) (C := RX10) (T := TX10) (N := 26) hx hb hts (fun w h => List.mem_cons_of_mem _ (mfX100 w h)) hown hK hw hs.1 hs.2.1 rfl 5 (by decide) (hts _ (List.mem_cons_of_mem _ (mr19 _ (List.mem_of_getElem? (i := 1) rfl)))) (fun _ h => h) rfl dX10_book_29 (fun x_52 lx_52 ux_52 ex_52 => ?_)
    refine q_bipush hx hb dX10_book_32 rfl ?_
    refine q_icmp_ne (tgt := 39) hx hb dX10_book_34 (by decide) ⟨lx_52, ux_52⟩ ⟨by decide, by decide⟩ (fun c34 => ?_) (fun c34 => ?_)
    · refine lv_aload_n hx hb dX10_book_39 rfl (lv_at hl 0 rfl) ?_
      refine q_iconst hx hb dX10_book_40 ?_
      refine q_puti (ci := 8) (C := RX10) (T := TX10) (N := 26) hx hb hts (fun w h => List.mem_cons_of_mem _ (mfX100 w h)) hown hK hw hs.1 hs.2.1 rfl 20 (by decide) (hts _ (List.mem_cons_of_mem _ (mr19 _ (List.mem_of_getElem? (i := 2) rfl)))) (fun _ h => h) tyX10 tyX10_ok nmX10 rfl (ty := .int) (by decide +kernel) rfl rfl dX10_book_41 (fun H locs hw => ?_)
      obtain ⟨f_53, ef_53⟩ : ∃ g : Nat → va_E, g = pU f_50 a0 20 (.int (iI 0)) := ⟨_, rfl⟩
      have v20_f_53 : fI f_53 a0 20 = 0 := by rw [ef_53]; exact fI_pU_self hs.2.1 rfl ⟨by decide, by decide⟩
      have t5_f_53 : fI f_53 a0 5 = fI f_50 a0 5 := by rw [ef_53]; exact fI_pU (Or.inr (by decide))
      have t9_f_53 : fI f_53 a0 9 = fI f_50 a0 9 := by rw [ef_53]; exact fI_pU (Or.inr (by decide))
      have t14_f_53 : fI f_53 a0 14 = fI f_50 a0 14 := by rw [ef_53]; exact fI_pU (Or.inr (by decide))
      have t15_f_53 : fI f_53 a0 15 = fI f_50 a0 15 := by rw [ef_53]; exact fI_pU (Or.inr (by decide))
      have t16_f_53 : fI f_53 a0 16 = fI f_50 a0 16 := by rw [ef_53]; exact fI_pU (Or.inr (by decide))
      have t17_f_53 : fI f_53 a0 17 = fI f_50 a0 17 := by rw [ef_53]; exact fI_pU (Or.inr (by decide))
      have t19_f_53 : fI f_53 a0 19 = fI f_50 a0 19 := by rw [ef_53]; exact fI_pU (Or.inr (by decide))
      have t22_f_53 : fI f_53 a0 22 = fI f_50 a0 22 := by rw [ef_53]; exact fI_pU (Or.inr (by decide))
      have hE := hE.trans (show Kp a0 ad [4, 21] [5, 9, 10, 14, 15, 16, 17, 18, 19, 20, 22] f_50 f_53 by rw [ef_53]; exact Kp_pU hs (by decide))
      have hs_ := hs
      have hs : MS cy L0 f_53 a0 ad := by rw [ef_53]; exact MS_pU hs rfl
      rw [← ef_53] at hw
      have Q8 : aI f_53 (ad 8) = aI f0 (ad 8) := funext fun x => hE.1 8 rfl (by decide) x
      have c21_0_f_53 : aI f_53 (ad 21) 0 = aI f_50 (ad 21) 0 := by rw [ef_53]; exact hs_.aI_pU _ _
      have c21_1_f_53 : aI f_53 (ad 21) 1 = aI f_50 (ad 21) 1 := by rw [ef_53]; exact hs_.aI_pU _ _
      have c21_2_f_53 : aI f_53 (ad 21) 2 = aI f_50 (ad 21) 2 := by rw [ef_53]; exact hs_.aI_pU _ _
      have c21_3_f_53 : aI f_53 (ad 21) 3 = aI f_50 (ad 21) 3 := by rw [ef_53]; exact hs_.aI_pU _ _
      have c21_4_f_53 : aI f_53 (ad 21) 4 = aI f_50 (ad 21) 4 := by rw [ef_53]; exact hs_.aI_pU _ _
      have c21_5_f_53 : aI f_53 (ad 21) 5 = aI f_50 (ad 21) 5 := by rw [ef_53]; exact hs_.aI_pU _ _
      have c21_6_f_53 : aI f_53 (ad 21) 6 = aI f_50 (ad 21) 6 := by rw [ef_53]; exact hs_.aI_pU _ _
      have c21_7_f_53 : aI f_53 (ad 21) 7 = aI f_50 (ad 21) 7 := by rw [ef_53]; exact hs_.aI_pU _ _
      have c21_8_f_53 : aI f_53 (ad 21) 8 = aI f_50 (ad 21) 8 := by rw [ef_53]; exact hs_.aI_pU _ _
      have c21_9_f_53 : aI f_53 (ad 21) 9 = aI f_50 (ad 21) 9 := by rw [ef_53]; exact hs_.aI_pU _ _
      have c21_10_f_53 : aI f_53 (ad 21) 10 = aI f_50 (ad 21) 10 := by rw [ef_53]; exact hs_.aI_pU _ _
      have c21_11_f_53 : aI f_53 (ad 21) 11 = aI f_50 (ad 21) 11 := by rw [ef_53]; exact hs_.aI_pU _ _
      have h4 : ∀ x : Int, 0 ≤ x → x < 44 * fI f0 a0 5 → aI f_53 (ad 4) x = aI f0 (ad 4) x := fun x q0 q1 => Eq.trans (by rw [ef_53]; exact hs_.aI_pU _ _) (h4 x q0 q1)
      refine lv_aload_n hx hb dX10_book_44 rfl (lv_at hl 0 rfl) ?_
      refine q_iconst hx hb dX10_book_45 ?_
      refine q_puti (ci := 8) (C := RX10) (T := TX10) (N := 26) hx hb hts (fun w h => List.mem_cons_of_mem _ (mfX100 w h)) hown hK hw hs.1 hs.2.1 rfl 16 (by decide) (hts _ (List.mem_cons_of_mem _ (mr19 _ (List.mem_of_getElem? (i := 3) rfl)))) (fun _ h => h) tyX10 tyX10_ok nmX10 rfl (ty := .int) (by decide +kernel) rfl rfl dX10_book_46 (fun H locs hw => ?_)
      obtain ⟨f_54, ef_54⟩ : ∃ g : Nat → va_E, g = pU f_53 a0 16 (.int (iI 0)) := ⟨_, rfl⟩
      have v16_f_54 : fI f_54 a0 16 = 0 := by rw [ef_54]; exact fI_pU_self hs.2.1 rfl ⟨by decide, by decide⟩
      have t5_f_54 : fI f_54 a0 5 = fI f_53 a0 5 := by rw [ef_54]; exact fI_pU (Or.inr (by decide))
      have t9_f_54 : fI f_54 a0 9 = fI f_53 a0 9 := by rw [ef_54]; exact fI_pU (Or.inr (by decide))
      have t14_f_54 : fI f_54 a0 14 = fI f_53 a0 14 := by rw [ef_54]; exact fI_pU (Or.inr (by decide))
      have t15_f_54 : fI f_54 a0 15 = fI f_53 a0 15 := by rw [ef_54]; exact fI_pU (Or.inr (by decide))
      have t17_f_54 : fI f_54 a0 17 = fI f_53 a0 17 := by rw [ef_54]; exact fI_pU (Or.inr (by decide))
      have t19_f_54 : fI f_54 a0 19 = fI f_53 a0 19 := by rw [ef_54]; exact fI_pU (Or.inr (by decide))
      have t20_f_54 : fI f_54 a0 20 = fI f_53 a0 20 := by rw [ef_54]; exact fI_pU (Or.inr (by decide))
      have t22_f_54 : fI f_54 a0 22 = fI f_53 a0 22 := by rw [ef_54]; exact fI_pU (Or.inr (by decide))
      have hE := hE.trans (show Kp a0 ad [4, 21] [5, 9, 10, 14, 15, 16, 17, 18, 19, 20, 22] f_53 f_54 by rw [ef_54]; exact Kp_pU hs (by decide))
      have hs_ := hs
      have hs : MS cy L0 f_54 a0 ad := by rw [ef_54]; exact MS_pU hs rfl
      rw [← ef_54] at hw
      have Q8 : aI f_54 (ad 8) = aI f0 (ad 8) := funext fun x => hE.1 8 rfl (by decide) x
      have c21_0_f_54 : aI f_54 (ad 21) 0 = aI f_53 (ad 21) 0 := by rw [ef_54]; exact hs_.aI_pU _ _
      have c21_1_f_54 : aI f_54 (ad 21) 1 = aI f_53 (ad 21) 1 := by rw [ef_54]; exact hs_.aI_pU _ _
      have c21_2_f_54 : aI f_54 (ad 21) 2 = aI f_53 (ad 21) 2 := by rw [ef_54]; exact hs_.aI_pU _ _
      have c21_3_f_54 : aI f_54 (ad 21) 3 = aI f_53 (ad 21) 3 := by rw [ef_54]; exact hs_.aI_pU _ _
      have c21_4_f_54 : aI f_54 (ad 21) 4 = aI f_53 (ad 21) 4 := by rw [ef_54]; exact hs_.aI_pU _ _
      have c21_5_f_54 : aI f_54 (ad 21) 5 = aI f_53 (ad 21) 5 := by rw [ef_54]; exact hs_.aI_pU _ _
      have c21_6_f_54 : aI f_54 (ad 21) 6 = aI f_53 (ad 21) 6 := by rw [ef_54]; exact hs_.aI_pU _ _
      have c21_7_f_54 : aI f_54 (ad 21) 7 = aI f_53 (ad 21) 7 := by rw [ef_54]; exact hs_.aI_pU _ _
      have c21_8_f_54 : aI f_54 (ad 21) 8 = aI f_53 (ad 21) 8 := by rw [ef_54]; exact hs_.aI_pU _ _
      have c21_9_f_54 : aI f_54 (ad 21) 9 = aI f_53 (ad 21) 9 := by rw [ef_54]; exact hs_.aI_pU _ _
      have c21_10_f_54 : aI f_54 (ad 21) 10 = aI f_53 (ad 21) 10 := by rw [ef_54]; exact hs_.aI_pU _ _
      have c21_11_f_54 : aI f_54 (ad 21) 11 = aI f_53 (ad 21) 11 := by rw [ef_54]; exact hs_.aI_pU _ _
      have h4 : ∀ x : Int, 0 ≤ x → x < 44 * fI f0 a0 5 → aI f_54 (ad 4) x = aI f0 (ad 4) x := fun x q0 q1 => Eq.trans (by rw [ef_54]; exact hs_.aI_pU _ _) (h4 x q0 q1)
      refine lv_aload_n hx hb dX10_book_49 rfl (lv_at hl 0 rfl) ?_
      refine q_call_v hA hK hw (va_runV (As := []) (rest := []) ⟨hx, hb, hml, hown, hts⟩ (c_X10_next_p zo l D cy L0 f_54 a0 ad hs Tt nn n0 n1 (by omega) (by first | exact hT | exact fun i q0 q1 => (congrFun Q8 i).trans (hT i q0 q1)) bT (by omega) (by omega) _) (cwV 0 hts (gT (inV (mr19 _ (List.mem_of_getElem? (i := 4) rfl)) (mr19 _ (List.mem_of_getElem? (i := 5) rfl)) (mr19 _ (List.mem_of_getElem? (i := 6) rfl)) (mr1 _ (List.mem_of_getElem? (i := 5) rfl)) (mr19 _ (List.mem_of_getElem? (i := 7) rfl)))) rfl rfl rfl (by decide +kernel) ⟨Nat.le_of_ble_eq_true rfl, Nat.le_of_ble_eq_true rfl⟩) (Wd.preV zo hA hZ hw hK hs.1 hs.2.1 rfl) rfl rfl hl.1 rfl (lv_room (Nat.le_of_ble_eq_true rfl)) dX10_book_50 ⟨Nat.le_of_ble_eq_true rfl, Nat.le_of_ble_eq_true rfl⟩) (fun L1 f_56 H locs ex_55 hw => ?_)
      obtain ⟨rfl, hs, hX, ex_55⟩ := ex_55
      have hE := hE.trans (hX.mono (rs' := [4, 21]) (fs' := [5, 9, 10, 14, 15, 16, 17, 18, 19, 20, 22]) (by decide) (by decide))
      have t5_f_56 : fI f_56 a0 5 = fI f_54 a0 5 := hX.2 5 (by decide)
      have t9_f_56 : fI f_56 a0 9 = fI f_54 a0 9 := hX.2 9 (by decide)
      have t14_f_56 : fI f_56 a0 14 = fI f_54 a0 14 := hX.2 14 (by decide)
      have t20_f_56 : fI f_56 a0 20 = fI f_54 a0 20 := hX.2 20 (by decide)
      have t22_f_56 : fI f_56 a0 22 = fI f_54 a0 22 := hX.2 22 (by decide)
      have c21_0_f_56 : aI f_56 (ad 21) 0 = aI f_54 (ad 21) 0 := hX.1 21 rfl (by decide) _
      have c21_1_f_56 : aI f_56 (ad 21) 1 = aI f_54 (ad 21) 1 := hX.1 21 rfl (by decide) _
      have c21_2_f_56 : aI f_56 (ad 21) 2 = aI f_54 (ad 21) 2 := hX.1 21 rfl (by decide) _
      have c21_3_f_56 : aI f_56 (ad 21) 3 = aI f_54 (ad 21) 3 := hX.1 21 rfl (by decide) _
      have c21_4_f_56 : aI f_56 (ad 21) 4 = aI f_54 (ad 21) 4 := hX.1 21 rfl (by decide) _
      have c21_5_f_56 : aI f_56 (ad 21) 5 = aI f_54 (ad 21) 5 := hX.1 21 rfl (by decide) _
      have c21_6_f_56 : aI f_56 (ad 21) 6 = aI f_54 (ad 21) 6 := hX.1 21 rfl (by decide) _
      have c21_7_f_56 : aI f_56 (ad 21) 7 = aI f_54 (ad 21) 7 := hX.1 21 rfl (by decide) _
      have c21_8_f_56 : aI f_56 (ad 21) 8 = aI f_54 (ad 21) 8 := hX.1 21 rfl (by decide) _
      have c21_9_f_56 : aI f_56 (ad 21) 9 = aI f_54 (ad 21) 9 := hX.1 21 rfl (by decide) _
      have c21_10_f_56 : aI f_56 (ad 21) 10 = aI f_54 (ad 21) 10 := hX.1 21 rfl (by decide) _
      have c21_11_f_56 : aI f_56 (ad 21) 11 = aI f_54 (ad 21) 11 := hX.1 21 rfl (by decide) _
      have h4 : ∀ x : Int, 0 ≤ x → x < 44 * fI f0 a0 5 → aI f_56 (ad 4) x = aI f0 (ad 4) x := fun x q0 q1 => (hX.1 4 rfl (by decide) x).trans (h4 x q0 q1)
      have Q8 : aI f_56 (ad 8) = aI f0 (ad 8) := funext fun x => hE.1 8 rfl (by decide) x
      have ps : PSr Tt nn f_56 a0 0 0 := ps_0 ex_55 (by omega) (by omega) (by omega) n0 n1
      clear ex_55
      exact J53 L0 f_56 hs hE h4 (by omega) (by omega) (by omega) (by omega) (by omega) (by exact ps) _ _ _ hw (lv_sub hl [0] rfl)
    · refine q_iconst hx hb dX10_book_37 ?_
      exact q_ret_i hx hb hr hlocks hK hAe hw ⟨by decide, by decide⟩ (Nat.le_of_ble_eq_true rfl) (Nat.le_of_ble_eq_true rfl) dX10_book_38 (by exact ⟨rfl, hs, hE, hv.same (by omega) h4, by omega, by omega, by omega, Or.inl ⟨by omega, by omega, by omega, h4⟩⟩)
