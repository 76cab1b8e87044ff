/-! ===== the reference's rules ===== -/
def wkM (F S : Int) : Nat := if F = 0 then (9 - bcU S 7).toNat else 0
def WKJ (T : Int → Int) (n e F S E : Int) : Prop := (F = 0 ∧ 0 ≤ S ∧ S ≤ 127 ∧ (S = 0 → wdv T n E ≠ -1) ∧ ∃ k : Nat, (k : Int) + bcU S 7 = 8 ∧ wkF T n 8 e 0 = wkF T n k E S) ∨ (F ≠ 0 ∧ F = (wkF T n 8 e 0).1)
def WKI (T : Int → Int) (n : Int) (f : Nat → va_E) (a : Nat) (e S : Int) : Prop := ∃ F E : Int, PSr T n f a F E ∧ 0 ≤ E ∧ E ≤ n ∧ WKJ T n e F S E
theorem WKJ.al {T : Int → Int} {n e F S E : Int} (h : WKJ T n e F S E) (z : F = 0) : 0 ≤ S ∧ S ≤ 127 ∧ (S = 0 → wdv T n E ≠ -1) ∧ ∃ k : Nat, (k : Int) + bcU S 7 = 8 ∧ wkF T n 8 e 0 = wkF T n k E S := by
  rcases h with h | h
  · exact h.2
  · exact absurd z h.1
theorem wki_0 {T : Int → Int} {n e F : Int} {f : Nat → va_E} {a : Nat} (h : PSr T n f a F e) (z : F = 0) (e0 : 0 ≤ e) (e1 : e ≤ n) (w : wdv T n e ≠ -1) : WKI T n f a e 0 := ⟨0, e, h.to z.symm rfl, e0, e1, Or.inl ⟨rfl, by decide, by decide, fun _ => w, 8, by decide, rfl⟩⟩
theorem wki_w {T : Int → Int} {n e F : Int} {f : Nat → va_E} {a : Nat} (h : PSr T n f a F e) (z : F = 8 * tP T n e + 1) (e0 : 0 ≤ e) (e1 : e ≤ n) (w : wdv T n e = -1) : WKI T n f a e 0 := by
  have p := tP_b (T := T) e1
  refine ⟨F, e, h, e0, e1, Or.inr ⟨by omega, ?_⟩⟩
  rw [wk_stop (by decide) w]
  show F = if (0 : Int) = 0 then 8 * tP T n e + 1 else 0
  rw [if_pos rfl]; exact z
theorem wki_end {T : Int → Int} {n e F S E : Int} {f : Nat → va_E} {a : Nat} (h : PSr T n f a F E) (e0 : 0 ≤ E) (e1 : E ≤ n) (wj : WKJ T n e F S E) (w : F = 0 → wdv T n E = -1) : PSr T n f a (wkF T n 8 e 0).1 (wkF T n 8 e 0).2.2 ∧ RVq (wkF T n 8 e 0).1 (wkF T n 8 e 0).2.1 S := by
  rcases wj with ⟨z, s0, s1, s2, k, k1, k2⟩ | ⟨z1, z2⟩
  · have w := w z
    have b := bcU_b S 7
    have q : wkF T n 8 e 0 = (0, S, E) := by
      rw [k2, wk_stop (by omega) w, if_neg (fun y => s2 y w)]
    rw [q]
    exact ⟨h.to z.symm rfl, fun _ => rfl⟩
  · rw [← z2]
    exact ⟨h.F z1 rfl, fun y => absurd y z1⟩
def WKX (T : Int → Int) (n : Int) (f : Nat → va_E) (a : Nat) (E S w : Int) : Prop := (wb S w = false ∧ PSr T n f a 0 E) ∨ (wb S w = true ∧ PSr T n f a (8 * tP T n E + 2) E)
theorem WKX.b {T : Int → Int} {n : Int} {f : Nat → va_E} {a : Nat} {E S w : Int} (h : WKX T n f a E S w) : 0 ≤ fI f a 16 ∧ fI f a 16 ≤ n := by
  rcases h with h | h <;> exact ⟨h.2.2.2.2.2.1, h.2.2.2.2.2.2.1⟩
theorem wki_nx {T : Int → Int} {n e E S w x z : Int} {k : Nat} {f f1 : Nat → va_E} {a : Nat} (h : WKX T n f a E S w) (p : NXP T n f f1 a) (k20 : fI f1 a 20 = fI f a 20) (n1 : n ≤ 160) (e0 : 0 ≤ E) (e1 : E ≤ n) (hw : w = wdv T n E) (w0 : 0 ≤ w) (s0 : 0 ≤ S) (s1 : S ≤ 127) (k1 : (k : Int) + bcU S 7 = 8) (k2 : wkF T n 8 e 0 = wkF T n k E S) (ex : x = (iI 1 <<< (iI w &&& 31)).toInt) (ez : z = (iI S ||| iI x).toInt) : WKI T n f1 a e z ∧ wkM (fI f1 a 20) z < wkM 0 S := by
  have wv := wdv_b T n E
  have bb := bcU_b S 7
  have pb := tP_b (T := T) e1
  have r := tQ_r2 (T := T) e0 e1
  have m0 : wkM 0 S = (9 - bcU S 7).toNat := if_pos rfl
  rcases h with ⟨h1, h2⟩ | ⟨h1, h2⟩
  · obtain ⟨g1, g2, g3, g4⟩ := (or_at (z := z) s0 s1 w0 (by omega) ex rfl).2 h1
    have ps := h2.nxt (fun _ => wd_16 h2 rfl e0 e1 (by omega)) p k20 n1
    have g1 := g1 ez
    obtain ⟨j, hj⟩ : ∃ j, k = j + 1 := ⟨k - 1, by omega⟩
    have b2 := bcU_b (S + p2 w) 7
    refine ⟨⟨0, tQ T n E, ps, r.1, r.2, Or.inl ⟨rfl, by omega, by omega, fun y => by omega, j, by rw [g1, g4]; omega, ?_⟩⟩, ?_⟩
    · rw [k2, wk_go hj (by omega) (by rw [← hw]; exact h1), g1, hw]
    · have : fI f1 a 20 = 0 := ps.1
      rw [this, m0]
      show (if (0 : Int) = 0 then (9 - bcU z 7).toNat else 0) < _
      rw [if_pos rfl, g1, g4]
      omega
  · have ps := h2.nxt (fun y => by omega) p k20 n1
    refine ⟨⟨_, tQ T n E, ps, r.1, r.2, Or.inr ⟨by omega, ?_⟩⟩, ?_⟩
    · rw [k2, wk_dup (by omega) (by omega) (by rw [← hw]; exact h1)]
    · have : fI f1 a 20 = 8 * tP T n E + 2 := ps.1
      rw [this, m0]
      show (if 8 * tP T n E + 2 = 0 then (9 - bcU z 7).toNat else 0) < _
      rw [if_neg (by omega)]
      omega
theorem isW_uq {T : Int → Int} {n e : Int} {b b' : List Int32} (h : isW T n e b) (g : isW T n e b') : b = b' := by
  have l : b.length = b'.length := by have := h.2.1; have := g.2.1; omega
  refine List.ext_getElem l (fun i h1 h2 => ?_)
  have p := h.2.2 (i : Int) (by omega) (by omega)
  have q := g.2.2 (i : Int) (by omega) (by omega)
  rw [show ((i : Int)).toNat = i by omega] at p q
  have r := Int32.toInt_inj.mp (p.symm.trans q)
  rw [List.getD_eq_getElem?_getD, List.getD_eq_getElem?_getD, List.getElem?_eq_getElem h1, List.getElem?_eq_getElem h2] at r
  exact r
theorem w_ex {T : Int → Int} {n e : Int} {b b' : List Int32} (e0 : 0 ≤ e) (e1 : e ≤ n) (h : wS T n e b = 0) (ne : b ≠ b') : wS T n e b' ≠ 0 := fun z => ne (isW_uq ((wS_iff e0 e1).mp h) ((wS_iff e0 e1).mp z))
def RQ3 (F : Int) (f : Nat → va_E) (r : Nat) (k v w : Int) : Prop := F = 0 → aI f r 3 = k ∧ aI f r 6 = v ∧ aI f r 7 = w
def RQ4 (F : Int) (f : Nat → va_E) (r : Nat) (k n v w : Int) : Prop := F = 0 → aI f r 3 = k ∧ aI f r 4 = n ∧ aI f r 6 = v ∧ aI f r 7 = w
theorem rf_v {k v w : Int} (h : k ≠ 6) : rfV k v w = v := if_neg h
theorem rf_v6 {k v w : Int} (h : k = 6) : rfV k v w = w := if_pos h
theorem rf_w {k w : Int} (h : k ≠ 5) : rfW k w = -1 := if_neg h
theorem rf_w5 {k w : Int} (h : k = 5) : rfW k w = w := if_pos h
theorem ru_none {T : Int → Int} {n e : Int} (o : wS T n e wOnce ≠ 0) (d : NWq (sq (wS T n e wEvery) (nS T n (tQn T n 1 e) 1 999)) (wS T n (tQn T n 2 e) wDays)) (w : NWq (sq (wS T n e wEvery) (nS T n (tQn T n 1 e) 1 999)) (wS T n (tQn T n 2 e) wWeeks)) (m : NWq (sq (wS T n e wEvery) (nS T n (tQn T n 1 e) 1 999)) (wS T n (tQn T n 2 e) wMonths)) (y : NWq (sq (wS T n e wEvery) (nS T n (tQn T n 1 e) 1 999)) (wS T n (tQn T n 2 e) wYears)) : ruF T n e = sq (sq (wS T n e wEvery) (nS T n (tQn T n 1 e) 1 999)) (wS T n (tQn T n 2 e) wMonths) := by
  by_cases c : wS T n e wEvery = 0
  · rw [sq_0 c] at *
    by_cases c2 : nS T n (tQn T n 1 e) 1 999 = 0
    · rw [sq_0 c2]
      exact ru_m0 o c c2 (d.z c2) (y.z c2) (w.z c2) (m.z c2)
    · rw [sq_1 c2]
      exact ru_num o c c2
  · rw [sq_1 c, sq_1 c]
    exact ru_every o c
theorem mo_nth' {T : Int → Int} {n e : Int} (g : wS T n e wOn ≠ 0) (g2 : wS T n e wEnd ≠ 0) (h : wS T n e wNth = 0) : moF T n e = sq (nS T n (tQ T n e) 1 5) (wdS T n (tQ T n (tQ T n e))) ∧ moK T n e = 5 ∧ moV T n e = vN T n (tQ T n e) ∧ moW T n e = wdv T n (tQ T n (tQ T n e)) ∧ moE T n e = tQ T n (tQ T n (tQ T n e)) := by
  obtain ⟨z0, z1, z2, z3, z4, z5⟩ := mo_nth g g2 h
  refine ⟨?_, z2, z3, z4, z5⟩
  by_cases c : nS T n (tQ T n e) 1 5 = 0
  · rw [sq_0 c]; exact z1 c
  · rw [sq_1 c]; exact z0 c
theorem mo_last' {T : Int → Int} {n e : Int} (g : wS T n e wOn ≠ 0) (g2 : wS T n e wEnd ≠ 0) (g3 : wS T n e wNth ≠ 0) (h : wS T n e wLast = 0) : moF T n e = wdS T n (tQ T n e) ∧ moK T n e = 6 ∧ moV T n e = 0 ∧ moW T n e = wdv T n (tQ T n e) ∧ moE T n e = tQ T n (tQ T n e) := by
  obtain ⟨z0, z1, z2, z3, z4, z5⟩ := mo_last g g2 g3
  exact ⟨z1 h, z2, z3, z4, z5⟩
theorem mo_no {T : Int → Int} {n e : Int} (g : wS T n e wOn ≠ 0) (g2 : wS T n e wEnd ≠ 0) (g3 : wS T n e wNth ≠ 0) (h : wS T n e wLast ≠ 0) : moF T n e = wS T n e wLast := (mo_last g g2 g3).1 h
theorem mo_on' {T : Int → Int} {n e : Int} (h : wS T n e wOn = 0) : moF T n e = nS T n (tQ T n e) 1 31 ∧ moK T n e = 3 ∧ moV T n e = vN T n (tQ T n e) ∧ moW T n e = 0 ∧ moE T n e = tQ T n (tQ T n e) := mo_on h
theorem mo_end2 {T : Int → Int} {n e : Int} (g : wS T n e wOn ≠ 0) (h : wS T n e wEnd = 0) : moF T n e = nS T n (tQ T n e) 1 28 ∧ moK T n e = 4 ∧ moV T n e = vN T n (tQ T n e) ∧ moW T n e = 0 ∧ moE T n e = tQ T n (tQ T n e) := mo_end' g h
set_option maxHeartbeats 4000000 in
set_option maxRecDepth 100000 in
theorem c_X10_weeksTold_p {Z : Zt} (zo : Zok Z) (l : Launch) (D : va_G) (cy : Cy) (L0 : List Nat) (f0 : Nat → va_E) (a0 : Nat) (ad : Nat → Nat) (hs : MS cy L0 f0 a0 ad) (Tt : Int → Int) (nn : Int) (n0 : 0 ≤ nn) (n1 : nn ≤ 160) (h14 : fI f0 a0 14 = nn) (hT : ∀ i : Int, 0 ≤ i → i < 168 → aI f0 (ad 8) i = Tt i) (bT : ∀ i : Int, 0 ≤ Tt i ∧ Tt i ≤ 255) (FF : Int) (ee : Int) (ps : PSr Tt nn f0 a0 FF ee) (e0 : 0 ≤ ee) (e1 : ee ≤ nn) (zF : FF = 0) : Cv Z l yX10_weeksTold (Cond.code yX10_weeksTold cX10_weeksTold 3 none :: TB) ({ frames := 7, cells := 0, slots := 0, locals := 149 } : Room) 0 0 D (tq cy) [.ref a0] L0 f0 (fun (L1 : List Nat) (f1 : Nat → va_E) => L0 = L1 ∧ MS cy L0 f1 a0 ad ∧ Kp a0 ad [21] [15, 16, 17, 18, 19, 20] f0 f1 ∧ (PSr Tt nn f1 a0 (wkF Tt nn 8 ee 0).1 (wkF Tt nn 8 ee 0).2.2 ∧ RVq (wkF Tt nn 8 ee 0).1 (wkF Tt nn 8 ee 0).2.1 (aI f1 (ad 21) 6) ∧ aI f1 (ad 21) 3 = 2 ∧ aI f1 (ad 21) 0 = aI f0 (ad 21) 0 ∧ aI f1 (ad 21) 1 = aI f0 (ad 21) 1 ∧ aI f1 (ad 21) 2 = aI f0 (ad 21) 2 ∧ aI f1 (ad 21) 5 = aI f0 (ad 21) 5 ∧ aI f1 (ad 21) 8 = aI f0 (ad 21) 8 ∧ aI f1 (ad 21) 9 = aI f0 (ad 21) 9 ∧ aI f1 (ad 21) 4 = aI f0 (ad 21) 4 ∧ aI f1 (ad 21) 7 = aI f0 (ad 21) 7)) := by
  refine Cv.enter (cc := cX10_weeksTold) (n := 3) rfl (plainFor_of_name (by decide)) (Nat.le_of_ble_eq_true rfl) ?_
  intro p e s m below meth c ls A hx hb hr hts hown hlocks hnm hml hK hA hAe hw hZ hl
  have hown : s.vm.findClass RX10 = some m.cls := hown
  have hl : lv_has ls 3 [(0, .ref a0)] := hl
  have hN : ZN s := (zo.2.2.2.2 _ _ _ hZ).2
  have hE : Kp a0 ad [21] [15, 16, 17, 18, 19, 20] f0 f0 := Kp.refl _ _ _ _ _
  have ps1 := ps.1
  have ps2 := ps.2.1
  have ps3 := ps.2.2.1
  have ps4 := ps.2.2.2.1
  have ps5 := ps.2.2.2.2.1
  have ps6 := ps.2.2.2.2.2.1
  have pb := tP_b (T := Tt) e1
  have qb := tQ_b (T := Tt) e1
  have wv := wdv_b Tt nn ee
  refine lv_aload_n hx hb dX10_weeksTold_0 rfl (lv_at hl 0 rfl) ?_
  refine q_getr (ci := 8) (C := RX10) (T := TX10) (N := 26) hx hb hts (fun w h => List.mem_cons_of_mem _ (mfX100 w h)) hown hK hw hs.1 hs.2.1 rfl 21 (by decide) (hts _ (List.mem_cons_of_mem _ (mr3 _ (List.mem_of_getElem? (i := 22) rfl)))) (fun _ h => h) rfl (hs.2.2.1 21 rfl).1 dX10_weeksTold_1 ?_
  refine q_iconst hx hb dX10_weeksTold_4 ?_
  refine q_iconst hx hb dX10_weeksTold_5 ?_
  refine q_iast hx hb hK hw (hs.2.2.1 21 rfl).2.1 1 (hs.2.2.1 21 rfl).2.2 rfl ⟨by decide, by decide⟩ (by omega) (by show _ < ((44 : Nat) : Int); omega) dX10_weeksTold_6 (fun H locs hw => ?_)
  obtain ⟨f_1, ef_1⟩ : ∃ g : Nat → va_E, g = aU f0 (ad 21) 3 (iI 2) := ⟨_, rfl⟩
  have t14_f_1 : fI f_1 a0 14 = fI f0 a0 14 := by rw [ef_1]; exact hs.fI_aU rfl _ _
  have t15_f_1 : fI f_1 a0 15 = fI f0 a0 15 := by rw [ef_1]; exact hs.fI_aU rfl _ _
  have t16_f_1 : fI f_1 a0 16 = fI f0 a0 16 := by rw [ef_1]; exact hs.fI_aU rfl _ _
  have t17_f_1 : fI f_1 a0 17 = fI f0 a0 17 := by rw [ef_1]; exact hs.fI_aU rfl _ _
  have t19_f_1 : fI f_1 a0 19 = fI f0 a0 19 := by rw [ef_1]; exact hs.fI_aU rfl _ _
  have t20_f_1 : fI f_1 a0 20 = fI f0 a0 20 := by rw [ef_1]; exact hs.fI_aU rfl _ _
  have hE := hE.trans (show Kp a0 ad [21] [15, 16, 17, 18, 19, 20] f0 f_1 by rw [ef_1]; exact Kp_aU hs rfl (by decide))
  have hs_ := hs
  have hs : MS cy L0 f_1 a0 ad := by rw [ef_1]; exact MS_aU hs rfl
  rw [← ef_1] at hw
  have ps := ps.aU (hs_.2.2.1 21 rfl).2.2 ef_1
  have Q8 : aI f_1 (ad 8) = aI f0 (ad 8) := funext fun x => hE.1 8 rfl (by decide) x
  have c21_0_f_1 : aI f_1 (ad 21) 0 = aI f0 (ad 21) 0 := by rw [ef_1]; exact hs_.aI_nj rfl (by decide) (by decide) (by decide)
  have c21_1_f_1 : aI f_1 (ad 21) 1 = aI f0 (ad 21) 1 := by rw [ef_1]; exact hs_.aI_nj rfl (by decide) (by decide) (by decide)
  have c21_2_f_1 : aI f_1 (ad 21) 2 = aI f0 (ad 21) 2 := by rw [ef_1]; exact hs_.aI_nj rfl (by decide) (by decide) (by decide)
  have c21_5_f_1 : aI f_1 (ad 21) 5 = aI f0 (ad 21) 5 := by rw [ef_1]; exact hs_.aI_nj rfl (by decide) (by decide) (by decide)
  have c21_8_f_1 : aI f_1 (ad 21) 8 = aI f0 (ad 21) 8 := by rw [ef_1]; exact hs_.aI_nj rfl (by decide) (by decide) (by decide)
  have c21_9_f_1 : aI f_1 (ad 21) 9 = aI f0 (ad 21) 9 := by rw [ef_1]; exact hs_.aI_nj rfl (by decide) (by decide) (by decide)
  have c21_3_f_1 : aI f_1 (ad 21) 3 = 2 := by rw [ef_1]; exact hs_.aI_self rfl ⟨by decide, by decide⟩
  have c21_4_f_1 : aI f_1 (ad 21) 4 = aI f0 (ad 21) 4 := by rw [ef_1]; exact hs_.aI_nj rfl (by decide) (by decide) (by decide)
  have c21_6_f_1 : aI f_1 (ad 21) 6 = aI f0 (ad 21) 6 := by rw [ef_1]; exact hs_.aI_nj rfl (by decide) (by decide) (by decide)
  have c21_7_f_1 : aI f_1 (ad 21) 7 = aI f0 (ad 21) 7 := by rw [ef_1]; exact hs_.aI_nj rfl (by decide) (by decide) (by decide)
  refine q_iconst hx hb dX10_weeksTold_7 ?_
  refine lv_istore_n (lv' := [(1, .int (iI 0)), (0, .ref a0)]) hx hb dX10_weeksTold_8 rfl hl (by decide) rfl (fun ls hl => ?_)
  refine lv_aload_n hx hb dX10_weeksTold_9 rfl (lv_at hl 1 rfl) ?_
  refine q_call_i hA hK hw (va_runV (As := []) (rest := []) ⟨hx, hb, hml, hown, hts⟩ (c_X10_weekdayHere_p zo l D cy L0 f_1 a0 ad hs Tt nn n0 n1 (by omega) (by first | exact hT | exact fun i q0 q1 => (congrFun Q8 i).trans (hT i q0 q1)) bT _ _ ps (by omega) (by omega) _) (cwV 0 hts (gT (inV (mr21 _ (List.mem_of_getElem? (i := 4) rfl)) (mr21 _ (List.mem_of_getElem? (i := 5) rfl)) (mr21 _ (List.mem_of_getElem? (i := 6) rfl)) (mr1 _ (List.mem_of_getElem? (i := 5) rfl)) (mr21 _ (List.mem_of_getElem? (i := 7) rfl)))) rfl rfl rfl (by decide +kernel) ⟨Nat.le_of_ble_eq_true rfl, Nat.le_of_ble_eq_true rfl⟩) (Wd.preV zo hA hZ hw hK hs.1 hs.2.1 rfl) rfl rfl hl.1 rfl (lv_room (Nat.le_of_ble_eq_true rfl)) dX10_weeksTold_10 ⟨Nat.le_of_ble_eq_true rfl, Nat.le_of_ble_eq_true rfl⟩) (fun x_2 L1 f1 H locs lx_2 ux_2 ex_2 hw => ?_)
  obtain ⟨rfl, rfl, ex_2⟩ := ex_2
  have t10 := ex_2
  clear ex_2
  refine q_if_ge (tgt := 21) hx hb dX10_weeksTold_13 (by decide) ⟨lx_2, ux_2⟩ (fun c13 => ?_) (fun c13 => ?_)
  · obtain ⟨q1, q2⟩ := t10.resolve_right (by omega)
    clear t10
    have wi := wki_0 ps zF e0 e1 (by omega)
    have J21 : ∀ (n21 : Nat) (y1_21 : Int) (ly1_21 : -2147483648 ≤ y1_21) (uy1_21 : y1_21 ≤ 2147483647) (L : List Nat) (fw21 : Nat → va_E) (hs : MS cy L0 fw21 a0 ad) (hE : Kp a0 ad [21] [15, 16, 17, 18, 19, 20] f0 fw21) (i5 : fI fw21 a0 14 = nn) (wi : WKI Tt nn fw21 a0 ee y1_21) (y3 : aI fw21 (ad 21) 3 = 2) (z0 : aI fw21 (ad 21) 0 = aI f0 (ad 21) 0) (z1 : aI fw21 (ad 21) 1 = aI f0 (ad 21) 1) (z2 : aI fw21 (ad 21) 2 = aI f0 (ad 21) 2) (z5 : aI fw21 (ad 21) 5 = aI f0 (ad 21) 5) (z8 : aI fw21 (ad 21) 8 = aI f0 (ad 21) 8) (z9 : aI fw21 (ad 21) 9 = aI f0 (ad 21) 9) (z4 : aI fw21 (ad 21) 4 = aI f0 (ad 21) 4) (z7 : aI fw21 (ad 21) 7 = aI f0 (ad 21) 7) (hn21 : wkM (fI fw21 a0 20) y1_21 < n21) (H : Heap) (locs : List Loc) (ls : Array Slot) (hw : Wd D A s.heap L0 fw21 H locs) (hl : lv_has ls 3 [(0, .ref a0), (1, .int (iI y1_21))]), W p l e ({ frames := 7, cells := 0, slots := 0, locals := 149 } : Room) s m ([.ref a0] : List Value).toArray below meth c H locs (0 + 0) (0 + 0) (MQ below (Qv D (tq cy) L0 f0 s.heap.size (fun (L1 : List Nat) (f1 : Nat → va_E) => L0 = L1 ∧ MS cy L0 f1 a0 ad ∧ Kp a0 ad [21] [15, 16, 17, 18, 19, 20] f0 f1 ∧ (PSr Tt nn f1 a0 (wkF Tt nn 8 ee 0).1 (wkF Tt nn 8 ee 0).2.2 ∧ RVq (wkF Tt nn 8 ee 0).1 (wkF Tt nn 8 ee 0).2.1 (aI f1 (ad 21) 6) ∧ aI f1 (ad 21) 3 = 2 ∧ aI f1 (ad 21) 0 = aI f0 (ad 21) 0 ∧ aI f1 (ad 21) 1 = aI f0 (ad 21) 1 ∧ aI f1 (ad 21) 2 = aI f0 (ad 21) 2 ∧ aI f1 (ad 21) 5 = aI f0 (ad 21) 5 ∧ aI f1 (ad 21) 8 = aI f0 (ad 21) 8 ∧ aI f1 (ad 21) 9 = aI f0 (ad 21) 9 ∧ aI f1 (ad 21) 4 = aI f0 (ad 21) 4 ∧ aI f1 (ad 21) 7 = aI f0 (ad 21) 7))) ([.ref a0] : List Value).toArray s 0 0 A) (F0 m 21 ls []) := by
      intro n21
      induction n21 with
      | zero => intro y1_21 ly1_21 uy1_21 L fw21 hs hE i5 wi y3 z0 z1 z2 z5 z8 z9 z4 z7 hn21; exact absurd hn21 (Nat.not_lt_zero _)
      | succ n21 ih21 =>
        intro y1_21 ly1_21 uy1_21 L fw21 hs hE i5 wi y3 z0 z1 z2 z5 z8 z9 z4 z7 hn21 H locs ls hw hl
        obtain ⟨F9, E9, ps9, ea, eb, wj⟩ := wi
        have ps1 := ps9.1
        have ps2 := ps9.2.1
        have ps3 := ps9.2.2.1
        have ps4 := ps9.2.2.2.1
        have wv9 := wdv_b Tt nn E9
        have pb9 := tP_b (T := Tt) eb
        have Q8 : aI fw21 (ad 8) = aI f0 (ad 8) := funext fun x => hE.1 8 rfl (by decide) x
        refine lv_aload_n hx hb dX10_weeksTold_21 rfl (lv_at hl 0 rfl) ?_
        refine q_call_i hA hK hw (va_runV (As := []) (rest := []) ⟨hx, hb, hml, hown, hts⟩ (c_X10_weekdayHere_p zo l D cy L0 fw21 a0 ad hs Tt nn n0 n1 (by omega) (by first | exact hT | exact fun i q0 q1 => (congrFun Q8 i).trans (hT i q0 q1)) bT _ _ ps9 (by omega) (by omega) _) (cwV 0 hts (gT (inV (mr21 _ (List.mem_of_getElem? (i := 4) rfl)) (mr21 _ (List.mem_of_getElem? (i := 5) rfl)) (mr21 _ (List.mem_of_getElem? (i := 6) rfl)) (mr1 _ (List.mem_of_getElem? (i := 5) rfl)) (mr21 _ (List.mem_of_getElem? (i := 7) rfl)))) rfl rfl rfl (by decide +kernel) ⟨Nat.le_of_ble_eq_true rfl, Nat.le_of_ble_eq_true rfl⟩) (Wd.preV zo hA hZ hw hK hs.1 hs.2.1 rfl) rfl rfl hl.1 rfl (lv_room (Nat.le_of_ble_eq_true rfl)) dX10_weeksTold_22 ⟨Nat.le_of_ble_eq_true rfl, Nat.le_of_ble_eq_true rfl⟩) (fun x_3 L1 f1 H locs lx_3 ux_3 ex_3 hw => ?_)
        obtain ⟨rfl, rfl, ex_3⟩ := ex_3
        have t22 := ex_3
        clear ex_3
        refine q_if_lt (tgt := 60) hx hb dX10_weeksTold_25 (by decide) ⟨lx_3, ux_3⟩ (fun c25 => ?_) (fun c25 => ?_)
        · have fin := wki_end ps9 ea eb wj (fun z => by have y := (t22.resolve_right (fun q => q.1 z)).2; omega)
          clear t22
          have ps := fin.1
          refine lv_aload_n hx hb dX10_weeksTold_60 rfl (lv_at hl 0 rfl) ?_
          refine q_getr (ci := 8) (C := RX10) (T := TX10) (N := 26) hx hb hts (fun w h => List.mem_cons_of_mem _ (mfX100 w h)) hown hK hw hs.1 hs.2.1 rfl 21 (by decide) (hts _ (List.mem_cons_of_mem _ (mr3 _ (List.mem_of_getElem? (i := 22) rfl)))) (fun _ h => h) rfl (hs.2.2.1 21 rfl).1 dX10_weeksTold_61 ?_
          refine q_bipush hx hb dX10_weeksTold_64 rfl ?_
          refine lv_iload_n hx hb dX10_weeksTold_66 rfl (lv_at hl 1 rfl) ?_
          refine q_iast hx hb hK hw (hs.2.2.1 21 rfl).2.1 1 (hs.2.2.1 21 rfl).2.2 rfl ⟨by decide, by decide⟩ (by omega) (by show _ < ((44 : Nat) : Int); omega) dX10_weeksTold_67 (fun H locs hw => ?_)
          obtain ⟨f_4, ef_4⟩ : ∃ g : Nat → va_E, g = aU fw21 (ad 21) 6 (iI y1_21) := ⟨_, rfl⟩
          have t14_f_4 : fI f_4 a0 14 = fI fw21 a0 14 := by rw [ef_4]; exact hs.fI_aU rfl _ _
          have t15_f_4 : fI f_4 a0 15 = fI fw21 a0 15 := by rw [ef_4]; exact hs.fI_aU rfl _ _
          have t16_f_4 : fI f_4 a0 16 = fI fw21 a0 16 := by rw [ef_4]; exact hs.fI_aU rfl _ _
          have t17_f_4 : fI f_4 a0 17 = fI fw21 a0 17 := by rw [ef_4]; exact hs.fI_aU rfl _ _
          have t19_f_4 : fI f_4 a0 19 = fI fw21 a0 19 := by rw [ef_4]; exact hs.fI_aU rfl _ _
          have t20_f_4 : fI f_4 a0 20 = fI fw21 a0 20 := by rw [ef_4]; exact hs.fI_aU rfl _ _
          have hE := hE.trans (show Kp a0 ad [21] [15, 16, 17, 18, 19, 20] fw21 f_4 by rw [ef_4]; exact Kp_aU hs rfl (by decide))
          have hs_ := hs
          have hs : MS cy L0 f_4 a0 ad := by rw [ef_4]; exact MS_aU hs rfl
          rw [← ef_4] at hw
          have ps := ps.aU (hs_.2.2.1 21 rfl).2.2 ef_4
          have Q8 : aI f_4 (ad 8) = aI f0 (ad 8) := funext fun x => hE.1 8 rfl (by decide) x
          have c21_0_f_4 : aI f_4 (ad 21) 0 = aI fw21 (ad 21) 0 := by rw [ef_4]; exact hs_.aI_nj rfl (by decide) (by decide) (by decide)
          have c21_1_f_4 : aI f_4 (ad 21) 1 = aI fw21 (ad 21) 1 := by rw [ef_4]; exact hs_.aI_nj rfl (by decide) (by decide) (by decide)
          have c21_2_f_4 : aI f_4 (ad 21) 2 = aI fw21 (ad 21) 2 := by rw [ef_4]; exact hs_.aI_nj rfl (by decide) (by decide) (by decide)
          have c21_5_f_4 : aI f_4 (ad 21) 5 = aI fw21 (ad 21) 5 := by rw [ef_4]; exact hs_.aI_nj rfl (by decide) (by decide) (by decide)
          have c21_8_f_4 : aI f_4 (ad 21) 8 = aI fw21 (ad 21) 8 := by rw [ef_4]; exact hs_.aI_nj rfl (by decide) (by decide) (by decide)
          have c21_9_f_4 : aI f_4 (ad 21) 9 = aI fw21 (ad 21) 9 := by rw [ef_4]; exact hs_.aI_nj rfl (by decide) (by decide) (by decide)
          have c21_3_f_4 : aI f_4 (ad 21) 3 = aI fw21 (ad 21) 3 := by rw [ef_4]; exact hs_.aI_nj rfl (by decide) (by decide) (by decide)
          have c21_4_f_4 : aI f_4 (ad 21) 4 = aI fw21 (ad 21) 4 := by rw [ef_4]; exact hs_.aI_nj rfl (by decide) (by decide) (by decide)
          have c21_6_f_4 : aI f_4 (ad 21) 6 = y1_21 := by rw [ef_4]; exact hs_.aI_self rfl ⟨ly1_21, uy1_21⟩
          have c21_7_f_4 : aI f_4 (ad 21) 7 = aI fw21 (ad 21) 7 := by rw [ef_4]; exact hs_.aI_nj rfl (by decide) (by decide) (by decide)
          exact q_ret_v hx hb hr hlocks hK hAe hw (Nat.le_of_ble_eq_true rfl) (Nat.le_of_ble_eq_true rfl) dX10_weeksTold_68 (by exact ⟨rfl, hs, hE, ps, fun z => by have y := fin.2 z; omega, by omega, by omega, by omega, by omega, by omega, by omega, by omega, by omega, by omega⟩)
        · obtain ⟨q1, q2⟩ := t22.resolve_right (by omega)
          clear t22
          obtain ⟨s0, s1, s2, k9, k1, k2⟩ := wj.al q1
          clear s2 wj
          rw [ps1, q1] at hn21
          have pl9 := ps9.pl q1
          refine lv_aload_n hx hb dX10_weeksTold_28 rfl (lv_at hl 0 rfl) ?_
          refine q_call_i hA hK hw (va_runV (As := []) (rest := []) ⟨hx, hb, hml, hown, hts⟩ (c_X10_weekdayHere_p zo l D cy L0 fw21 a0 ad hs Tt nn n0 n1 (by omega) (by first | exact hT | exact fun i q0 q1 => (congrFun Q8 i).trans (hT i q0 q1)) bT _ _ ps9 (by omega) (by omega) _) (cwV 0 hts (gT (inV (mr21 _ (List.mem_of_getElem? (i := 4) rfl)) (mr21 _ (List.mem_of_getElem? (i := 5) rfl)) (mr21 _ (List.mem_of_getElem? (i := 6) rfl)) (mr1 _ (List.mem_of_getElem? (i := 5) rfl)) (mr21 _ (List.mem_of_getElem? (i := 7) rfl)))) rfl rfl rfl (by decide +kernel) ⟨Nat.le_of_ble_eq_true rfl, Nat.le_of_ble_eq_true rfl⟩) (Wd.preV zo hA hZ hw hK hs.1 hs.2.1 rfl) rfl rfl hl.1 rfl (lv_room (Nat.le_of_ble_eq_true rfl)) dX10_weeksTold_29 ⟨Nat.le_of_ble_eq_true rfl, Nat.le_of_ble_eq_true rfl⟩) (fun x_5 L1 f1 H locs lx_5 ux_5 ex_5 hw => ?_)
          obtain ⟨rfl, rfl, ex_5⟩ := ex_5
          have q29 : x_5 = wdv Tt nn E9 := (ex_5.resolve_right (fun z => z.1 q1)).2
          clear ex_5
          refine lv_istore_n (lv' := [(2, .int (iI x_5)), (0, .ref a0), (1, .int (iI y1_21))]) hx hb dX10_weeksTold_32 rfl hl (by decide) rfl (fun ls hl => ?_)
          refine lv_iload_n hx hb dX10_weeksTold_33 rfl (lv_at hl 2 rfl) ?_
          refine lv_iload_n hx hb dX10_weeksTold_34 rfl (lv_at hl 0 rfl) ?_
          refine lv_ishr hx hb dX10_weeksTold_35 ?_
          refine q_num (fun x_6 lx_6 ux_6 ex_6 => ?_)
          have b35 := ex_6
          refine q_iconst hx hb dX10_weeksTold_36 ?_
          refine lv_iand hx hb dX10_weeksTold_37 ?_
          refine q_num (fun x_7 lx_7 ux_7 ex_7 => ?_)
          have b37 := bit_at (v := y1_21) (v' := y1_21) rfl (by omega) (by omega) (by omega) (by omega) b35 ex_7
          refine q_iconst hx hb dX10_weeksTold_38 ?_
          have J47 : ∀ (L : List Nat) (fw47 : Nat → va_E) (hs : MS cy L0 fw47 a0 ad) (hE : Kp a0 ad [21] [15, 16, 17, 18, 19, 20] f0 fw47) (i5 : fI fw47 a0 14 = nn) (w47 : WKX Tt nn fw47 a0 E9 y1_21 x_5) (y3 : aI fw47 (ad 21) 3 = 2) (z0 : aI fw47 (ad 21) 0 = aI f0 (ad 21) 0) (z1 : aI fw47 (ad 21) 1 = aI f0 (ad 21) 1) (z2 : aI fw47 (ad 21) 2 = aI f0 (ad 21) 2) (z5 : aI fw47 (ad 21) 5 = aI f0 (ad 21) 5) (z8 : aI fw47 (ad 21) 8 = aI f0 (ad 21) 8) (z9 : aI fw47 (ad 21) 9 = aI f0 (ad 21) 9) (z4 : aI fw47 (ad 21) 4 = aI f0 (ad 21) 4) (z7 : aI fw47 (ad 21) 7 = aI f0 (ad 21) 7) (H : Heap) (locs : List Loc) (ls : Array Slot) (hw : Wd D A s.heap L0 fw47 H locs) (hl : lv_has ls 3 [(0, .ref a0), (1, .int (iI y1_21)), (2, .int (iI x_5))]), W p l e ({ frames := 7, cells := 0, slots := 0, locals := 149 } : Room) s m ([.ref a0] : List Value).toArray below meth c H locs (0 + 0 + 0 + 0) (0 + 0 + 0 + 0) (MQ below (Qv D (tq cy) L0 f0 s.heap.size (fun (L1 : List Nat) (f1 : Nat → va_E) => L0 = L1 ∧ MS cy L0 f1 a0 ad ∧ Kp a0 ad [21] [15, 16, 17, 18, 19, 20] f0 f1 ∧ (PSr Tt nn f1 a0 (wkF Tt nn 8 ee 0).1 (wkF Tt nn 8 ee 0).2.2 ∧ RVq (wkF Tt nn 8 ee 0).1 (wkF Tt nn 8 ee 0).2.1 (aI f1 (ad 21) 6) ∧ aI f1 (ad 21) 3 = 2 ∧ aI f1 (ad 21) 0 = aI f0 (ad 21) 0 ∧ aI f1 (ad 21) 1 = aI f0 (ad 21) 1 ∧ aI f1 (ad 21) 2 = aI f0 (ad 21) 2 ∧ aI f1 (ad 21) 5 = aI f0 (ad 21) 5 ∧ aI f1 (ad 21) 8 = aI f0 (ad 21) 8 ∧ aI f1 (ad 21) 9 = aI f0 (ad 21) 9 ∧ aI f1 (ad 21) 4 = aI f0 (ad 21) 4 ∧ aI f1 (ad 21) 7 = aI f0 (ad 21) 7))) ([.ref a0] : List Value).toArray s 0 0 A) (F0 m 47 ls []) := by
            intro L fw47 hs hE i5 w47 y3 z0 z1 z2 z5 z8 z9 z4 z7 H locs ls hw hl
            have p56 := w47.b
            have p5 := p56.1
            have p6 := p56.2
            have Q8 : aI fw47 (ad 8) = aI f0 (ad 8) := funext fun x => hE.1 8 rfl (by decide) x
            refine lv_iload_n hx hb dX10_weeksTold_47 rfl (lv_at hl 1 rfl) ?_
            refine q_iconst hx hb dX10_weeksTold_48 ?_
            refine lv_iload_n hx hb dX10_weeksTold_49 rfl (lv_at hl 2 rfl) ?_
            refine lv_ishl hx hb dX10_weeksTold_50 ?_
            refine q_num (fun x_8 lx_8 ux_8 ex_8 => ?_)
            have b50 := ex_8
            refine lv_ior hx hb dX10_weeksTold_51 ?_
            refine q_num (fun x_9 lx_9 ux_9 ex_9 => ?_)
            have b51 := ex_9
            refine lv_istore_n (lv' := [(1, .int (iI x_9)), (0, .ref a0), (2, .int (iI x_5))]) hx hb dX10_weeksTold_52 rfl hl (by decide) rfl (fun ls hl => ?_)
            refine lv_aload_n hx hb dX10_weeksTold_53 rfl (lv_at hl 1 rfl) ?_
            refine q_call_v hA hK hw (va_runV (As := []) (rest := []) ⟨hx, hb, hml, hown, hts⟩ (c_X10_next_p zo l D cy L0 fw47 a0 ad hs Tt nn n0 n1 (by omega) (by first | exact hT | exact fun i q0 q1 => (congrFun Q8 i).trans (hT i q0 q1)) bT (by omega) (by omega) _) (cwV 0 hts (gT (inV (mr19 _ (List.mem_of_getElem? (i := 4) rfl)) (mr19 _ (List.mem_of_getElem? (i := 5) rfl)) (mr19 _ (List.mem_of_getElem? (i := 6) rfl)) (mr1 _ (List.mem_of_getElem? (i := 5) rfl)) (mr19 _ (List.mem_of_getElem? (i := 7) rfl)))) rfl rfl rfl (by decide +kernel) ⟨Nat.le_of_ble_eq_true rfl, Nat.le_of_ble_eq_true rfl⟩) (Wd.preV zo hA hZ hw hK hs.1 hs.2.1 rfl) rfl rfl hl.1 rfl (lv_room (Nat.le_of_ble_eq_true rfl)) dX10_weeksTold_54 ⟨Nat.le_of_ble_eq_true rfl, Nat.le_of_ble_eq_true rfl⟩) (fun L1 f_11 H locs ex_10 hw => ?_)
            obtain ⟨rfl, hs, hX, ex_10⟩ := ex_10
            have hE := hE.trans (hX.mono (rs' := [21]) (fs' := [15, 16, 17, 18, 19, 20]) (by decide) (by decide))
            have t14_f_11 : fI f_11 a0 14 = fI fw47 a0 14 := hX.2 14 (by decide)
            have t20_f_11 : fI f_11 a0 20 = fI fw47 a0 20 := hX.2 20 (by decide)
            have c21_0_f_11 : aI f_11 (ad 21) 0 = aI fw47 (ad 21) 0 := hX.1 21 rfl (by decide) _
            have c21_1_f_11 : aI f_11 (ad 21) 1 = aI fw47 (ad 21) 1 := hX.1 21 rfl (by decide) _
            have c21_2_f_11 : aI f_11 (ad 21) 2 = aI fw47 (ad 21) 2 := hX.1 21 rfl (by decide) _
            have c21_5_f_11 : aI f_11 (ad 21) 5 = aI fw47 (ad 21) 5 := hX.1 21 rfl (by decide) _
            have c21_8_f_11 : aI f_11 (ad 21) 8 = aI fw47 (ad 21) 8 := hX.1 21 rfl (by decide) _
            have c21_9_f_11 : aI f_11 (ad 21) 9 = aI fw47 (ad 21) 9 := hX.1 21 rfl (by decide) _
            have c21_3_f_11 : aI f_11 (ad 21) 3 = aI fw47 (ad 21) 3 := hX.1 21 rfl (by decide) _
            have c21_4_f_11 : aI f_11 (ad 21) 4 = aI fw47 (ad 21) 4 := hX.1 21 rfl (by decide) _
            have c21_6_f_11 : aI f_11 (ad 21) 6 = aI fw47 (ad 21) 6 := hX.1 21 rfl (by decide) _
            have c21_7_f_11 : aI f_11 (ad 21) 7 = aI fw47 (ad 21) 7 := hX.1 21 rfl (by decide) _
            have Q8 : aI f_11 (ad 8) = aI f0 (ad 8) := funext fun x => hE.1 8 rfl (by decide) x
            have nx9 := wki_nx (e := ee) (k := k9) w47 ex_10 (by omega) n1 ea eb q29 (by omega) s0 s1 k1 k2 b50 b51
            clear ex_10
            refine lv_goto (tgt := 21) hx hb dX10_weeksTold_57 (by decide) ?_
            exact ih21 x_9 lx_9 ux_9 L0 f_11 hs hE (by omega) (by first | exact wi | exact nx9.1) (by omega) (by omega) (by omega) (by omega) (by omega) (by omega) (by omega) (by omega) (by omega) (by first | exact Nat.lt_of_lt_of_le nx9.2 (Nat.le_of_lt_succ hn21) | exact Nat.lt_succ_self _) _ _ _ hw (lv_sub hl [1, 0] rfl)
          refine q_icmp_ne (tgt := 47) hx hb dX10_weeksTold_39 (by decide) ⟨lx_7, ux_7⟩ ⟨by decide, by decide⟩ (fun c39 => ?_) (fun c39 => ?_)
          · have wf : wb y1_21 x_5 = false := by cases h9 : wb y1_21 x_5; rfl; exact absurd (b37.mpr h9) (by omega)
            have w47 : WKX Tt nn fw21 a0 E9 y1_21 x_5 := Or.inl ⟨wf, ps9.to q1.symm rfl⟩
            exact J47 L0 fw21 hs hE (by omega) (by exact w47) (by omega) (by omega) (by omega) (by omega) (by omega) (by omega) (by omega) (by omega) (by omega) _ _ _ hw (lv_sub hl [1, 2, 0] rfl)
          · have wt := b37.mp (by omega)
            refine lv_aload_n hx hb dX10_weeksTold_42 rfl (lv_at hl 1 rfl) ?_
            refine q_iconst hx hb dX10_weeksTold_43 ?_
            refine q_call_v hA hK hw (va_runV (As := [.int (iI 2)]) (rest := []) ⟨hx, hb, hml, hown, hts⟩ (c_X10_wrong zo l D cy L0 fw21 a0 2 (by decide) (by decide) ad hs (by omega) (by omega) (by omega) (by omega) _) (cwV 1 hts (gT (inV (mr20 _ (List.mem_of_getElem? (i := 12) rfl)) (mr20 _ (List.mem_of_getElem? (i := 13) rfl)) (mr20 _ (List.mem_of_getElem? (i := 14) rfl)) (mr1 _ (List.mem_of_getElem? (i := 5) rfl)) (mr20 _ (List.mem_of_getElem? (i := 15) rfl)))) rfl rfl rfl (by decide +kernel) ⟨Nat.le_of_ble_eq_true rfl, Nat.le_of_ble_eq_true rfl⟩) (Wd.preV zo hA hZ hw hK hs.1 hs.2.1 rfl) rfl rfl hl.1 rfl (lv_room (Nat.le_of_ble_eq_true rfl)) dX10_weeksTold_44 ⟨Nat.le_of_ble_eq_true rfl, Nat.le_of_ble_eq_true rfl⟩) (fun L1 f_13 H locs ex_12 hw => ?_)
            obtain ⟨rfl, hs, hX, ex_12⟩ := ex_12
            have hE := hE.trans (hX.mono (rs' := [21]) (fs' := [15, 16, 17, 18, 19, 20]) (by decide) (by decide))
            have t14_f_13 : fI f_13 a0 14 = fI fw21 a0 14 := hX.2 14 (by decide)
            have t15_f_13 : fI f_13 a0 15 = fI fw21 a0 15 := hX.2 15 (by decide)
            have t16_f_13 : fI f_13 a0 16 = fI fw21 a0 16 := hX.2 16 (by decide)
            have t17_f_13 : fI f_13 a0 17 = fI fw21 a0 17 := hX.2 17 (by decide)
            have t19_f_13 : fI f_13 a0 19 = fI fw21 a0 19 := hX.2 19 (by decide)
            have c21_0_f_13 : aI f_13 (ad 21) 0 = aI fw21 (ad 21) 0 := hX.1 21 rfl (by decide) _
            have c21_1_f_13 : aI f_13 (ad 21) 1 = aI fw21 (ad 21) 1 := hX.1 21 rfl (by decide) _
            have c21_2_f_13 : aI f_13 (ad 21) 2 = aI fw21 (ad 21) 2 := hX.1 21 rfl (by decide) _
            have c21_5_f_13 : aI f_13 (ad 21) 5 = aI fw21 (ad 21) 5 := hX.1 21 rfl (by decide) _
            have c21_8_f_13 : aI f_13 (ad 21) 8 = aI fw21 (ad 21) 8 := hX.1 21 rfl (by decide) _
            have c21_9_f_13 : aI f_13 (ad 21) 9 = aI fw21 (ad 21) 9 := hX.1 21 rfl (by decide) _
            have c21_3_f_13 : aI f_13 (ad 21) 3 = aI fw21 (ad 21) 3 := hX.1 21 rfl (by decide) _
            have c21_4_f_13 : aI f_13 (ad 21) 4 = aI fw21 (ad 21) 4 := hX.1 21 rfl (by decide) _
            have c21_6_f_13 : aI f_13 (ad 21) 6 = aI fw21 (ad 21) 6 := hX.1 21 rfl (by decide) _
            have c21_7_f_13 : aI f_13 (ad 21) 7 = aI fw21 (ad 21) 7 := hX.1 21 rfl (by decide) _
            have Q8 : aI f_13 (ad 8) = aI f0 (ad 8) := funext fun x => hE.1 8 rfl (by decide) x
            have t44 := ex_12
            clear ex_12
            have w47 : WKX Tt nn f_13 a0 E9 y1_21 x_5 := Or.inr ⟨wt, ps9.wr (by omega) (by omega) (by omega) (by omega)⟩
            clear t44
            exact J47 L0 f_13 hs hE (by omega) (by exact w47) (by omega) (by omega) (by omega) (by omega) (by omega) (by omega) (by omega) (by omega) (by omega) _ _ _ hw (lv_sub hl [1, 2, 0] rfl)
    exact J21 ((wkM (fI f_1 a0 20) 0) + 1) 0 (by decide) (by decide) L0 f_1 hs hE (by omega) (by first | exact wi | exact nx9.1) (by omega) (by omega) (by omega) (by omega) (by omega) (by omega) (by omega) (by omega) (by omega) (by first | exact Nat.lt_of_lt_of_le nx9.2 (Nat.le_of_lt_succ hn21) | exact Nat.lt_succ_self _) _ _ _ hw (lv_sub hl [1, 0] rfl)
  · obtain ⟨q1, q2⟩ := t10.resolve_right (fun z => z.1 zF)
    clear t10
    have pl := ps.pl zF
    refine lv_aload_n hx hb dX10_weeksTold_16 rfl (lv_at hl 1 rfl) ?_
    refine q_iconst hx hb dX10_weeksTold_17 ?_
    refine q_call_v hA hK hw (va_runV (As := [.int (iI 1)]) (rest := []) ⟨hx, hb, hml, hown, hts⟩ (c_X10_wrong zo l D cy L0 f_1 a0 1 (by decide) (by decide) ad hs (by omega) (by omega) (by omega) (by omega) _) (cwV 1 hts (gT (inV (mr20 _ (List.mem_of_getElem? (i := 12) rfl)) (mr20 _ (List.mem_of_getElem? (i := 13) rfl)) (mr20 _ (List.mem_of_getElem? (i := 14) rfl)) (mr1 _ (List.mem_of_getElem? (i := 5) rfl)) (mr20 _ (List.mem_of_getElem? (i := 15) rfl)))) rfl rfl rfl (by decide +kernel) ⟨Nat.le_of_ble_eq_true rfl, Nat.le_of_ble_eq_true rfl⟩) (Wd.preV zo hA hZ hw hK hs.1 hs.2.1 rfl) rfl rfl hl.1 rfl (lv_room (Nat.le_of_ble_eq_true rfl)) dX10_weeksTold_18 ⟨Nat.le_of_ble_eq_true rfl, Nat.le_of_ble_eq_true rfl⟩) (fun L1 f_15 H locs ex_14 hw => ?_)
    obtain ⟨rfl, hs, hX, ex_14⟩ := ex_14
    have hE := hE.trans (hX.mono (rs' := [21]) (fs' := [15, 16, 17, 18, 19, 20]) (by decide) (by decide))
    have t14_f_15 : fI f_15 a0 14 = fI f_1 a0 14 := hX.2 14 (by decide)
    have t15_f_15 : fI f_15 a0 15 = fI f_1 a0 15 := hX.2 15 (by decide)
    have t16_f_15 : fI f_15 a0 16 = fI f_1 a0 16 := hX.2 16 (by decide)
    have t17_f_15 : fI f_15 a0 17 = fI f_1 a0 17 := hX.2 17 (by decide)
    have t19_f_15 : fI f_15 a0 19 = fI f_1 a0 19 := hX.2 19 (by decide)
    have c21_0_f_15 : aI f_15 (ad 21) 0 = aI f_1 (ad 21) 0 := hX.1 21 rfl (by decide) _
    have c21_1_f_15 : aI f_15 (ad 21) 1 = aI f_1 (ad 21) 1 := hX.1 21 rfl (by decide) _
    have c21_2_f_15 : aI f_15 (ad 21) 2 = aI f_1 (ad 21) 2 := hX.1 21 rfl (by decide) _
    have c21_5_f_15 : aI f_15 (ad 21) 5 = aI f_1 (ad 21) 5 := hX.1 21 rfl (by decide) _
    have c21_8_f_15 : aI f_15 (ad 21) 8 = aI f_1 (ad 21) 8 := hX.1 21 rfl (by decide) _
    have c21_9_f_15 : aI f_15 (ad 21) 9 = aI f_1 (ad 21) 9 := hX.1 21 rfl (by decide) _
    have c21_3_f_15 : aI f_15 (ad 21) 3 = aI f_1 (ad 21) 3 := hX.1 21 rfl (by decide) _
    have c21_4_f_15 : aI f_15 (ad 21) 4 = aI f_1 (ad 21) 4 := hX.1 21 rfl (by decide) _
    have c21_6_f_15 : aI f_15 (ad 21) 6 = aI f_1 (ad 21) 6 := hX.1 21 rfl (by decide) _
    have c21_7_f_15 : aI f_15 (ad 21) 7 = aI f_1 (ad 21) 7 := hX.1 21 rfl (by decide) _
    have Q8 : aI f_15 (ad 8) = aI f0 (ad 8) := funext fun x => hE.1 8 rfl (by decide) x
    have t18 := ex_14
    clear ex_14
    have wi := wki_w (ps.wr (f1 := f_15) (x := 8 * tP Tt nn ee + 1) (e' := ee) (by omega) (by omega) (by omega) (by omega)) rfl e0 e1 (by omega)
    clear t18
    have J21 : ∀ (n21 : Nat) (y1_21 : Int) (ly1_21 : -2147483648 ≤ y1_21) (uy1_21 : y1_21 ≤ 2147483647) (L : List Nat) (fw21 : Nat → va_E) (hs : MS cy L0 fw21 a0 ad) (hE : Kp a0 ad [21] [15, 16, 17, 18, 19, 20] f0 fw21) (i5 : fI fw21 a0 14 = nn) (wi : WKI Tt nn fw21 a0 ee y1_21) (y3 : aI fw21 (ad 21) 3 = 2) (z0 : aI fw21 (ad 21) 0 = aI f0 (ad 21) 0) (z1 : aI fw21 (ad 21) 1 = aI f0 (ad 21) 1) (z2 : aI fw21 (ad 21) 2 = aI f0 (ad 21) 2) (z5 : aI fw21 (ad 21) 5 = aI f0 (ad 21) 5) (z8 : aI fw21 (ad 21) 8 = aI f0 (ad 21) 8) (z9 : aI fw21 (ad 21) 9 = aI f0 (ad 21) 9) (z4 : aI fw21 (ad 21) 4 = aI f0 (ad 21) 4) (z7 : aI fw21 (ad 21) 7 = aI f0 (ad 21) 7) (hn21 : wkM (fI fw21 a0 20) y1_21 < n21) (H : Heap) (locs : List Loc) (ls : Array Slot) (hw : Wd D A s.heap L0 fw21 H locs) (hl : lv_has ls 3 [(0, .ref a0), (1, .int (iI y1_21))]), W p l e ({ frames := 7, cells := 0, slots := 0, locals := 149 } : Room) s m ([.ref a0] : List Value).toArray below meth c H locs (0 + 0 + 0) (0 + 0 + 0) (MQ below (Qv D (tq cy) L0 f0 s.heap.size (fun (L1 : List Nat) (f1 : Nat → va_E) => L0 = L1 ∧ MS cy L0 f1 a0 ad ∧ Kp a0 ad [21] [15, 16, 17, 18, 19, 20] f0 f1 ∧ (PSr Tt nn f1 a0 (wkF Tt nn 8 ee 0).1 (wkF Tt nn 8 ee 0).2.2 ∧ RVq (wkF Tt nn 8 ee 0).1 (wkF Tt nn 8 ee 0).2.1 (aI f1 (ad 21) 6) ∧ aI f1 (ad 21) 3 = 2 ∧ aI f1 (ad 21) 0 = aI f0 (ad 21) 0 ∧ aI f1 (ad 21) 1 = aI f0 (ad 21) 1 ∧ aI f1 (ad 21) 2 = aI f0 (ad 21) 2 ∧ aI f1 (ad 21) 5 = aI f0 (ad 21) 5 ∧ aI f1 (ad 21) 8 = aI f0 (ad 21) 8 ∧ aI f1 (ad 21) 9 = aI f0 (ad 21) 9 ∧ aI f1 (ad 21) 4 = aI f0 (ad 21) 4 ∧ aI f1 (ad 21) 7 = aI f0 (ad 21) 7))) ([.ref a0] : List Value).toArray s 0 0 A) (F0 m 21 ls []) := by
      intro n21
      induction n21 with
      | zero => intro y1_21 ly1_21 uy1_21 L fw21 hs hE i5 wi y3 z0 z1 z2 z5 z8 z9 z4 z7 hn21; exact absurd hn21 (Nat.not_lt_zero _)
      | succ n21 ih21 =>
        intro y1_21 ly1_21 uy1_21 L fw21 hs hE i5 wi y3 z0 z1 z2 z5 z8 z9 z4 z7 hn21 H locs ls hw hl
        obtain ⟨F9, E9, ps9, ea, eb, wj⟩ := wi
        have ps1 := ps9.1
        have ps2 := ps9.2.1
        have ps3 := ps9.2.2.1
        have ps4 := ps9.2.2.2.1
        have wv9 := wdv_b Tt nn E9
        have pb9 := tP_b (T := Tt) eb
        have Q8 : aI fw21 (ad 8) = aI f0 (ad 8) := funext fun x => hE.1 8 rfl (by decide) x
        refine lv_aload_n hx hb dX10_weeksTold_21 rfl (lv_at hl 0 rfl) ?_
        refine q_call_i hA hK hw (va_runV (As := []) (rest := []) ⟨hx, hb, hml, hown, hts⟩ (c_X10_weekdayHere_p zo l D cy L0 fw21 a0 ad hs Tt nn n0 n1 (by omega) (by first | exact hT | exact fun i q0 q1 => (congrFun Q8 i).trans (hT i q0 q1)) bT _ _ ps9 (by omega) (by omega) _) (cwV 0 hts (gT (inV (mr21 _ (List.mem_of_getElem? (i := 4) rfl)) (mr21 _ (List.mem_of_getElem? (i := 5) rfl)) (mr21 _ (List.mem_of_getElem? (i := 6) rfl)) (mr1 _ (List.mem_of_getElem? (i := 5) rfl)) (mr21 _ (List.mem_of_getElem? (i := 7) rfl)))) rfl rfl rfl (by decide +kernel) ⟨Nat.le_of_ble_eq_true rfl, Nat.le_of_ble_eq_true rfl⟩) (Wd.preV zo hA hZ hw hK hs.1 hs.2.1 rfl) rfl rfl hl.1 rfl (lv_room (Nat.le_of_ble_eq_true rfl)) dX10_weeksTold_22 ⟨Nat.le_of_ble_eq_true rfl, Nat.le_of_ble_eq_true rfl⟩) (fun x_16 L1 f1 H locs lx_16 ux_16 ex_16 hw => ?_)
        obtain ⟨rfl, rfl, ex_16⟩ := ex_16
        have t22 := ex_16
        clear ex_16
        refine q_if_lt (tgt := 60) hx hb dX10_weeksTold_25 (by decide) ⟨lx_16, ux_16⟩ (fun c25 => ?_) (fun c25 => ?_)
        · have fin := wki_end ps9 ea eb wj (fun z => by have y := (t22.resolve_right (fun q => q.1 z)).2; omega)
          clear t22
          have ps := fin.1
          refine lv_aload_n hx hb dX10_weeksTold_60 rfl (lv_at hl 0 rfl) ?_
          refine q_getr (ci := 8) (C := RX10) (T := TX10) (N := 26) hx hb hts (fun w h => List.mem_cons_of_mem _ (mfX100 w h)) hown hK hw hs.1 hs.2.1 rfl 21 (by decide) (hts _ (List.mem_cons_of_mem _ (mr3 _ (List.mem_of_getElem? (i := 22) rfl)))) (fun _ h => h) rfl (hs.2.2.1 21 rfl).1 dX10_weeksTold_61 ?_
          refine q_bipush hx hb dX10_weeksTold_64 rfl ?_
          refine lv_iload_n hx hb dX10_weeksTold_66 rfl (lv_at hl 1 rfl) ?_
          refine q_iast hx hb hK hw (hs.2.2.1 21 rfl).2.1 1 (hs.2.2.1 21 rfl).2.2 rfl ⟨by decide, by decide⟩ (by omega) (by show _ < ((44 : Nat) : Int); omega) dX10_weeksTold_67 (fun H locs hw => ?_)
          obtain ⟨f_17, ef_17⟩ : ∃ g : Nat → va_E, g = aU fw21 (ad 21) 6 (iI y1_21) := ⟨_, rfl⟩
          have t14_f_17 : fI f_17 a0 14 = fI fw21 a0 14 := by rw [ef_17]; exact hs.fI_aU rfl _ _
          have t15_f_17 : fI f_17 a0 15 = fI fw21 a0 15 := by rw [ef_17]; exact hs.fI_aU rfl _ _
          have t16_f_17 : fI f_17 a0 16 = fI fw21 a0 16 := by rw [ef_17]; exact hs.fI_aU rfl _ _
          have t17_f_17 : fI f_17 a0 17 = fI fw21 a0 17 := by rw [ef_17]; exact hs.fI_aU rfl _ _
          have t19_f_17 : fI f_17 a0 19 = fI fw21 a0 19 := by rw [ef_17]; exact hs.fI_aU rfl _ _
          have t20_f_17 : fI f_17 a0 20 = fI fw21 a0 20 := by rw [ef_17]; exact hs.fI_aU rfl _ _
          have hE := hE.trans (show Kp a0 ad [21] [15, 16, 17, 18, 19, 20] fw21 f_17 by rw [ef_17]; exact Kp_aU hs rfl (by decide))
          have hs_ := hs
          have hs : MS cy L0 f_17 a0 ad := by rw [ef_17]; exact MS_aU hs rfl
          rw [← ef_17] at hw
          have ps := ps.aU (hs_.2.2.1 21 rfl).2.2 ef_17
          have Q8 : aI f_17 (ad 8) = aI f0 (ad 8) := funext fun x => hE.1 8 rfl (by decide) x
          have c21_0_f_17 : aI f_17 (ad 21) 0 = aI fw21 (ad 21) 0 := by rw [ef_17]; exact hs_.aI_nj rfl (by decide) (by decide) (by decide)
          have c21_1_f_17 : aI f_17 (ad 21) 1 = aI fw21 (ad 21) 1 := by rw [ef_17]; exact hs_.aI_nj rfl (by decide) (by decide) (by decide)
          have c21_2_f_17 : aI f_17 (ad 21) 2 = aI fw21 (ad 21) 2 := by rw [ef_17]; exact hs_.aI_nj rfl (by decide) (by decide) (by decide)
          have c21_5_f_17 : aI f_17 (ad 21) 5 = aI fw21 (ad 21) 5 := by rw [ef_17]; exact hs_.aI_nj rfl (by decide) (by decide) (by decide)
          have c21_8_f_17 : aI f_17 (ad 21) 8 = aI fw21 (ad 21) 8 := by rw [ef_17]; exact hs_.aI_nj rfl (by decide) (by decide) (by decide)
          have c21_9_f_17 : aI f_17 (ad 21) 9 = aI fw21 (ad 21) 9 := by rw [ef_17]; exact hs_.aI_nj rfl (by decide) (by decide) (by decide)
          have c21_3_f_17 : aI f_17 (ad 21) 3 = aI fw21 (ad 21) 3 := by rw [ef_17]; exact hs_.aI_nj rfl (by decide) (by decide) (by decide)
          have c21_4_f_17 : aI f_17 (ad 21) 4 = aI fw21 (ad 21) 4 := by rw [ef_17]; exact hs_.aI_nj rfl (by decide) (by decide) (by decide)
          have c21_6_f_17 : aI f_17 (ad 21) 6 = y1_21 := by rw [ef_17]; exact hs_.aI_self rfl ⟨ly1_21, uy1_21⟩
          have c21_7_f_17 : aI f_17 (ad 21) 7 = aI fw21 (ad 21) 7 := by rw [ef_17]; exact hs_.aI_nj rfl (by decide) (by decide) (by decide)
          exact q_ret_v hx hb hr hlocks hK hAe hw (Nat.le_of_ble_eq_true rfl) (Nat.le_of_ble_eq_true rfl) dX10_weeksTold_68 (by exact ⟨rfl, hs, hE, ps, fun z => by have y := fin.2 z; omega, by omega, by omega, by omega, by omega, by omega, by omega, by omega, by omega, by omega⟩)
        · obtain ⟨q1, q2⟩ := t22.resolve_right (by omega)
          clear t22
          obtain ⟨s0, s1, s2, k9, k1, k2⟩ := wj.al q1
          clear s2 wj
          rw [ps1, q1] at hn21
          have pl9 := ps9.pl q1
          refine lv_aload_n hx hb dX10_weeksTold_28 rfl (lv_at hl 0 rfl) ?_
          refine q_call_i hA hK hw (va_runV (As := []) (rest := []) ⟨hx, hb, hml, hown, hts⟩ (c_X10_weekdayHere_p zo l D cy L0 fw21 a0 ad hs Tt nn n0 n1 (by omega) (by first | exact hT | exact fun i q0 q1 => (congrFun Q8 i).trans (hT i q0 q1)) bT _ _ ps9 (by omega) (by omega) _) (cwV 0 hts (gT (inV (mr21 _ (List.mem_of_getElem? (i := 4) rfl)) (mr21 _ (List.mem_of_getElem? (i := 5) rfl)) (mr21 _ (List.mem_of_getElem? (i := 6) rfl)) (mr1 _ (List.mem_of_getElem? (i := 5) rfl)) (mr21 _ (List.mem_of_getElem? (i := 7) rfl)))) rfl rfl rfl (by decide +kernel) ⟨Nat.le_of_ble_eq_true rfl, Nat.le_of_ble_eq_true rfl⟩) (Wd.preV zo hA hZ hw hK hs.1 hs.2.1 rfl) rfl rfl hl.1 rfl (lv_room (Nat.le_of_ble_eq_true rfl)) dX10_weeksTold_29 ⟨Nat.le_of_ble_eq_true rfl, Nat.le_of_ble_eq_true rfl⟩) (fun x_18 L1 f1 H locs lx_18 ux_18 ex_18 hw => ?_)
          obtain ⟨rfl, rfl, ex_18⟩ := ex_18
          have q29 : x_18 = wdv Tt nn E9 := (ex_18.resolve_right (fun z => z.1 q1)).2
          clear ex_18
          refine lv_istore_n (lv' := [(2, .int (iI x_18)), (0, .ref a0), (1, .int (iI y1_21))]) hx hb dX10_weeksTold_32 rfl hl (by decide) rfl (fun ls hl => ?_)
          refine lv_iload_n hx hb dX10_weeksTold_33 rfl (lv_at hl 2 rfl) ?_
          refine lv_iload_n hx hb dX10_weeksTold_34 rfl (lv_at hl 0 rfl) ?_
          refine lv_ishr hx hb dX10_weeksTold_35 ?_
          refine q_num (fun x_19 lx_19 ux_19 ex_19 => ?_)
          have b35 := ex_19
          refine q_iconst hx hb dX10_weeksTold_36 ?_
          refine lv_iand hx hb dX10_weeksTold_37 ?_
          refine q_num (fun x_20 lx_20 ux_20 ex_20 => ?_)
          have b37 := bit_at (v := y1_21) (v' := y1_21) rfl (by omega) (by omega) (by omega) (by omega) b35 ex_20
          refine q_iconst hx hb dX10_weeksTold_38 ?_
          have J47 : ∀ (L : List Nat) (fw47 : Nat → va_E) (hs : MS cy L0 fw47 a0 ad) (hE : Kp a0 ad [21] [15, 16, 17, 18, 19, 20] f0 fw47) (i5 : fI fw47 a0 14 = nn) (w47 : WKX Tt nn fw47 a0 E9 y1_21 x_18) (y3 : aI fw47 (ad 21) 3 = 2) (z0 : aI fw47 (ad 21) 0 = aI f0 (ad 21) 0) (z1 : aI fw47 (ad 21) 1 = aI f0 (ad 21) 1) (z2 : aI fw47 (ad 21) 2 = aI f0 (ad 21) 2) (z5 : aI fw47 (ad 21) 5 = aI f0 (ad 21) 5) (z8 : aI fw47 (ad 21) 8 = aI f0 (ad 21) 8) (z9 : aI fw47 (ad 21) 9 = aI f0 (ad 21) 9) (z4 : aI fw47 (ad 21) 4 = aI f0 (ad 21) 4) (z7 : aI fw47 (ad 21) 7 = aI f0 (ad 21) 7) (H : Heap) (locs : List Loc) (ls : Array Slot) (hw : Wd D A s.heap L0 fw47 H locs) (hl : lv_has ls 3 [(0, .ref a0), (1, .int (iI y1_21)), (2, .int (iI x_18))]), W p l e ({ frames := 7, cells := 0, slots := 0, locals := 149 } : Room) s m ([.ref a0] : List Value).toArray below meth c H locs (0 + 0 + 0 + 0 + 0) (0 + 0 + 0 + 0 + 0) (MQ below (Qv D (tq cy) L0 f0 s.heap.size (fun (L1 : List Nat) (f1 : Nat → va_E) => L0 = L1 ∧ MS cy L0 f1 a0 ad ∧ Kp a0 ad [21] [15, 16, 17, 18, 19, 20] f0 f1 ∧ (PSr Tt nn f1 a0 (wkF Tt nn 8 ee 0).1 (wkF Tt nn 8 ee 0).2.2 ∧ RVq (wkF Tt nn 8 ee 0).1 (wkF Tt nn 8 ee 0).2.1 (aI f1 (ad 21) 6) ∧ aI f1 (ad 21) 3 = 2 ∧ aI f1 (ad 21) 0 = aI f0 (ad 21) 0 ∧ aI f1 (ad 21) 1 = aI f0 (ad 21) 1 ∧ aI f1 (ad 21) 2 = aI f0 (ad 21) 2 ∧ aI f1 (ad 21) 5 = aI f0 (ad 21) 5 ∧ aI f1 (ad 21) 8 = aI f0 (ad 21) 8 ∧ aI f1 (ad 21) 9 = aI f0 (ad 21) 9 ∧ aI f1 (ad 21) 4 = aI f0 (ad 21) 4 ∧ aI f1 (ad 21) 7 = aI f0 (ad 21) 7))) ([.ref a0] : List Value).toArray s 0 0 A) (F0 m 47 ls []) := by
            intro L fw47 hs hE i5 w47 y3 z0 z1 z2 z5 z8 z9 z4 z7 H locs ls hw hl
            have p56 := w47.b
            have p5 := p56.1
            have p6 := p56.2
            have Q8 : aI fw47 (ad 8) = aI f0 (ad 8) := funext fun x => hE.1 8 rfl (by decide) x
            refine lv_iload_n hx hb dX10_weeksTold_47 rfl (lv_at hl 1 rfl) ?_
            refine q_iconst hx hb dX10_weeksTold_48 ?_
            refine lv_iload_n hx hb dX10_weeksTold_49 rfl (lv_at hl 2 rfl) ?_
            refine lv_ishl hx hb dX10_weeksTold_50 ?_
            refine q_num (fun x_21 lx_21 ux_21 ex_21 => ?_)
            have b50 := ex_21
            refine lv_ior hx hb dX10_weeksTold_51 ?_
            refine q_num (fun x_22 lx_22 ux_22 ex_22 => ?_)
            have b51 := ex_22
            refine lv_istore_n (lv' := [(1, .int (iI x_22)), (0, .ref a0), (2, .int (iI x_18))]) hx hb dX10_weeksTold_52 rfl hl (by decide) rfl (fun ls hl => ?_)
            refine lv_aload_n hx hb dX10_weeksTold_53 rfl (lv_at hl 1 rfl) ?_
            refine q_call_v hA hK hw (va_runV (As := []) (rest := []) ⟨hx, hb, hml, hown, hts⟩ (c_X10_next_p zo l D cy L0 fw47 a0 ad hs Tt nn n0 n1 (by omega) (by first | exact hT | exact fun i q0 q1 => (congrFun Q8 i).trans (hT i q0 q1)) bT (by omega) (by omega) _) (cwV 0 hts (gT (inV (mr19 _ (List.mem_of_getElem? (i := 4) rfl)) (mr19 _ (List.mem_of_getElem? (i := 5) rfl)) (mr19 _ (List.mem_of_getElem? (i := 6) rfl)) (mr1 _ (List.mem_of_getElem? (i := 5) rfl)) (mr19 _ (List.mem_of_getElem? (i := 7) rfl)))) rfl rfl rfl (by decide +kernel) ⟨Nat.le_of_ble_eq_true rfl, Nat.le_of_ble_eq_true rfl⟩) (Wd.preV zo hA hZ hw hK hs.1 hs.2.1 rfl) rfl rfl hl.1 rfl (lv_room (Nat.le_of_ble_eq_true rfl)) dX10_weeksTold_54 ⟨Nat.le_of_ble_eq_true rfl, Nat.le_of_ble_eq_true rfl⟩) (fun L1 f_24 H locs ex_23 hw => ?_)
            obtain ⟨rfl, hs, hX, ex_23⟩ := ex_23
            have hE := hE.trans (hX.mono (rs' := [21]) (fs' := [15, 16, 17, 18, 19, 20]) (by decide) (by decide))
            have t14_f_24 : fI f_24 a0 14 = fI fw47 a0 14 := hX.2 14 (by decide)
            have t20_f_24 : fI f_24 a0 20 = fI fw47 a0 20 := hX.2 20 (by decide)
            have c21_0_f_24 : aI f_24 (ad 21) 0 = aI fw47 (ad 21) 0 := hX.1 21 rfl (by decide) _
            have c21_1_f_24 : aI f_24 (ad 21) 1 = aI fw47 (ad 21) 1 := hX.1 21 rfl (by decide) _
            have c21_2_f_24 : aI f_24 (ad 21) 2 = aI fw47 (ad 21) 2 := hX.1 21 rfl (by decide) _
            have c21_5_f_24 : aI f_24 (ad 21) 5 = aI fw47 (ad 21) 5 := hX.1 21 rfl (by decide) _
            have c21_8_f_24 : aI f_24 (ad 21) 8 = aI fw47 (ad 21) 8 := hX.1 21 rfl (by decide) _
            have c21_9_f_24 : aI f_24 (ad 21) 9 = aI fw47 (ad 21) 9 := hX.1 21 rfl (by decide) _
            have c21_3_f_24 : aI f_24 (ad 21) 3 = aI fw47 (ad 21) 3 := hX.1 21 rfl (by decide) _
            have c21_4_f_24 : aI f_24 (ad 21) 4 = aI fw47 (ad 21) 4 := hX.1 21 rfl (by decide) _
            have c21_6_f_24 : aI f_24 (ad 21) 6 = aI fw47 (ad 21) 6 := hX.1 21 rfl (by decide) _
            have c21_7_f_24 : aI f_24 (ad 21) 7 = aI fw47 (ad 21) 7 := hX.1 21 rfl (by decide) _
            have Q8 : aI f_24 (ad 8) = aI f0 (ad 8) := funext fun x => hE.1 8 rfl (by decide) x
            have nx9 := wki_nx (e := ee) (k := k9) w47 ex_23 (by omega) n1 ea eb q29 (by omega) s0 s1 k1 k2 b50 b51
            clear ex_23
            refine lv_goto (tgt := 21) hx hb dX10_weeksTold_57 (by decide) ?_
            exact ih21 x_22 lx_22 ux_22 L0 f_24 hs hE (by omega) (by first | exact wi | exact nx9.1) (by omega) (by omega) (by omega) (by omega) (by omega) (by omega) (by omega) (by omega) (by omega) (by first | exact Nat.lt_of_lt_of_le nx9.2 (Nat.le_of_lt_succ hn21) | exact Nat.lt_succ_self _) _ _ _ hw (lv_sub hl [1, 0] rfl)
          refine q_icmp_ne (tgt := 47) hx hb dX10_weeksTold_39 (by decide) ⟨lx_20, ux_20⟩ ⟨by decide, by decide⟩ (fun c39 => ?_) (fun c39 => ?_)
          · have wf : wb y1_21 x_18 = false := by cases h9 : wb y1_21 x_18; rfl; exact absurd (b37.mpr h9) (by omega)
            have w47 : WKX Tt nn fw21 a0 E9 y1_21 x_18 := Or.inl ⟨wf, ps9.to q1.symm rfl⟩
            exact J47 L0 fw21 hs hE (by omega) (by exact w47) (by omega) (by omega) (by omega) (by omega) (by omega) (by omega) (by omega) (by omega) (by omega) _ _ _ hw (lv_sub hl [1, 2, 0] rfl)
          · have wt := b37.mp (by omega)
            refine lv_aload_n hx hb dX10_weeksTold_42 rfl (lv_at hl 1 rfl) ?_
            refine q_iconst hx hb dX10_weeksTold_43 ?_
            refine q_call_v hA hK hw (va_runV (As := [.int (iI 2)]) (rest := []) ⟨hx, hb, hml, hown, hts⟩ (c_X10_wrong zo l D cy L0 fw21 a0 2 (by decide) (by decide) ad hs (by omega) (by omega) (by omega) (by omega) _) (cwV 1 hts (gT (inV (mr20 _ (List.mem_of_getElem? (i := 12) rfl)) (mr20 _ (List.mem_of_getElem? (i := 13) rfl)) (mr20 _ (List.mem_of_getElem? (i := 14) rfl)) (mr1 _ (List.mem_of_getElem? (i := 5) rfl)) (mr20 _ (List.mem_of_getElem? (i := 15) rfl)))) rfl rfl rfl (by decide +kernel) ⟨Nat.le_of_ble_eq_true rfl, Nat.le_of_ble_eq_true rfl⟩) (Wd.preV zo hA hZ hw hK hs.1 hs.2.1 rfl) rfl rfl hl.1 rfl (lv_room (Nat.le_of_ble_eq_true rfl)) dX10_weeksTold_44 ⟨Nat.le_of_ble_eq_true rfl, Nat.le_of_ble_eq_true rfl⟩) (fun L1 f_26 H locs ex_25 hw => ?_)
            obtain ⟨rfl, hs, hX, ex_25⟩ := ex_25
            have hE := hE.trans (hX.mono (rs' := [21]) (fs' := [15, 16, 17, 18, 19, 20]) (by decide) (by decide))
            have t14_f_26 : fI f_26 a0 14 = fI fw21 a0 14 := hX.2 14 (by decide)
            have t15_f_26 : fI f_26 a0 15 = fI fw21 a0 15 := hX.2 15 (by decide)
            have t16_f_26 : fI f_26 a0 16 = fI fw21 a0 16 := hX.2 16 (by decide)
            have t17_f_26 : fI f_26 a0 17 = fI fw21 a0 17 := hX.2 17 (by decide)
            have t19_f_26 : fI f_26 a0 19 = fI fw21 a0 19 := hX.2 19 (by decide)
            have c21_0_f_26 : aI f_26 (ad 21) 0 = aI fw21 (ad 21) 0 := hX.1 21 rfl (by decide) _
            have c21_1_f_26 : aI f_26 (ad 21) 1 = aI fw21 (ad 21) 1 := hX.1 21 rfl (by decide) _
            have c21_2_f_26 : aI f_26 (ad 21) 2 = aI fw21 (ad 21) 2 := hX.1 21 rfl (by decide) _
            have c21_5_f_26 : aI f_26 (ad 21) 5 = aI fw21 (ad 21) 5 := hX.1 21 rfl (by decide) _
            have c21_8_f_26 : aI f_26 (ad 21) 8 = aI fw21 (ad 21) 8 := hX.1 21 rfl (by decide) _
            have c21_9_f_26 : aI f_26 (ad 21) 9 = aI fw21 (ad 21) 9 := hX.1 21 rfl (by decide) _
            have c21_3_f_26 : aI f_26 (ad 21) 3 = aI fw21 (ad 21) 3 := hX.1 21 rfl (by decide) _
            have c21_4_f_26 : aI f_26 (ad 21) 4 = aI fw21 (ad 21) 4 := hX.1 21 rfl (by decide) _
            have c21_6_f_26 : aI f_26 (ad 21) 6 = aI fw21 (ad 21) 6 := hX.1 21 rfl (by decide) _
            have c21_7_f_26 : aI f_26 (ad 21) 7 = aI fw21 (ad 21) 7 := hX.1 21 rfl (by decide) _
            have Q8 : aI f_26 (ad 8) = aI f0 (ad 8) := funext fun x => hE.1 8 rfl (by decide) x
            have t44 := ex_25
            clear ex_25
            have w47 : WKX Tt nn f_26 a0 E9 y1_21 x_18 := Or.inr ⟨wt, ps9.wr (by omega) (by omega) (by omega) (by omega)⟩
            clear t44
            exact J47 L0 f_26 hs hE (by omega) (by exact w47) (by omega) (by omega) (by omega) (by omega) (by omega) (by omega) (by omega) (by omega) (by omega) _ _ _ hw (lv_sub hl [1, 2, 0] rfl)
    exact J21 ((wkM (fI f_15 a0 20) 0) + 1) 0 (by decide) (by decide) L0 f_15 hs hE (by omega) (by first | exact wi | exact nx9.1) (by omega) (by omega) (by omega) (by omega) (by omega) (by omega) (by omega) (by omega) (by omega) (by first | exact Nat.lt_of_lt_of_le nx9.2 (Nat.le_of_lt_succ hn21) | exact Nat.lt_succ_self _) _ _ _ hw (lv_sub hl [1, 0] rfl)
set_option maxHeartbeats 4000000 in
set_option maxRecDepth 100000 in
theorem c_X10_monthsTold_p {Z : Zt} (zo : Zok Z) (l : Launch) (D : va_G) (cy : Cy) (L0 : List Nat) (f0 : Nat → va_E) (a0 : Nat) (ad : Nat → Nat) (hs : MS cy L0 f0 a0 ad) (Tt : Int → Int) (nn : Int) (n0 : 0 ≤ nn) (n1 : nn ≤ 160) (h14 : fI f0 a0 14 = nn) (hT : ∀ i : Int, 0 ≤ i → i < 168 → aI f0 (ad 8) i = Tt i) (bT : ∀ i : Int, 0 ≤ Tt i ∧ Tt i ≤ 255) (FF : Int) (ee : Int) (ps : PSr Tt nn f0 a0 FF ee) (e0 : 0 ≤ ee) (e1 : ee ≤ nn) (zF : FF = 0) (h7 : aI f0 (ad 21) 7 = -1) : Cv Z l yX10_monthsTold (Cond.code yX10_monthsTold cX10_monthsTold 1 none :: TB) ({ frames := 8, cells := 0, slots := 0, locals := 170 } : Room) 0 0 D (tq cy) [.ref a0] L0 f0 (fun (L1 : List Nat) (f1 : Nat → va_E) => L0 = L1 ∧ MS cy L0 f1 a0 ad ∧ Kp a0 ad [21] [15, 16, 17, 18, 19, 20] f0 f1 ∧ (PSr Tt nn f1 a0 (moF Tt nn ee) (moE Tt nn ee) ∧ RQ3 (moF Tt nn ee) f1 (ad 21) (moK Tt nn ee) (rfV (moK Tt nn ee) (moV Tt nn ee) (moW Tt nn ee)) (rfW (moK Tt nn ee) (moW Tt nn ee)) ∧ aI f1 (ad 21) 0 = aI f0 (ad 21) 0 ∧ aI f1 (ad 21) 1 = aI f0 (ad 21) 1 ∧ aI f1 (ad 21) 2 = aI f0 (ad 21) 2 ∧ aI f1 (ad 21) 5 = aI f0 (ad 21) 5 ∧ aI f1 (ad 21) 8 = aI f0 (ad 21) 8 ∧ aI f1 (ad 21) 9 = aI f0 (ad 21) 9 ∧ aI f1 (ad 21) 4 = aI f0 (ad 21) 4)) := by
  refine Cv.enter (cc := cX10_monthsTold) (n := 1) rfl (plainFor_of_name (by decide)) (Nat.le_of_ble_eq_true rfl) ?_
  intro p e s m below meth c ls A hx hb hr hts hown hlocks hnm hml hK hA hAe hw hZ hl
  have hown : s.vm.findClass RX10 = some m.cls := hown
  have hl : lv_has ls 1 [(0, .ref a0)] := hl
  have hN : ZN s := (zo.2.2.2.2 _ _ _ hZ).2
  have hE : Kp a0 ad [21] [15, 16, 17, 18, 19, 20] f0 f0 := Kp.refl _ _ _ _ _
  have ps1 := ps.1
  have ps2 := ps.2.1
  have ps3 := ps.2.2.1
  have ps4 := ps.2.2.2.1
  have ps5 := ps.2.2.2.2.1
  have ps6 := ps.2.2.2.2.2.1
  have pb := tP_b (T := Tt) e1
  have qb := tQ_b (T := Tt) e1
  have qc := tQ_r2 (T := Tt) e0 e1
  have qd := tQ_r2 (T := Tt) qc.1 qc.2
  refine lv_aload_n hx hb dX10_monthsTold_0 rfl (lv_at hl 0 rfl) ?_
  obtain ⟨t_1, v_t_1, h_t_1⟩ : ∃ q v : Nat, ∀ (A : Nat → Prop) (U : State) (H : Heap), Z A U H → vk_R RX10 189 "on" q U ∧ Tx [111, 110] q v A U H := ztx_31 zo
  obtain ⟨b_t_1, eb_t_1⟩ : ∃ b : List Int32, b = [111, 110] := ⟨_, rfl⟩
  have nb_t_1 : Asc b_t_1 := by rw [eb_t_1]; exact ⟨by decide, by decide +kernel⟩
  have tx_t_1 : ∀ (A : Nat → Prop) (U : State) (H : Heap), Z A U H → Tx b_t_1 t_1 v_t_1 A U H := fun A U H h => by rw [eb_t_1]; exact (h_t_1 A U H h).2
  have wok_t_1 : WOK b_t_1 := by rw [eb_t_1]; unfold WOK; decide +kernel
  have eb_t_1 : b_t_1 = wOn := by rw [eb_t_1]; rfl
  refine va_ldcS hx hb hown (h_t_1 _ _ _ hZ).1 dX10_monthsTold_1 ?_
  refine q_call_i hA hK hw (va_runV (As := [.ref t_1]) (rest := []) ⟨hx, hb, hml, hown, hts⟩ (c_X10_isWord_p zo l D cy L0 f0 a0 t_1 b_t_1 v_t_1 nb_t_1 tx_t_1 ad hs wok_t_1 Tt nn n0 n1 (by omega) (by first | exact hT | exact fun i q0 q1 => (congrFun Q8 i).trans (hT i q0 q1)) bT _ _ ps (by omega) (by omega) _) (cwV 1 hts (gT (inV (mr20 _ (List.mem_of_getElem? (i := 3) rfl)) (mr20 _ (List.mem_of_getElem? (i := 4) rfl)) (mr20 _ (List.mem_of_getElem? (i := 5) rfl)) (mr1 _ (List.mem_of_getElem? (i := 5) rfl)) (mr20 _ (List.mem_of_getElem? (i := 6) rfl)))) rfl rfl rfl (by decide +kernel) ⟨Nat.le_of_ble_eq_true rfl, Nat.le_of_ble_eq_true rfl⟩) (Wd.preV zo hA hZ hw hK hs.1 hs.2.1 rfl) rfl rfl hl.1 rfl (lv_room (Nat.le_of_ble_eq_true rfl)) dX10_monthsTold_3 ⟨Nat.le_of_ble_eq_true rfl, Nat.le_of_ble_eq_true rfl⟩) (fun x_2 L1 f1 H locs lx_2 ux_2 ex_2 hw => ?_)
  obtain ⟨rfl, rfl, ex_2⟩ := ex_2
  have t3 := ex_2
  rw [eb_t_1] at t3
  clear ex_2
  refine q_if_eq (tgt := 37) hx hb dX10_monthsTold_6 (by decide) ⟨lx_2, ux_2⟩ (fun c6 => ?_) (fun c6 => ?_)
  · have n3 : NWq (FF) (wS Tt nn (ee) wOn) := (t3.resolve_left (by omega)).2
    clear t3
    refine lv_aload_n hx hb dX10_monthsTold_37 rfl (lv_at hl 0 rfl) ?_
    obtain ⟨t_3, v_t_3, h_t_3⟩ : ∃ q v : Nat, ∀ (A : Nat → Prop) (U : State) (H : Heap), Z A U H → vk_R RX10 191 "end" q U ∧ Tx [101, 110, 100] q v A U H := ztx_32 zo
    obtain ⟨b_t_3, eb_t_3⟩ : ∃ b : List Int32, b = [101, 110, 100] := ⟨_, rfl⟩
    have nb_t_3 : Asc b_t_3 := by rw [eb_t_3]; exact ⟨by decide, by decide +kernel⟩
    have tx_t_3 : ∀ (A : Nat → Prop) (U : State) (H : Heap), Z A U H → Tx b_t_3 t_3 v_t_3 A U H := fun A U H h => by rw [eb_t_3]; exact (h_t_3 A U H h).2
    have wok_t_3 : WOK b_t_3 := by rw [eb_t_3]; unfold WOK; decide +kernel
    have eb_t_3 : b_t_3 = wEnd := by rw [eb_t_3]; rfl
    refine va_ldcS hx hb hown (h_t_3 _ _ _ hZ).1 dX10_monthsTold_38 ?_
    refine q_call_i hA hK hw (va_runV (As := [.ref t_3]) (rest := []) ⟨hx, hb, hml, hown, hts⟩ (c_X10_isWord_p zo l D cy L0 f0 a0 t_3 b_t_3 v_t_3 nb_t_3 tx_t_3 ad hs wok_t_3 Tt nn n0 n1 (by omega) (by first | exact hT | exact fun i q0 q1 => (congrFun Q8 i).trans (hT i q0 q1)) bT _ _ ps (by omega) (by omega) _) (cwV 1 hts (gT (inV (mr20 _ (List.mem_of_getElem? (i := 3) rfl)) (mr20 _ (List.mem_of_getElem? (i := 4) rfl)) (mr20 _ (List.mem_of_getElem? (i := 5) rfl)) (mr1 _ (List.mem_of_getElem? (i := 5) rfl)) (mr20 _ (List.mem_of_getElem? (i := 6) rfl)))) rfl rfl rfl (by decide +kernel) ⟨Nat.le_of_ble_eq_true rfl, Nat.le_of_ble_eq_true rfl⟩) (Wd.preV zo hA hZ hw hK hs.1 hs.2.1 rfl) rfl rfl hl.1 rfl (lv_room (Nat.le_of_ble_eq_true rfl)) dX10_monthsTold_40 ⟨Nat.le_of_ble_eq_true rfl, Nat.le_of_ble_eq_true rfl⟩) (fun x_4 L1 f1 H locs lx_4 ux_4 ex_4 hw => ?_)
    obtain ⟨rfl, rfl, ex_4⟩ := ex_4
    have t40 := ex_4
    rw [eb_t_3] at t40
    clear ex_4
    refine q_if_eq (tgt := 74) hx hb dX10_monthsTold_43 (by decide) ⟨lx_4, ux_4⟩ (fun c43 => ?_) (fun c43 => ?_)
    · have n40 : NWq (FF) (wS Tt nn (ee) wEnd) := (t40.resolve_left (by omega)).2
      clear t40
      refine lv_aload_n hx hb dX10_monthsTold_74 rfl (lv_at hl 0 rfl) ?_
      obtain ⟨t_5, v_t_5, h_t_5⟩ : ∃ q v : Nat, ∀ (A : Nat → Prop) (U : State) (H : Heap), Z A U H → vk_R RX10 193 "nth" q U ∧ Tx [110, 116, 104] q v A U H := ztx_33 zo
      obtain ⟨b_t_5, eb_t_5⟩ : ∃ b : List Int32, b = [110, 116, 104] := ⟨_, rfl⟩
      have nb_t_5 : Asc b_t_5 := by rw [eb_t_5]; exact ⟨by decide, by decide +kernel⟩
      have tx_t_5 : ∀ (A : Nat → Prop) (U : State) (H : Heap), Z A U H → Tx b_t_5 t_5 v_t_5 A U H := fun A U H h => by rw [eb_t_5]; exact (h_t_5 A U H h).2
      have wok_t_5 : WOK b_t_5 := by rw [eb_t_5]; unfold WOK; decide +kernel
      have eb_t_5 : b_t_5 = wNth := by rw [eb_t_5]; rfl
      refine va_ldcS hx hb hown (h_t_5 _ _ _ hZ).1 dX10_monthsTold_75 ?_
      refine q_call_i hA hK hw (va_runV (As := [.ref t_5]) (rest := []) ⟨hx, hb, hml, hown, hts⟩ (c_X10_isWord_p zo l D cy L0 f0 a0 t_5 b_t_5 v_t_5 nb_t_5 tx_t_5 ad hs wok_t_5 Tt nn n0 n1 (by omega) (by first | exact hT | exact fun i q0 q1 => (congrFun Q8 i).trans (hT i q0 q1)) bT _ _ ps (by omega) (by omega) _) (cwV 1 hts (gT (inV (mr20 _ (List.mem_of_getElem? (i := 3) rfl)) (mr20 _ (List.mem_of_getElem? (i := 4) rfl)) (mr20 _ (List.mem_of_getElem? (i := 5) rfl)) (mr1 _ (List.mem_of_getElem? (i := 5) rfl)) (mr20 _ (List.mem_of_getElem? (i := 6) rfl)))) rfl rfl rfl (by decide +kernel) ⟨Nat.le_of_ble_eq_true rfl, Nat.le_of_ble_eq_true rfl⟩) (Wd.preV zo hA hZ hw hK hs.1 hs.2.1 rfl) rfl rfl hl.1 rfl (lv_room (Nat.le_of_ble_eq_true rfl)) dX10_monthsTold_77 ⟨Nat.le_of_ble_eq_true rfl, Nat.le_of_ble_eq_true rfl⟩) (fun x_6 L1 f1 H locs lx_6 ux_6 ex_6 hw => ?_)
      obtain ⟨rfl, rfl, ex_6⟩ := ex_6
      have t77 := ex_6
      rw [eb_t_5] at t77
      clear ex_6
      refine q_if_eq (tgt := 121) hx hb dX10_monthsTold_80 (by decide) ⟨lx_6, ux_6⟩ (fun c80 => ?_) (fun c80 => ?_)
      · have n77 : NWq (FF) (wS Tt nn (ee) wNth) := (t77.resolve_left (by omega)).2
        clear t77
        refine lv_aload_n hx hb dX10_monthsTold_121 rfl (lv_at hl 0 rfl) ?_
        obtain ⟨t_7, v_t_7, h_t_7⟩ : ∃ q v : Nat, ∀ (A : Nat → Prop) (U : State) (H : Heap), Z A U H → vk_R RX10 198 "last" q U ∧ Tx [108, 97, 115, 116] q v A U H := ztx_34 zo
        obtain ⟨b_t_7, eb_t_7⟩ : ∃ b : List Int32, b = [108, 97, 115, 116] := ⟨_, rfl⟩
        have nb_t_7 : Asc b_t_7 := by rw [eb_t_7]; exact ⟨by decide, by decide +kernel⟩
        have tx_t_7 : ∀ (A : Nat → Prop) (U : State) (H : Heap), Z A U H → Tx b_t_7 t_7 v_t_7 A U H := fun A U H h => by rw [eb_t_7]; exact (h_t_7 A U H h).2
        have wok_t_7 : WOK b_t_7 := by rw [eb_t_7]; unfold WOK; decide +kernel
        have eb_t_7 : b_t_7 = wLast := by rw [eb_t_7]; rfl
        refine va_ldcS hx hb hown (h_t_7 _ _ _ hZ).1 dX10_monthsTold_122 ?_
        refine q_call_i hA hK hw (va_runV (As := [.ref t_7]) (rest := []) ⟨hx, hb, hml, hown, hts⟩ (c_X10_isWord_p zo l D cy L0 f0 a0 t_7 b_t_7 v_t_7 nb_t_7 tx_t_7 ad hs wok_t_7 Tt nn n0 n1 (by omega) (by first | exact hT | exact fun i q0 q1 => (congrFun Q8 i).trans (hT i q0 q1)) bT _ _ ps (by omega) (by omega) _) (cwV 1 hts (gT (inV (mr20 _ (List.mem_of_getElem? (i := 3) rfl)) (mr20 _ (List.mem_of_getElem? (i := 4) rfl)) (mr20 _ (List.mem_of_getElem? (i := 5) rfl)) (mr1 _ (List.mem_of_getElem? (i := 5) rfl)) (mr20 _ (List.mem_of_getElem? (i := 6) rfl)))) rfl rfl rfl (by decide +kernel) ⟨Nat.le_of_ble_eq_true rfl, Nat.le_of_ble_eq_true rfl⟩) (Wd.preV zo hA hZ hw hK hs.1 hs.2.1 rfl) rfl rfl hl.1 rfl (lv_room (Nat.le_of_ble_eq_true rfl)) dX10_monthsTold_124 ⟨Nat.le_of_ble_eq_true rfl, Nat.le_of_ble_eq_true rfl⟩) (fun x_8 L1 f1 H locs lx_8 ux_8 ex_8 hw => ?_)
        obtain ⟨rfl, rfl, ex_8⟩ := ex_8
        have t124 := ex_8
        rw [eb_t_7] at t124
        clear ex_8
        refine q_if_eq (tgt := 156) hx hb dX10_monthsTold_127 (by decide) ⟨lx_8, ux_8⟩ (fun c127 => ?_) (fun c127 => ?_)
        · have n124 : NWq (FF) (wS Tt nn (ee) wLast) := (t124.resolve_left (by omega)).2
          clear t124
          refine lv_aload_n hx hb dX10_monthsTold_156 rfl (lv_at hl 0 rfl) ?_
          refine q_iconst hx hb dX10_monthsTold_157 ?_
          refine q_call_v hA hK hw (va_runV (As := [.int (iI 1)]) (rest := []) ⟨hx, hb, hml, hown, hts⟩ (c_X10_wrong zo l D cy L0 f0 a0 1 (by decide) (by decide) ad hs (by omega) (by omega) (by omega) (by omega) _) (cwV 1 hts (gT (inV (mr20 _ (List.mem_of_getElem? (i := 12) rfl)) (mr20 _ (List.mem_of_getElem? (i := 13) rfl)) (mr20 _ (List.mem_of_getElem? (i := 14) rfl)) (mr1 _ (List.mem_of_getElem? (i := 5) rfl)) (mr20 _ (List.mem_of_getElem? (i := 15) rfl)))) rfl rfl rfl (by decide +kernel) ⟨Nat.le_of_ble_eq_true rfl, Nat.le_of_ble_eq_true rfl⟩) (Wd.preV zo hA hZ hw hK hs.1 hs.2.1 rfl) rfl rfl hl.1 rfl (lv_room (Nat.le_of_ble_eq_true rfl)) dX10_monthsTold_158 ⟨Nat.le_of_ble_eq_true rfl, Nat.le_of_ble_eq_true rfl⟩) (fun L1 f_10 H locs ex_9 hw => ?_)
          obtain ⟨rfl, hs, hX, ex_9⟩ := ex_9
          have hE := hE.trans (hX.mono (rs' := [21]) (fs' := [15, 16, 17, 18, 19, 20]) (by decide) (by decide))
          have t14_f_10 : fI f_10 a0 14 = fI f0 a0 14 := hX.2 14 (by decide)
          have t15_f_10 : fI f_10 a0 15 = fI f0 a0 15 := hX.2 15 (by decide)
          have t16_f_10 : fI f_10 a0 16 = fI f0 a0 16 := hX.2 16 (by decide)
          have t17_f_10 : fI f_10 a0 17 = fI f0 a0 17 := hX.2 17 (by decide)
          have t19_f_10 : fI f_10 a0 19 = fI f0 a0 19 := hX.2 19 (by decide)
          have c21_0_f_10 : aI f_10 (ad 21) 0 = aI f0 (ad 21) 0 := hX.1 21 rfl (by decide) _
          have c21_1_f_10 : aI f_10 (ad 21) 1 = aI f0 (ad 21) 1 := hX.1 21 rfl (by decide) _
          have c21_2_f_10 : aI f_10 (ad 21) 2 = aI f0 (ad 21) 2 := hX.1 21 rfl (by decide) _
          have c21_5_f_10 : aI f_10 (ad 21) 5 = aI f0 (ad 21) 5 := hX.1 21 rfl (by decide) _
          have c21_8_f_10 : aI f_10 (ad 21) 8 = aI f0 (ad 21) 8 := hX.1 21 rfl (by decide) _
          have c21_9_f_10 : aI f_10 (ad 21) 9 = aI f0 (ad 21) 9 := hX.1 21 rfl (by decide) _
          have c21_3_f_10 : aI f_10 (ad 21) 3 = aI f0 (ad 21) 3 := hX.1 21 rfl (by decide) _
          have c21_4_f_10 : aI f_10 (ad 21) 4 = aI f0 (ad 21) 4 := hX.1 21 rfl (by decide) _
          have c21_6_f_10 : aI f_10 (ad 21) 6 = aI f0 (ad 21) 6 := hX.1 21 rfl (by decide) _
          have c21_7_f_10 : aI f_10 (ad 21) 7 = aI f0 (ad 21) 7 := hX.1 21 rfl (by decide) _
          have Q8 : aI f_10 (ad 8) = aI f0 (ad 8) := funext fun x => hE.1 8 rfl (by decide) x
          have t158 := ex_9
          clear ex_9
          have m9 := mo_no (n3.z zF) (n40.z zF) (n77.z zF) (n124.z zF)
          have m8 := wS_p e0 e1 (n124.z zF)
          have ps9 := ps.wrong (x := wS Tt nn ee wLast) (e' := moE Tt nn ee) e0 e1 t158 (by omega) (by omega) (by omega) (fun _ => m8)
          clear t158
          rw [sq_0 zF, ← m9] at ps9
          have fin : PSr Tt nn f_10 a0 (moF Tt nn ee) (moE Tt nn ee) ∧ RQ3 (moF Tt nn ee) f_10 (ad 21) (moK Tt nn ee) (rfV (moK Tt nn ee) (moV Tt nn ee) (moW Tt nn ee)) (rfW (moK Tt nn ee) (moW Tt nn ee)) := ⟨ps9, fun z => absurd z (by omega)⟩
          exact q_ret_v hx hb hr hlocks hK hAe hw (Nat.le_of_ble_eq_true rfl) (Nat.le_of_ble_eq_true rfl) dX10_monthsTold_161 (by exact ⟨rfl, hs, hE, fin.1, fin.2, by omega, by omega, by omega, by omega, by omega, by omega, by omega⟩)
        · obtain ⟨i124, z124, w124⟩ := t124.resolve_right (by omega)
          clear t124
          refine lv_aload_n hx hb dX10_monthsTold_130 rfl (lv_at hl 0 rfl) ?_
          refine q_call_v hA hK hw (va_runV (As := []) (rest := []) ⟨hx, hb, hml, hown, hts⟩ (c_X10_next_p zo l D cy L0 f0 a0 ad hs Tt nn n0 n1 (by omega) (by first | exact hT | exact fun i q0 q1 => (congrFun Q8 i).trans (hT i q0 q1)) bT (by omega) (by omega) _) (cwV 0 hts (gT (inV (mr19 _ (List.mem_of_getElem? (i := 4) rfl)) (mr19 _ (List.mem_of_getElem? (i := 5) rfl)) (mr19 _ (List.mem_of_getElem? (i := 6) rfl)) (mr1 _ (List.mem_of_getElem? (i := 5) rfl)) (mr19 _ (List.mem_of_getElem? (i := 7) rfl)))) rfl rfl rfl (by decide +kernel) ⟨Nat.le_of_ble_eq_true rfl, Nat.le_of_ble_eq_true rfl⟩) (Wd.preV zo hA hZ hw hK hs.1 hs.2.1 rfl) rfl rfl hl.1 rfl (lv_room (Nat.le_of_ble_eq_true rfl)) dX10_monthsTold_131 ⟨Nat.le_of_ble_eq_true rfl, Nat.le_of_ble_eq_true rfl⟩) (fun L1 f_12 H locs ex_11 hw => ?_)
          obtain ⟨rfl, hs, hX, ex_11⟩ := ex_11
          have hE := hE.trans (hX.mono (rs' := [21]) (fs' := [15, 16, 17, 18, 19, 20]) (by decide) (by decide))
          have t14_f_12 : fI f_12 a0 14 = fI f0 a0 14 := hX.2 14 (by decide)
          have t20_f_12 : fI f_12 a0 20 = fI f0 a0 20 := hX.2 20 (by decide)
          have c21_0_f_12 : aI f_12 (ad 21) 0 = aI f0 (ad 21) 0 := hX.1 21 rfl (by decide) _
          have c21_1_f_12 : aI f_12 (ad 21) 1 = aI f0 (ad 21) 1 := hX.1 21 rfl (by decide) _
          have c21_2_f_12 : aI f_12 (ad 21) 2 = aI f0 (ad 21) 2 := hX.1 21 rfl (by decide) _
          have c21_5_f_12 : aI f_12 (ad 21) 5 = aI f0 (ad 21) 5 := hX.1 21 rfl (by decide) _
          have c21_8_f_12 : aI f_12 (ad 21) 8 = aI f0 (ad 21) 8 := hX.1 21 rfl (by decide) _
          have c21_9_f_12 : aI f_12 (ad 21) 9 = aI f0 (ad 21) 9 := hX.1 21 rfl (by decide) _
          have c21_3_f_12 : aI f_12 (ad 21) 3 = aI f0 (ad 21) 3 := hX.1 21 rfl (by decide) _
          have c21_4_f_12 : aI f_12 (ad 21) 4 = aI f0 (ad 21) 4 := hX.1 21 rfl (by decide) _
          have c21_6_f_12 : aI f_12 (ad 21) 6 = aI f0 (ad 21) 6 := hX.1 21 rfl (by decide) _
          have c21_7_f_12 : aI f_12 (ad 21) 7 = aI f0 (ad 21) 7 := hX.1 21 rfl (by decide) _
          have Q8 : aI f_12 (ad 8) = aI f0 (ad 8) := funext fun x => hE.1 8 rfl (by decide) x
          have ps := ps.nxt (fun z => iw_16 ps z ((wS_iff e0 e1).mp w124)) ex_11 (by omega) n1
          clear ex_11
          refine lv_aload_n hx hb dX10_monthsTold_134 rfl (lv_at hl 0 rfl) ?_
          refine q_getr (ci := 8) (C := RX10) (T := TX10) (N := 26) hx hb hts (fun w h => List.mem_cons_of_mem _ (mfX100 w h)) hown hK hw hs.1 hs.2.1 rfl 21 (by decide) (hts _ (List.mem_cons_of_mem _ (mr3 _ (List.mem_of_getElem? (i := 22) rfl)))) (fun _ h => h) rfl (hs.2.2.1 21 rfl).1 dX10_monthsTold_135 ?_
          refine q_iconst hx hb dX10_monthsTold_138 ?_
          refine q_bipush hx hb dX10_monthsTold_139 rfl ?_
          refine q_iast hx hb hK hw (hs.2.2.1 21 rfl).2.1 1 (hs.2.2.1 21 rfl).2.2 rfl ⟨by decide, by decide⟩ (by omega) (by show _ < ((44 : Nat) : Int); omega) dX10_monthsTold_141 (fun H locs hw => ?_)
          obtain ⟨f_13, ef_13⟩ : ∃ g : Nat → va_E, g = aU f_12 (ad 21) 3 (iI 6) := ⟨_, rfl⟩
          have t14_f_13 : fI f_13 a0 14 = fI f_12 a0 14 := by rw [ef_13]; exact hs.fI_aU rfl _ _
          have t15_f_13 : fI f_13 a0 15 = fI f_12 a0 15 := by rw [ef_13]; exact hs.fI_aU rfl _ _
          have t16_f_13 : fI f_13 a0 16 = fI f_12 a0 16 := by rw [ef_13]; exact hs.fI_aU rfl _ _
          have t17_f_13 : fI f_13 a0 17 = fI f_12 a0 17 := by rw [ef_13]; exact hs.fI_aU rfl _ _
          have t19_f_13 : fI f_13 a0 19 = fI f_12 a0 19 := by rw [ef_13]; exact hs.fI_aU rfl _ _
          have t20_f_13 : fI f_13 a0 20 = fI f_12 a0 20 := by rw [ef_13]; exact hs.fI_aU rfl _ _
          have hE := hE.trans (show Kp a0 ad [21] [15, 16, 17, 18, 19, 20] f_12 f_13 by rw [ef_13]; exact Kp_aU hs rfl (by decide))
          have hs_ := hs
          have hs : MS cy L0 f_13 a0 ad := by rw [ef_13]; exact MS_aU hs rfl
          rw [← ef_13] at hw
          have ps := ps.aU (hs_.2.2.1 21 rfl).2.2 ef_13
          have Q8 : aI f_13 (ad 8) = aI f0 (ad 8) := funext fun x => hE.1 8 rfl (by decide) x
          have c21_0_f_13 : aI f_13 (ad 21) 0 = aI f_12 (ad 21) 0 := by rw [ef_13]; exact hs_.aI_nj rfl (by decide) (by decide) (by decide)
          have c21_1_f_13 : aI f_13 (ad 21) 1 = aI f_12 (ad 21) 1 := by rw [ef_13]; exact hs_.aI_nj rfl (by decide) (by decide) (by decide)
          have c21_2_f_13 : aI f_13 (ad 21) 2 = aI f_12 (ad 21) 2 := by rw [ef_13]; exact hs_.aI_nj rfl (by decide) (by decide) (by decide)
          have c21_5_f_13 : aI f_13 (ad 21) 5 = aI f_12 (ad 21) 5 := by rw [ef_13]; exact hs_.aI_nj rfl (by decide) (by decide) (by decide)
          have c21_8_f_13 : aI f_13 (ad 21) 8 = aI f_12 (ad 21) 8 := by rw [ef_13]; exact hs_.aI_nj rfl (by decide) (by decide) (by decide)
          have c21_9_f_13 : aI f_13 (ad 21) 9 = aI f_12 (ad 21) 9 := by rw [ef_13]; exact hs_.aI_nj rfl (by decide) (by decide) (by decide)
          have c21_3_f_13 : aI f_13 (ad 21) 3 = 6 := by rw [ef_13]; exact hs_.aI_self rfl ⟨by decide, by decide⟩
          have c21_4_f_13 : aI f_13 (ad 21) 4 = aI f_12 (ad 21) 4 := by rw [ef_13]; exact hs_.aI_nj rfl (by decide) (by decide) (by decide)
          have c21_6_f_13 : aI f_13 (ad 21) 6 = aI f_12 (ad 21) 6 := by rw [ef_13]; exact hs_.aI_nj rfl (by decide) (by decide) (by decide)
          have c21_7_f_13 : aI f_13 (ad 21) 7 = aI f_12 (ad 21) 7 := by rw [ef_13]; exact hs_.aI_nj rfl (by decide) (by decide) (by decide)
          refine lv_aload_n hx hb dX10_monthsTold_142 rfl (lv_at hl 0 rfl) ?_
          refine q_getr (ci := 8) (C := RX10) (T := TX10) (N := 26) hx hb hts (fun w h => List.mem_cons_of_mem _ (mfX100 w h)) hown hK hw hs.1 hs.2.1 rfl 21 (by decide) (hts _ (List.mem_cons_of_mem _ (mr3 _ (List.mem_of_getElem? (i := 22) rfl)))) (fun _ h => h) rfl (hs.2.2.1 21 rfl).1 dX10_monthsTold_143 ?_
          refine q_bipush hx hb dX10_monthsTold_146 rfl ?_
          refine lv_aload_n hx hb dX10_monthsTold_148 rfl (lv_at hl 0 rfl) ?_
          refine q_call_i hA hK hw (va_runV (As := []) (rest := [.int (iI 6), .ref (ad 21)]) ⟨hx, hb, hml, hown, hts⟩ (c_X10_weekdayTold_p zo l D cy L0 f_13 a0 ad hs Tt nn n0 n1 (by omega) (by first | exact hT | exact fun i q0 q1 => (congrFun Q8 i).trans (hT i q0 q1)) bT _ _ ps (by omega) (by omega) _) (cwV 0 hts (gT (inV (mr21 _ (List.mem_of_getElem? (i := 12) rfl)) (mr21 _ (List.mem_of_getElem? (i := 13) rfl)) (mr21 _ (List.mem_of_getElem? (i := 14) rfl)) (mr1 _ (List.mem_of_getElem? (i := 5) rfl)) (mr21 _ (List.mem_of_getElem? (i := 15) rfl)))) rfl rfl rfl (by decide +kernel) ⟨Nat.le_of_ble_eq_true rfl, Nat.le_of_ble_eq_true rfl⟩) (Wd.preV zo hA hZ hw hK hs.1 hs.2.1 rfl) rfl rfl hl.1 rfl (lv_room (Nat.le_of_ble_eq_true rfl)) dX10_monthsTold_149 ⟨Nat.le_of_ble_eq_true rfl, Nat.le_of_ble_eq_true rfl⟩) (fun x_14 L1 f_15 H locs lx_14 ux_14 ex_14 hw => ?_)
          obtain ⟨rfl, hs, hX, ex_14⟩ := ex_14
          have hE := hE.trans (hX.mono (rs' := [21]) (fs' := [15, 16, 17, 18, 19, 20]) (by decide) (by decide))
          have t14_f_15 : fI f_15 a0 14 = fI f_13 a0 14 := hX.2 14 (by decide)
          have c21_0_f_15 : aI f_15 (ad 21) 0 = aI f_13 (ad 21) 0 := hX.1 21 rfl (by decide) _
          have c21_1_f_15 : aI f_15 (ad 21) 1 = aI f_13 (ad 21) 1 := hX.1 21 rfl (by decide) _
          have c21_2_f_15 : aI f_15 (ad 21) 2 = aI f_13 (ad 21) 2 := hX.1 21 rfl (by decide) _
          have c21_5_f_15 : aI f_15 (ad 21) 5 = aI f_13 (ad 21) 5 := hX.1 21 rfl (by decide) _
          have c21_8_f_15 : aI f_15 (ad 21) 8 = aI f_13 (ad 21) 8 := hX.1 21 rfl (by decide) _
          have c21_9_f_15 : aI f_15 (ad 21) 9 = aI f_13 (ad 21) 9 := hX.1 21 rfl (by decide) _
          have c21_3_f_15 : aI f_15 (ad 21) 3 = aI f_13 (ad 21) 3 := hX.1 21 rfl (by decide) _
          have c21_4_f_15 : aI f_15 (ad 21) 4 = aI f_13 (ad 21) 4 := hX.1 21 rfl (by decide) _
          have c21_6_f_15 : aI f_15 (ad 21) 6 = aI f_13 (ad 21) 6 := hX.1 21 rfl (by decide) _
          have c21_7_f_15 : aI f_15 (ad 21) 7 = aI f_13 (ad 21) 7 := hX.1 21 rfl (by decide) _
          have Q8 : aI f_15 (ad 8) = aI f0 (ad 8) := funext fun x => hE.1 8 rfl (by decide) x
          obtain ⟨ps, v149, u149, r149⟩ := ex_14
          rw [sq_0 zF] at ps v149
          refine q_iast hx hb hK hw (hs.2.2.1 21 rfl).2.1 1 (hs.2.2.1 21 rfl).2.2 rfl ⟨by decide, by decide⟩ (by omega) (by show _ < ((44 : Nat) : Int); omega) dX10_monthsTold_152 (fun H locs hw => ?_)
          obtain ⟨f_16, ef_16⟩ : ∃ g : Nat → va_E, g = aU f_15 (ad 21) 6 (iI x_14) := ⟨_, rfl⟩
          have t14_f_16 : fI f_16 a0 14 = fI f_15 a0 14 := by rw [ef_16]; exact hs.fI_aU rfl _ _
          have t15_f_16 : fI f_16 a0 15 = fI f_15 a0 15 := by rw [ef_16]; exact hs.fI_aU rfl _ _
          have t16_f_16 : fI f_16 a0 16 = fI f_15 a0 16 := by rw [ef_16]; exact hs.fI_aU rfl _ _
          have t17_f_16 : fI f_16 a0 17 = fI f_15 a0 17 := by rw [ef_16]; exact hs.fI_aU rfl _ _
          have t19_f_16 : fI f_16 a0 19 = fI f_15 a0 19 := by rw [ef_16]; exact hs.fI_aU rfl _ _
          have t20_f_16 : fI f_16 a0 20 = fI f_15 a0 20 := by rw [ef_16]; exact hs.fI_aU rfl _ _
          have hE := hE.trans (show Kp a0 ad [21] [15, 16, 17, 18, 19, 20] f_15 f_16 by rw [ef_16]; exact Kp_aU hs rfl (by decide))
          have hs_ := hs
          have hs : MS cy L0 f_16 a0 ad := by rw [ef_16]; exact MS_aU hs rfl
          rw [← ef_16] at hw
          have ps := ps.aU (hs_.2.2.1 21 rfl).2.2 ef_16
          have Q8 : aI f_16 (ad 8) = aI f0 (ad 8) := funext fun x => hE.1 8 rfl (by decide) x
          have c21_0_f_16 : aI f_16 (ad 21) 0 = aI f_15 (ad 21) 0 := by rw [ef_16]; exact hs_.aI_nj rfl (by decide) (by decide) (by decide)
          have c21_1_f_16 : aI f_16 (ad 21) 1 = aI f_15 (ad 21) 1 := by rw [ef_16]; exact hs_.aI_nj rfl (by decide) (by decide) (by decide)
          have c21_2_f_16 : aI f_16 (ad 21) 2 = aI f_15 (ad 21) 2 := by rw [ef_16]; exact hs_.aI_nj rfl (by decide) (by decide) (by decide)
          have c21_5_f_16 : aI f_16 (ad 21) 5 = aI f_15 (ad 21) 5 := by rw [ef_16]; exact hs_.aI_nj rfl (by decide) (by decide) (by decide)
          have c21_8_f_16 : aI f_16 (ad 21) 8 = aI f_15 (ad 21) 8 := by rw [ef_16]; exact hs_.aI_nj rfl (by decide) (by decide) (by decide)
          have c21_9_f_16 : aI f_16 (ad 21) 9 = aI f_15 (ad 21) 9 := by rw [ef_16]; exact hs_.aI_nj rfl (by decide) (by decide) (by decide)
          have c21_3_f_16 : aI f_16 (ad 21) 3 = aI f_15 (ad 21) 3 := by rw [ef_16]; exact hs_.aI_nj rfl (by decide) (by decide) (by decide)
          have c21_4_f_16 : aI f_16 (ad 21) 4 = aI f_15 (ad 21) 4 := by rw [ef_16]; exact hs_.aI_nj rfl (by decide) (by decide) (by decide)
          have c21_6_f_16 : aI f_16 (ad 21) 6 = x_14 := by rw [ef_16]; exact hs_.aI_self rfl ⟨lx_14, ux_14⟩
          have c21_7_f_16 : aI f_16 (ad 21) 7 = aI f_15 (ad 21) 7 := by rw [ef_16]; exact hs_.aI_nj rfl (by decide) (by decide) (by decide)
          have m9 := mo_last' (n3.z zF) (n40.z zF) (n77.z zF) w124
          have fin : PSr Tt nn f_16 a0 (moF Tt nn ee) (moE Tt nn ee) ∧ RQ3 (moF Tt nn ee) f_16 (ad 21) (moK Tt nn ee) (rfV (moK Tt nn ee) (moV Tt nn ee) (moW Tt nn ee)) (rfW (moK Tt nn ee) (moW Tt nn ee)) := ⟨ps.to m9.1 m9.2.2.2.2, fun z => by have y := v149 (m9.1.symm.trans z); rw [rf_v6 m9.2.1, rf_w (by omega)]; exact ⟨by omega, Eq.trans (by omega) m9.2.2.2.1.symm, by omega⟩⟩
          refine lv_goto (tgt := 161) hx hb dX10_monthsTold_153 (by decide) ?_
          exact q_ret_v hx hb hr hlocks hK hAe hw (Nat.le_of_ble_eq_true rfl) (Nat.le_of_ble_eq_true rfl) dX10_monthsTold_161 (by exact ⟨rfl, hs, hE, fin.1, fin.2, by omega, by omega, by omega, by omega, by omega, by omega, by omega⟩)
      · obtain ⟨i77, z77, w77⟩ := t77.resolve_right (by omega)
        clear t77
        refine lv_aload_n hx hb dX10_monthsTold_83 rfl (lv_at hl 0 rfl) ?_
        refine q_call_v hA hK hw (va_runV (As := []) (rest := []) ⟨hx, hb, hml, hown, hts⟩ (c_X10_next_p zo l D cy L0 f0 a0 ad hs Tt nn n0 n1 (by omega) (by first | exact hT | exact fun i q0 q1 => (congrFun Q8 i).trans (hT i q0 q1)) bT (by omega) (by omega) _) (cwV 0 hts (gT (inV (mr19 _ (List.mem_of_getElem? (i := 4) rfl)) (mr19 _ (List.mem_of_getElem? (i := 5) rfl)) (mr19 _ (List.mem_of_getElem? (i := 6) rfl)) (mr1 _ (List.mem_of_getElem? (i := 5) rfl)) (mr19 _ (List.mem_of_getElem? (i := 7) rfl)))) rfl rfl rfl (by decide +kernel) ⟨Nat.le_of_ble_eq_true rfl, Nat.le_of_ble_eq_true rfl⟩) (Wd.preV zo hA hZ hw hK hs.1 hs.2.1 rfl) rfl rfl hl.1 rfl (lv_room (Nat.le_of_ble_eq_true rfl)) dX10_monthsTold_84 ⟨Nat.le_of_ble_eq_true rfl, Nat.le_of_ble_eq_true rfl⟩) (fun L1 f_18 H locs ex_17 hw => ?_)
        obtain ⟨rfl, hs, hX, ex_17⟩ := ex_17
        have hE := hE.trans (hX.mono (rs' := [21]) (fs' := [15, 16, 17, 18, 19, 20]) (by decide) (by decide))
        have t14_f_18 : fI f_18 a0 14 = fI f0 a0 14 := hX.2 14 (by decide)
        have t20_f_18 : fI f_18 a0 20 = fI f0 a0 20 := hX.2 20 (by decide)
        have c21_0_f_18 : aI f_18 (ad 21) 0 = aI f0 (ad 21) 0 := hX.1 21 rfl (by decide) _
        have c21_1_f_18 : aI f_18 (ad 21) 1 = aI f0 (ad 21) 1 := hX.1 21 rfl (by decide) _
        have c21_2_f_18 : aI f_18 (ad 21) 2 = aI f0 (ad 21) 2 := hX.1 21 rfl (by decide) _
        have c21_5_f_18 : aI f_18 (ad 21) 5 = aI f0 (ad 21) 5 := hX.1 21 rfl (by decide) _
        have c21_8_f_18 : aI f_18 (ad 21) 8 = aI f0 (ad 21) 8 := hX.1 21 rfl (by decide) _
        have c21_9_f_18 : aI f_18 (ad 21) 9 = aI f0 (ad 21) 9 := hX.1 21 rfl (by decide) _
        have c21_3_f_18 : aI f_18 (ad 21) 3 = aI f0 (ad 21) 3 := hX.1 21 rfl (by decide) _
        have c21_4_f_18 : aI f_18 (ad 21) 4 = aI f0 (ad 21) 4 := hX.1 21 rfl (by decide) _
        have c21_6_f_18 : aI f_18 (ad 21) 6 = aI f0 (ad 21) 6 := hX.1 21 rfl (by decide) _
        have c21_7_f_18 : aI f_18 (ad 21) 7 = aI f0 (ad 21) 7 := hX.1 21 rfl (by decide) _
        have Q8 : aI f_18 (ad 8) = aI f0 (ad 8) := funext fun x => hE.1 8 rfl (by decide) x
        have ps := ps.nxt (fun z => iw_16 ps z ((wS_iff e0 e1).mp w77)) ex_17 (by omega) n1
        clear ex_17
        refine lv_aload_n hx hb dX10_monthsTold_87 rfl (lv_at hl 0 rfl) ?_
        refine q_getr (ci := 8) (C := RX10) (T := TX10) (N := 26) hx hb hts (fun w h => List.mem_cons_of_mem _ (mfX100 w h)) hown hK hw hs.1 hs.2.1 rfl 21 (by decide) (hts _ (List.mem_cons_of_mem _ (mr3 _ (List.mem_of_getElem? (i := 22) rfl)))) (fun _ h => h) rfl (hs.2.2.1 21 rfl).1 dX10_monthsTold_88 ?_
        refine q_iconst hx hb dX10_monthsTold_91 ?_
        refine q_iconst hx hb dX10_monthsTold_92 ?_
        refine q_iast hx hb hK hw (hs.2.2.1 21 rfl).2.1 1 (hs.2.2.1 21 rfl).2.2 rfl ⟨by decide, by decide⟩ (by omega) (by show _ < ((44 : Nat) : Int); omega) dX10_monthsTold_93 (fun H locs hw => ?_)
        obtain ⟨f_19, ef_19⟩ : ∃ g : Nat → va_E, g = aU f_18 (ad 21) 3 (iI 5) := ⟨_, rfl⟩
        have t14_f_19 : fI f_19 a0 14 = fI f_18 a0 14 := by rw [ef_19]; exact hs.fI_aU rfl _ _
        have t15_f_19 : fI f_19 a0 15 = fI f_18 a0 15 := by rw [ef_19]; exact hs.fI_aU rfl _ _
        have t16_f_19 : fI f_19 a0 16 = fI f_18 a0 16 := by rw [ef_19]; exact hs.fI_aU rfl _ _
        have t17_f_19 : fI f_19 a0 17 = fI f_18 a0 17 := by rw [ef_19]; exact hs.fI_aU rfl _ _
        have t19_f_19 : fI f_19 a0 19 = fI f_18 a0 19 := by rw [ef_19]; exact hs.fI_aU rfl _ _
        have t20_f_19 : fI f_19 a0 20 = fI f_18 a0 20 := by rw [ef_19]; exact hs.fI_aU rfl _ _
        have hE := hE.trans (show Kp a0 ad [21] [15, 16, 17, 18, 19, 20] f_18 f_19 by rw [ef_19]; exact Kp_aU hs rfl (by decide))
        have hs_ := hs
        have hs : MS cy L0 f_19 a0 ad := by rw [ef_19]; exact MS_aU hs rfl
        rw [← ef_19] at hw
        have ps := ps.aU (hs_.2.2.1 21 rfl).2.2 ef_19
        have Q8 : aI f_19 (ad 8) = aI f0 (ad 8) := funext fun x => hE.1 8 rfl (by decide) x
        have c21_0_f_19 : aI f_19 (ad 21) 0 = aI f_18 (ad 21) 0 := by rw [ef_19]; exact hs_.aI_nj rfl (by decide) (by decide) (by decide)
        have c21_1_f_19 : aI f_19 (ad 21) 1 = aI f_18 (ad 21) 1 := by rw [ef_19]; exact hs_.aI_nj rfl (by decide) (by decide) (by decide)
        have c21_2_f_19 : aI f_19 (ad 21) 2 = aI f_18 (ad 21) 2 := by rw [ef_19]; exact hs_.aI_nj rfl (by decide) (by decide) (by decide)
        have c21_5_f_19 : aI f_19 (ad 21) 5 = aI f_18 (ad 21) 5 := by rw [ef_19]; exact hs_.aI_nj rfl (by decide) (by decide) (by decide)
        have c21_8_f_19 : aI f_19 (ad 21) 8 = aI f_18 (ad 21) 8 := by rw [ef_19]; exact hs_.aI_nj rfl (by decide) (by decide) (by decide)
        have c21_9_f_19 : aI f_19 (ad 21) 9 = aI f_18 (ad 21) 9 := by rw [ef_19]; exact hs_.aI_nj rfl (by decide) (by decide) (by decide)
        have c21_3_f_19 : aI f_19 (ad 21) 3 = 5 := by rw [ef_19]; exact hs_.aI_self rfl ⟨by decide, by decide⟩
        have c21_4_f_19 : aI f_19 (ad 21) 4 = aI f_18 (ad 21) 4 := by rw [ef_19]; exact hs_.aI_nj rfl (by decide) (by decide) (by decide)
        have c21_6_f_19 : aI f_19 (ad 21) 6 = aI f_18 (ad 21) 6 := by rw [ef_19]; exact hs_.aI_nj rfl (by decide) (by decide) (by decide)
        have c21_7_f_19 : aI f_19 (ad 21) 7 = aI f_18 (ad 21) 7 := by rw [ef_19]; exact hs_.aI_nj rfl (by decide) (by decide) (by decide)
        refine lv_aload_n hx hb dX10_monthsTold_94 rfl (lv_at hl 0 rfl) ?_
        refine q_getr (ci := 8) (C := RX10) (T := TX10) (N := 26) hx hb hts (fun w h => List.mem_cons_of_mem _ (mfX100 w h)) hown hK hw hs.1 hs.2.1 rfl 21 (by decide) (hts _ (List.mem_cons_of_mem _ (mr3 _ (List.mem_of_getElem? (i := 22) rfl)))) (fun _ h => h) rfl (hs.2.2.1 21 rfl).1 dX10_monthsTold_95 ?_
        refine q_bipush hx hb dX10_monthsTold_98 rfl ?_
        refine lv_aload_n hx hb dX10_monthsTold_100 rfl (lv_at hl 0 rfl) ?_
        refine q_iconst hx hb dX10_monthsTold_101 ?_
        refine q_iconst hx hb dX10_monthsTold_102 ?_
        refine q_call_i hA hK hw (va_runV (As := [.int (iI 1), .int (iI 5)]) (rest := [.int (iI 6), .ref (ad 21)]) ⟨hx, hb, hml, hown, hts⟩ (c_X10_numberTold_p zo l D cy L0 f_19 a0 1 (by decide) (by decide) 5 (by decide) (by decide) ad hs Tt nn n0 n1 (by omega) (by first | exact hT | exact fun i q0 q1 => (congrFun Q8 i).trans (hT i q0 q1)) bT _ _ ps (by omega) (by omega) _) (cwV 2 hts (gT (inV (mr20 _ (List.mem_of_getElem? (i := 16) rfl)) (mr20 _ (List.mem_of_getElem? (i := 17) rfl)) (mr20 _ (List.mem_of_getElem? (i := 18) rfl)) (mr1 _ (List.mem_of_getElem? (i := 5) rfl)) (mr20 _ (List.mem_of_getElem? (i := 19) rfl)))) rfl rfl rfl (by decide +kernel) ⟨Nat.le_of_ble_eq_true rfl, Nat.le_of_ble_eq_true rfl⟩) (Wd.preV zo hA hZ hw hK hs.1 hs.2.1 rfl) rfl rfl hl.1 rfl (lv_room (Nat.le_of_ble_eq_true rfl)) dX10_monthsTold_103 ⟨Nat.le_of_ble_eq_true rfl, Nat.le_of_ble_eq_true rfl⟩) (fun x_20 L1 f_21 H locs lx_20 ux_20 ex_20 hw => ?_)
        obtain ⟨rfl, hs, hX, ex_20⟩ := ex_20
        have hE := hE.trans (hX.mono (rs' := [21]) (fs' := [15, 16, 17, 18, 19, 20]) (by decide) (by decide))
        have t14_f_21 : fI f_21 a0 14 = fI f_19 a0 14 := hX.2 14 (by decide)
        have c21_0_f_21 : aI f_21 (ad 21) 0 = aI f_19 (ad 21) 0 := hX.1 21 rfl (by decide) _
        have c21_1_f_21 : aI f_21 (ad 21) 1 = aI f_19 (ad 21) 1 := hX.1 21 rfl (by decide) _
        have c21_2_f_21 : aI f_21 (ad 21) 2 = aI f_19 (ad 21) 2 := hX.1 21 rfl (by decide) _
        have c21_5_f_21 : aI f_21 (ad 21) 5 = aI f_19 (ad 21) 5 := hX.1 21 rfl (by decide) _
        have c21_8_f_21 : aI f_21 (ad 21) 8 = aI f_19 (ad 21) 8 := hX.1 21 rfl (by decide) _
        have c21_9_f_21 : aI f_21 (ad 21) 9 = aI f_19 (ad 21) 9 := hX.1 21 rfl (by decide) _
        have c21_3_f_21 : aI f_21 (ad 21) 3 = aI f_19 (ad 21) 3 := hX.1 21 rfl (by decide) _
        have c21_4_f_21 : aI f_21 (ad 21) 4 = aI f_19 (ad 21) 4 := hX.1 21 rfl (by decide) _
        have c21_6_f_21 : aI f_21 (ad 21) 6 = aI f_19 (ad 21) 6 := hX.1 21 rfl (by decide) _
        have c21_7_f_21 : aI f_21 (ad 21) 7 = aI f_19 (ad 21) 7 := hX.1 21 rfl (by decide) _
        have Q8 : aI f_21 (ad 8) = aI f0 (ad 8) := funext fun x => hE.1 8 rfl (by decide) x
        obtain ⟨ps, v103⟩ := ex_20
        rw [sq_0 zF] at ps v103
        refine q_iast hx hb hK hw (hs.2.2.1 21 rfl).2.1 1 (hs.2.2.1 21 rfl).2.2 rfl ⟨by decide, by decide⟩ (by omega) (by show _ < ((44 : Nat) : Int); omega) dX10_monthsTold_106 (fun H locs hw => ?_)
        obtain ⟨f_22, ef_22⟩ : ∃ g : Nat → va_E, g = aU f_21 (ad 21) 6 (iI x_20) := ⟨_, rfl⟩
        have t14_f_22 : fI f_22 a0 14 = fI f_21 a0 14 := by rw [ef_22]; exact hs.fI_aU rfl _ _
        have t15_f_22 : fI f_22 a0 15 = fI f_21 a0 15 := by rw [ef_22]; exact hs.fI_aU rfl _ _
        have t16_f_22 : fI f_22 a0 16 = fI f_21 a0 16 := by rw [ef_22]; exact hs.fI_aU rfl _ _
        have t17_f_22 : fI f_22 a0 17 = fI f_21 a0 17 := by rw [ef_22]; exact hs.fI_aU rfl _ _
        have t19_f_22 : fI f_22 a0 19 = fI f_21 a0 19 := by rw [ef_22]; exact hs.fI_aU rfl _ _
        have t20_f_22 : fI f_22 a0 20 = fI f_21 a0 20 := by rw [ef_22]; exact hs.fI_aU rfl _ _
        have hE := hE.trans (show Kp a0 ad [21] [15, 16, 17, 18, 19, 20] f_21 f_22 by rw [ef_22]; exact Kp_aU hs rfl (by decide))
        have hs_ := hs
        have hs : MS cy L0 f_22 a0 ad := by rw [ef_22]; exact MS_aU hs rfl
        rw [← ef_22] at hw
        have ps := ps.aU (hs_.2.2.1 21 rfl).2.2 ef_22
        have Q8 : aI f_22 (ad 8) = aI f0 (ad 8) := funext fun x => hE.1 8 rfl (by decide) x
        have c21_0_f_22 : aI f_22 (ad 21) 0 = aI f_21 (ad 21) 0 := by rw [ef_22]; exact hs_.aI_nj rfl (by decide) (by decide) (by decide)
        have c21_1_f_22 : aI f_22 (ad 21) 1 = aI f_21 (ad 21) 1 := by rw [ef_22]; exact hs_.aI_nj rfl (by decide) (by decide) (by decide)
        have c21_2_f_22 : aI f_22 (ad 21) 2 = aI f_21 (ad 21) 2 := by rw [ef_22]; exact hs_.aI_nj rfl (by decide) (by decide) (by decide)
        have c21_5_f_22 : aI f_22 (ad 21) 5 = aI f_21 (ad 21) 5 := by rw [ef_22]; exact hs_.aI_nj rfl (by decide) (by decide) (by decide)
        have c21_8_f_22 : aI f_22 (ad 21) 8 = aI f_21 (ad 21) 8 := by rw [ef_22]; exact hs_.aI_nj rfl (by decide) (by decide) (by decide)
        have c21_9_f_22 : aI f_22 (ad 21) 9 = aI f_21 (ad 21) 9 := by rw [ef_22]; exact hs_.aI_nj rfl (by decide) (by decide) (by decide)
        have c21_3_f_22 : aI f_22 (ad 21) 3 = aI f_21 (ad 21) 3 := by rw [ef_22]; exact hs_.aI_nj rfl (by decide) (by decide) (by decide)
        have c21_4_f_22 : aI f_22 (ad 21) 4 = aI f_21 (ad 21) 4 := by rw [ef_22]; exact hs_.aI_nj rfl (by decide) (by decide) (by decide)
        have c21_6_f_22 : aI f_22 (ad 21) 6 = x_20 := by rw [ef_22]; exact hs_.aI_self rfl ⟨lx_20, ux_20⟩
        have c21_7_f_22 : aI f_22 (ad 21) 7 = aI f_21 (ad 21) 7 := by rw [ef_22]; exact hs_.aI_nj rfl (by decide) (by decide) (by decide)
        refine lv_aload_n hx hb dX10_monthsTold_107 rfl (lv_at hl 0 rfl) ?_
        refine q_getr (ci := 8) (C := RX10) (T := TX10) (N := 26) hx hb hts (fun w h => List.mem_cons_of_mem _ (mfX100 w h)) hown hK hw hs.1 hs.2.1 rfl 21 (by decide) (hts _ (List.mem_cons_of_mem _ (mr3 _ (List.mem_of_getElem? (i := 22) rfl)))) (fun _ h => h) rfl (hs.2.2.1 21 rfl).1 dX10_monthsTold_108 ?_
        refine q_bipush hx hb dX10_monthsTold_111 rfl ?_
        refine lv_aload_n hx hb dX10_monthsTold_113 rfl (lv_at hl 0 rfl) ?_
        refine q_call_i hA hK hw (va_runV (As := []) (rest := [.int (iI 7), .ref (ad 21)]) ⟨hx, hb, hml, hown, hts⟩ (c_X10_weekdayTold_p zo l D cy L0 f_22 a0 ad hs Tt nn n0 n1 (by omega) (by first | exact hT | exact fun i q0 q1 => (congrFun Q8 i).trans (hT i q0 q1)) bT _ _ ps (by omega) (by omega) _) (cwV 0 hts (gT (inV (mr21 _ (List.mem_of_getElem? (i := 12) rfl)) (mr21 _ (List.mem_of_getElem? (i := 13) rfl)) (mr21 _ (List.mem_of_getElem? (i := 14) rfl)) (mr1 _ (List.mem_of_getElem? (i := 5) rfl)) (mr21 _ (List.mem_of_getElem? (i := 15) rfl)))) rfl rfl rfl (by decide +kernel) ⟨Nat.le_of_ble_eq_true rfl, Nat.le_of_ble_eq_true rfl⟩) (Wd.preV zo hA hZ hw hK hs.1 hs.2.1 rfl) rfl rfl hl.1 rfl (lv_room (Nat.le_of_ble_eq_true rfl)) dX10_monthsTold_114 ⟨Nat.le_of_ble_eq_true rfl, Nat.le_of_ble_eq_true rfl⟩) (fun x_23 L1 f_24 H locs lx_23 ux_23 ex_23 hw => ?_)
        obtain ⟨rfl, hs, hX, ex_23⟩ := ex_23
        have hE := hE.trans (hX.mono (rs' := [21]) (fs' := [15, 16, 17, 18, 19, 20]) (by decide) (by decide))
        have t14_f_24 : fI f_24 a0 14 = fI f_22 a0 14 := hX.2 14 (by decide)
        have c21_0_f_24 : aI f_24 (ad 21) 0 = aI f_22 (ad 21) 0 := hX.1 21 rfl (by decide) _
        have c21_1_f_24 : aI f_24 (ad 21) 1 = aI f_22 (ad 21) 1 := hX.1 21 rfl (by decide) _
        have c21_2_f_24 : aI f_24 (ad 21) 2 = aI f_22 (ad 21) 2 := hX.1 21 rfl (by decide) _
        have c21_5_f_24 : aI f_24 (ad 21) 5 = aI f_22 (ad 21) 5 := hX.1 21 rfl (by decide) _
        have c21_8_f_24 : aI f_24 (ad 21) 8 = aI f_22 (ad 21) 8 := hX.1 21 rfl (by decide) _
        have c21_9_f_24 : aI f_24 (ad 21) 9 = aI f_22 (ad 21) 9 := hX.1 21 rfl (by decide) _
        have c21_3_f_24 : aI f_24 (ad 21) 3 = aI f_22 (ad 21) 3 := hX.1 21 rfl (by decide) _
        have c21_4_f_24 : aI f_24 (ad 21) 4 = aI f_22 (ad 21) 4 := hX.1 21 rfl (by decide) _
        have c21_6_f_24 : aI f_24 (ad 21) 6 = aI f_22 (ad 21) 6 := hX.1 21 rfl (by decide) _
        have c21_7_f_24 : aI f_24 (ad 21) 7 = aI f_22 (ad 21) 7 := hX.1 21 rfl (by decide) _
        have Q8 : aI f_24 (ad 8) = aI f0 (ad 8) := funext fun x => hE.1 8 rfl (by decide) x
        obtain ⟨ps, v114, u114, r114⟩ := ex_23
        refine q_iast hx hb hK hw (hs.2.2.1 21 rfl).2.1 1 (hs.2.2.1 21 rfl).2.2 rfl ⟨by decide, by decide⟩ (by omega) (by show _ < ((44 : Nat) : Int); omega) dX10_monthsTold_117 (fun H locs hw => ?_)
        obtain ⟨f_25, ef_25⟩ : ∃ g : Nat → va_E, g = aU f_24 (ad 21) 7 (iI x_23) := ⟨_, rfl⟩
        have t14_f_25 : fI f_25 a0 14 = fI f_24 a0 14 := by rw [ef_25]; exact hs.fI_aU rfl _ _
        have t15_f_25 : fI f_25 a0 15 = fI f_24 a0 15 := by rw [ef_25]; exact hs.fI_aU rfl _ _
        have t16_f_25 : fI f_25 a0 16 = fI f_24 a0 16 := by rw [ef_25]; exact hs.fI_aU rfl _ _
        have t17_f_25 : fI f_25 a0 17 = fI f_24 a0 17 := by rw [ef_25]; exact hs.fI_aU rfl _ _
        have t19_f_25 : fI f_25 a0 19 = fI f_24 a0 19 := by rw [ef_25]; exact hs.fI_aU rfl _ _
        have t20_f_25 : fI f_25 a0 20 = fI f_24 a0 20 := by rw [ef_25]; exact hs.fI_aU rfl _ _
        have hE := hE.trans (show Kp a0 ad [21] [15, 16, 17, 18, 19, 20] f_24 f_25 by rw [ef_25]; exact Kp_aU hs rfl (by decide))
        have hs_ := hs
        have hs : MS cy L0 f_25 a0 ad := by rw [ef_25]; exact MS_aU hs rfl
        rw [← ef_25] at hw
        have ps := ps.aU (hs_.2.2.1 21 rfl).2.2 ef_25
        have Q8 : aI f_25 (ad 8) = aI f0 (ad 8) := funext fun x => hE.1 8 rfl (by decide) x
        have c21_0_f_25 : aI f_25 (ad 21) 0 = aI f_24 (ad 21) 0 := by rw [ef_25]; exact hs_.aI_nj rfl (by decide) (by decide) (by decide)
        have c21_1_f_25 : aI f_25 (ad 21) 1 = aI f_24 (ad 21) 1 := by rw [ef_25]; exact hs_.aI_nj rfl (by decide) (by decide) (by decide)
        have c21_2_f_25 : aI f_25 (ad 21) 2 = aI f_24 (ad 21) 2 := by rw [ef_25]; exact hs_.aI_nj rfl (by decide) (by decide) (by decide)
        have c21_5_f_25 : aI f_25 (ad 21) 5 = aI f_24 (ad 21) 5 := by rw [ef_25]; exact hs_.aI_nj rfl (by decide) (by decide) (by decide)
        have c21_8_f_25 : aI f_25 (ad 21) 8 = aI f_24 (ad 21) 8 := by rw [ef_25]; exact hs_.aI_nj rfl (by decide) (by decide) (by decide)
        have c21_9_f_25 : aI f_25 (ad 21) 9 = aI f_24 (ad 21) 9 := by rw [ef_25]; exact hs_.aI_nj rfl (by decide) (by decide) (by decide)
        have c21_3_f_25 : aI f_25 (ad 21) 3 = aI f_24 (ad 21) 3 := by rw [ef_25]; exact hs_.aI_nj rfl (by decide) (by decide) (by decide)
        have c21_4_f_25 : aI f_25 (ad 21) 4 = aI f_24 (ad 21) 4 := by rw [ef_25]; exact hs_.aI_nj rfl (by decide) (by decide) (by decide)
        have c21_6_f_25 : aI f_25 (ad 21) 6 = aI f_24 (ad 21) 6 := by rw [ef_25]; exact hs_.aI_nj rfl (by decide) (by decide) (by decide)
        have c21_7_f_25 : aI f_25 (ad 21) 7 = x_23 := by rw [ef_25]; exact hs_.aI_self rfl ⟨lx_23, ux_23⟩
        have m9 := mo_nth' (n3.z zF) (n40.z zF) w77
        have fin : PSr Tt nn f_25 a0 (moF Tt nn ee) (moE Tt nn ee) ∧ RQ3 (moF Tt nn ee) f_25 (ad 21) (moK Tt nn ee) (rfV (moK Tt nn ee) (moV Tt nn ee) (moW Tt nn ee)) (rfW (moK Tt nn ee) (moW Tt nn ee)) := ⟨ps.to m9.1 m9.2.2.2.2, fun z => by have y := v114 (m9.1.symm.trans z); have y2 := v103 (sq_z.mp (m9.1.symm.trans z)).1; rw [rf_v (by omega), rf_w5 m9.2.1]; exact ⟨by omega, Eq.trans (by omega) m9.2.2.1.symm, Eq.trans (by omega) m9.2.2.2.1.symm⟩⟩
        refine lv_goto (tgt := 161) hx hb dX10_monthsTold_118 (by decide) ?_
        exact q_ret_v hx hb hr hlocks hK hAe hw (Nat.le_of_ble_eq_true rfl) (Nat.le_of_ble_eq_true rfl) dX10_monthsTold_161 (by exact ⟨rfl, hs, hE, fin.1, fin.2, by omega, by omega, by omega, by omega, by omega, by omega, by omega⟩)
    · obtain ⟨i40, z40, w40⟩ := t40.resolve_right (by omega)
      clear t40
      refine lv_aload_n hx hb dX10_monthsTold_46 rfl (lv_at hl 0 rfl) ?_
      refine q_call_v hA hK hw (va_runV (As := []) (rest := []) ⟨hx, hb, hml, hown, hts⟩ (c_X10_next_p zo l D cy L0 f0 a0 ad hs Tt nn n0 n1 (by omega) (by first | exact hT | exact fun i q0 q1 => (congrFun Q8 i).trans (hT i q0 q1)) bT (by omega) (by omega) _) (cwV 0 hts (gT (inV (mr19 _ (List.mem_of_getElem? (i := 4) rfl)) (mr19 _ (List.mem_of_getElem? (i := 5) rfl)) (mr19 _ (List.mem_of_getElem? (i := 6) rfl)) (mr1 _ (List.mem_of_getElem? (i := 5) rfl)) (mr19 _ (List.mem_of_getElem? (i := 7) rfl)))) rfl rfl rfl (by decide +kernel) ⟨Nat.le_of_ble_eq_true rfl, Nat.le_of_ble_eq_true rfl⟩) (Wd.preV zo hA hZ hw hK hs.1 hs.2.1 rfl) rfl rfl hl.1 rfl (lv_room (Nat.le_of_ble_eq_true rfl)) dX10_monthsTold_47 ⟨Nat.le_of_ble_eq_true rfl, Nat.le_of_ble_eq_true rfl⟩) (fun L1 f_27 H locs ex_26 hw => ?_)
      obtain ⟨rfl, hs, hX, ex_26⟩ := ex_26
      have hE := hE.trans (hX.mono (rs' := [21]) (fs' := [15, 16, 17, 18, 19, 20]) (by decide) (by decide))
      have t14_f_27 : fI f_27 a0 14 = fI f0 a0 14 := hX.2 14 (by decide)
      have t20_f_27 : fI f_27 a0 20 = fI f0 a0 20 := hX.2 20 (by decide)
      have c21_0_f_27 : aI f_27 (ad 21) 0 = aI f0 (ad 21) 0 := hX.1 21 rfl (by decide) _
      have c21_1_f_27 : aI f_27 (ad 21) 1 = aI f0 (ad 21) 1 := hX.1 21 rfl (by decide) _
      have c21_2_f_27 : aI f_27 (ad 21) 2 = aI f0 (ad 21) 2 := hX.1 21 rfl (by decide) _
      have c21_5_f_27 : aI f_27 (ad 21) 5 = aI f0 (ad 21) 5 := hX.1 21 rfl (by decide) _
      have c21_8_f_27 : aI f_27 (ad 21) 8 = aI f0 (ad 21) 8 := hX.1 21 rfl (by decide) _
      have c21_9_f_27 : aI f_27 (ad 21) 9 = aI f0 (ad 21) 9 := hX.1 21 rfl (by decide) _
      have c21_3_f_27 : aI f_27 (ad 21) 3 = aI f0 (ad 21) 3 := hX.1 21 rfl (by decide) _
      have c21_4_f_27 : aI f_27 (ad 21) 4 = aI f0 (ad 21) 4 := hX.1 21 rfl (by decide) _
      have c21_6_f_27 : aI f_27 (ad 21) 6 = aI f0 (ad 21) 6 := hX.1 21 rfl (by decide) _
      have c21_7_f_27 : aI f_27 (ad 21) 7 = aI f0 (ad 21) 7 := hX.1 21 rfl (by decide) _
      have Q8 : aI f_27 (ad 8) = aI f0 (ad 8) := funext fun x => hE.1 8 rfl (by decide) x
      have ps := ps.nxt (fun z => iw_16 ps z ((wS_iff e0 e1).mp w40)) ex_26 (by omega) n1
      clear ex_26
      refine lv_aload_n hx hb dX10_monthsTold_50 rfl (lv_at hl 0 rfl) ?_
      refine q_getr (ci := 8) (C := RX10) (T := TX10) (N := 26) hx hb hts (fun w h => List.mem_cons_of_mem _ (mfX100 w h)) hown hK hw hs.1 hs.2.1 rfl 21 (by decide) (hts _ (List.mem_cons_of_mem _ (mr3 _ (List.mem_of_getElem? (i := 22) rfl)))) (fun _ h => h) rfl (hs.2.2.1 21 rfl).1 dX10_monthsTold_51 ?_
      refine q_iconst hx hb dX10_monthsTold_54 ?_
      refine q_iconst hx hb dX10_monthsTold_55 ?_
      refine q_iast hx hb hK hw (hs.2.2.1 21 rfl).2.1 1 (hs.2.2.1 21 rfl).2.2 rfl ⟨by decide, by decide⟩ (by omega) (by show _ < ((44 : Nat) : Int); omega) dX10_monthsTold_56 (fun H locs hw => ?_)
      obtain ⟨f_28, ef_28⟩ : ∃ g : Nat → va_E, g = aU f_27 (ad 21) 3 (iI 4) := ⟨_, rfl⟩
      have t14_f_28 : fI f_28 a0 14 = fI f_27 a0 14 := by rw [ef_28]; exact hs.fI_aU rfl _ _
      have t15_f_28 : fI f_28 a0 15 = fI f_27 a0 15 := by rw [ef_28]; exact hs.fI_aU rfl _ _
      have t16_f_28 : fI f_28 a0 16 = fI f_27 a0 16 := by rw [ef_28]; exact hs.fI_aU rfl _ _
      have t17_f_28 : fI f_28 a0 17 = fI f_27 a0 17 := by rw [ef_28]; exact hs.fI_aU rfl _ _
      have t19_f_28 : fI f_28 a0 19 = fI f_27 a0 19 := by rw [ef_28]; exact hs.fI_aU rfl _ _
      have t20_f_28 : fI f_28 a0 20 = fI f_27 a0 20 := by rw [ef_28]; exact hs.fI_aU rfl _ _
      have hE := hE.trans (show Kp a0 ad [21] [15, 16, 17, 18, 19, 20] f_27 f_28 by rw [ef_28]; exact Kp_aU hs rfl (by decide))
      have hs_ := hs
      have hs : MS cy L0 f_28 a0 ad := by rw [ef_28]; exact MS_aU hs rfl
      rw [← ef_28] at hw
      have ps := ps.aU (hs_.2.2.1 21 rfl).2.2 ef_28
      have Q8 : aI f_28 (ad 8) = aI f0 (ad 8) := funext fun x => hE.1 8 rfl (by decide) x
      have c21_0_f_28 : aI f_28 (ad 21) 0 = aI f_27 (ad 21) 0 := by rw [ef_28]; exact hs_.aI_nj rfl (by decide) (by decide) (by decide)
      have c21_1_f_28 : aI f_28 (ad 21) 1 = aI f_27 (ad 21) 1 := by rw [ef_28]; exact hs_.aI_nj rfl (by decide) (by decide) (by decide)
      have c21_2_f_28 : aI f_28 (ad 21) 2 = aI f_27 (ad 21) 2 := by rw [ef_28]; exact hs_.aI_nj rfl (by decide) (by decide) (by decide)
      have c21_5_f_28 : aI f_28 (ad 21) 5 = aI f_27 (ad 21) 5 := by rw [ef_28]; exact hs_.aI_nj rfl (by decide) (by decide) (by decide)
      have c21_8_f_28 : aI f_28 (ad 21) 8 = aI f_27 (ad 21) 8 := by rw [ef_28]; exact hs_.aI_nj rfl (by decide) (by decide) (by decide)
      have c21_9_f_28 : aI f_28 (ad 21) 9 = aI f_27 (ad 21) 9 := by rw [ef_28]; exact hs_.aI_nj rfl (by decide) (by decide) (by decide)
      have c21_3_f_28 : aI f_28 (ad 21) 3 = 4 := by rw [ef_28]; exact hs_.aI_self rfl ⟨by decide, by decide⟩
      have c21_4_f_28 : aI f_28 (ad 21) 4 = aI f_27 (ad 21) 4 := by rw [ef_28]; exact hs_.aI_nj rfl (by decide) (by decide) (by decide)
      have c21_6_f_28 : aI f_28 (ad 21) 6 = aI f_27 (ad 21) 6 := by rw [ef_28]; exact hs_.aI_nj rfl (by decide) (by decide) (by decide)
      have c21_7_f_28 : aI f_28 (ad 21) 7 = aI f_27 (ad 21) 7 := by rw [ef_28]; exact hs_.aI_nj rfl (by decide) (by decide) (by decide)
      refine lv_aload_n hx hb dX10_monthsTold_57 rfl (lv_at hl 0 rfl) ?_
      refine q_getr (ci := 8) (C := RX10) (T := TX10) (N := 26) hx hb hts (fun w h => List.mem_cons_of_mem _ (mfX100 w h)) hown hK hw hs.1 hs.2.1 rfl 21 (by decide) (hts _ (List.mem_cons_of_mem _ (mr3 _ (List.mem_of_getElem? (i := 22) rfl)))) (fun _ h => h) rfl (hs.2.2.1 21 rfl).1 dX10_monthsTold_58 ?_
      refine q_bipush hx hb dX10_monthsTold_61 rfl ?_
      refine lv_aload_n hx hb dX10_monthsTold_63 rfl (lv_at hl 0 rfl) ?_
      refine q_iconst hx hb dX10_monthsTold_64 ?_
      refine q_bipush hx hb dX10_monthsTold_65 rfl ?_
      refine q_call_i hA hK hw (va_runV (As := [.int (iI 1), .int (iI 28)]) (rest := [.int (iI 6), .ref (ad 21)]) ⟨hx, hb, hml, hown, hts⟩ (c_X10_numberTold_p zo l D cy L0 f_28 a0 1 (by decide) (by decide) 28 (by decide) (by decide) ad hs Tt nn n0 n1 (by omega) (by first | exact hT | exact fun i q0 q1 => (congrFun Q8 i).trans (hT i q0 q1)) bT _ _ ps (by omega) (by omega) _) (cwV 2 hts (gT (inV (mr20 _ (List.mem_of_getElem? (i := 16) rfl)) (mr20 _ (List.mem_of_getElem? (i := 17) rfl)) (mr20 _ (List.mem_of_getElem? (i := 18) rfl)) (mr1 _ (List.mem_of_getElem? (i := 5) rfl)) (mr20 _ (List.mem_of_getElem? (i := 19) rfl)))) rfl rfl rfl (by decide +kernel) ⟨Nat.le_of_ble_eq_true rfl, Nat.le_of_ble_eq_true rfl⟩) (Wd.preV zo hA hZ hw hK hs.1 hs.2.1 rfl) rfl rfl hl.1 rfl (lv_room (Nat.le_of_ble_eq_true rfl)) dX10_monthsTold_67 ⟨Nat.le_of_ble_eq_true rfl, Nat.le_of_ble_eq_true rfl⟩) (fun x_29 L1 f_30 H locs lx_29 ux_29 ex_29 hw => ?_)
      obtain ⟨rfl, hs, hX, ex_29⟩ := ex_29
      have hE := hE.trans (hX.mono (rs' := [21]) (fs' := [15, 16, 17, 18, 19, 20]) (by decide) (by decide))
      have t14_f_30 : fI f_30 a0 14 = fI f_28 a0 14 := hX.2 14 (by decide)
      have c21_0_f_30 : aI f_30 (ad 21) 0 = aI f_28 (ad 21) 0 := hX.1 21 rfl (by decide) _
      have c21_1_f_30 : aI f_30 (ad 21) 1 = aI f_28 (ad 21) 1 := hX.1 21 rfl (by decide) _
      have c21_2_f_30 : aI f_30 (ad 21) 2 = aI f_28 (ad 21) 2 := hX.1 21 rfl (by decide) _
      have c21_5_f_30 : aI f_30 (ad 21) 5 = aI f_28 (ad 21) 5 := hX.1 21 rfl (by decide) _
      have c21_8_f_30 : aI f_30 (ad 21) 8 = aI f_28 (ad 21) 8 := hX.1 21 rfl (by decide) _
      have c21_9_f_30 : aI f_30 (ad 21) 9 = aI f_28 (ad 21) 9 := hX.1 21 rfl (by decide) _
      have c21_3_f_30 : aI f_30 (ad 21) 3 = aI f_28 (ad 21) 3 := hX.1 21 rfl (by decide) _
      have c21_4_f_30 : aI f_30 (ad 21) 4 = aI f_28 (ad 21) 4 := hX.1 21 rfl (by decide) _
      have c21_6_f_30 : aI f_30 (ad 21) 6 = aI f_28 (ad 21) 6 := hX.1 21 rfl (by decide) _
      have c21_7_f_30 : aI f_30 (ad 21) 7 = aI f_28 (ad 21) 7 := hX.1 21 rfl (by decide) _
      have Q8 : aI f_30 (ad 8) = aI f0 (ad 8) := funext fun x => hE.1 8 rfl (by decide) x
      obtain ⟨ps, v67⟩ := ex_29
      rw [sq_0 zF] at ps v67
      refine q_iast hx hb hK hw (hs.2.2.1 21 rfl).2.1 1 (hs.2.2.1 21 rfl).2.2 rfl ⟨by decide, by decide⟩ (by omega) (by show _ < ((44 : Nat) : Int); omega) dX10_monthsTold_70 (fun H locs hw => ?_)
      obtain ⟨f_31, ef_31⟩ : ∃ g : Nat → va_E, g = aU f_30 (ad 21) 6 (iI x_29) := ⟨_, rfl⟩
      have t14_f_31 : fI f_31 a0 14 = fI f_30 a0 14 := by rw [ef_31]; exact hs.fI_aU rfl _ _
      have t15_f_31 : fI f_31 a0 15 = fI f_30 a0 15 := by rw [ef_31]; exact hs.fI_aU rfl _ _
      have t16_f_31 : fI f_31 a0 16 = fI f_30 a0 16 := by rw [ef_31]; exact hs.fI_aU rfl _ _
      have t17_f_31 : fI f_31 a0 17 = fI f_30 a0 17 := by rw [ef_31]; exact hs.fI_aU rfl _ _
      have t19_f_31 : fI f_31 a0 19 = fI f_30 a0 19 := by rw [ef_31]; exact hs.fI_aU rfl _ _
      have t20_f_31 : fI f_31 a0 20 = fI f_30 a0 20 := by rw [ef_31]; exact hs.fI_aU rfl _ _
      have hE := hE.trans (show Kp a0 ad [21] [15, 16, 17, 18, 19, 20] f_30 f_31 by rw [ef_31]; exact Kp_aU hs rfl (by decide))
      have hs_ := hs
      have hs : MS cy L0 f_31 a0 ad := by rw [ef_31]; exact MS_aU hs rfl
      rw [← ef_31] at hw
      have ps := ps.aU (hs_.2.2.1 21 rfl).2.2 ef_31
      have Q8 : aI f_31 (ad 8) = aI f0 (ad 8) := funext fun x => hE.1 8 rfl (by decide) x
      have c21_0_f_31 : aI f_31 (ad 21) 0 = aI f_30 (ad 21) 0 := by rw [ef_31]; exact hs_.aI_nj rfl (by decide) (by decide) (by decide)
      have c21_1_f_31 : aI f_31 (ad 21) 1 = aI f_30 (ad 21) 1 := by rw [ef_31]; exact hs_.aI_nj rfl (by decide) (by decide) (by decide)
      have c21_2_f_31 : aI f_31 (ad 21) 2 = aI f_30 (ad 21) 2 := by rw [ef_31]; exact hs_.aI_nj rfl (by decide) (by decide) (by decide)
      have c21_5_f_31 : aI f_31 (ad 21) 5 = aI f_30 (ad 21) 5 := by rw [ef_31]; exact hs_.aI_nj rfl (by decide) (by decide) (by decide)
      have c21_8_f_31 : aI f_31 (ad 21) 8 = aI f_30 (ad 21) 8 := by rw [ef_31]; exact hs_.aI_nj rfl (by decide) (by decide) (by decide)
      have c21_9_f_31 : aI f_31 (ad 21) 9 = aI f_30 (ad 21) 9 := by rw [ef_31]; exact hs_.aI_nj rfl (by decide) (by decide) (by decide)
      have c21_3_f_31 : aI f_31 (ad 21) 3 = aI f_30 (ad 21) 3 := by rw [ef_31]; exact hs_.aI_nj rfl (by decide) (by decide) (by decide)
      have c21_4_f_31 : aI f_31 (ad 21) 4 = aI f_30 (ad 21) 4 := by rw [ef_31]; exact hs_.aI_nj rfl (by decide) (by decide) (by decide)
      have c21_6_f_31 : aI f_31 (ad 21) 6 = x_29 := by rw [ef_31]; exact hs_.aI_self rfl ⟨lx_29, ux_29⟩
      have c21_7_f_31 : aI f_31 (ad 21) 7 = aI f_30 (ad 21) 7 := by rw [ef_31]; exact hs_.aI_nj rfl (by decide) (by decide) (by decide)
      have m9 := mo_end2 (n3.z zF) w40
      have fin : PSr Tt nn f_31 a0 (moF Tt nn ee) (moE Tt nn ee) ∧ RQ3 (moF Tt nn ee) f_31 (ad 21) (moK Tt nn ee) (rfV (moK Tt nn ee) (moV Tt nn ee) (moW Tt nn ee)) (rfW (moK Tt nn ee) (moW Tt nn ee)) := ⟨ps.to m9.1 m9.2.2.2.2, fun z => by have y := v67 (m9.1.symm.trans z); rw [rf_v (by omega), rf_w (by omega)]; exact ⟨by omega, Eq.trans (by omega) m9.2.2.1.symm, by omega⟩⟩
      refine lv_goto (tgt := 161) hx hb dX10_monthsTold_71 (by decide) ?_
      exact q_ret_v hx hb hr hlocks hK hAe hw (Nat.le_of_ble_eq_true rfl) (Nat.le_of_ble_eq_true rfl) dX10_monthsTold_161 (by exact ⟨rfl, hs, hE, fin.1, fin.2, by omega, by omega, by omega, by omega, by omega, by omega, by omega⟩)
  · obtain ⟨i3, z3, w3⟩ := t3.resolve_right (by omega)
    clear t3
    refine lv_aload_n hx hb dX10_monthsTold_9 rfl (lv_at hl 0 rfl) ?_
    refine q_call_v hA hK hw (va_runV (As := []) (rest := []) ⟨hx, hb, hml, hown, hts⟩ (c_X10_next_p zo l D cy L0 f0 a0 ad hs Tt nn n0 n1 (by omega) (by first | exact hT | exact fun i q0 q1 => (congrFun Q8 i).trans (hT i q0 q1)) bT (by omega) (by omega) _) (cwV 0 hts (gT (inV (mr19 _ (List.mem_of_getElem? (i := 4) rfl)) (mr19 _ (List.mem_of_getElem? (i := 5) rfl)) (mr19 _ (List.mem_of_getElem? (i := 6) rfl)) (mr1 _ (List.mem_of_getElem? (i := 5) rfl)) (mr19 _ (List.mem_of_getElem? (i := 7) rfl)))) rfl rfl rfl (by decide +kernel) ⟨Nat.le_of_ble_eq_true rfl, Nat.le_of_ble_eq_true rfl⟩) (Wd.preV zo hA hZ hw hK hs.1 hs.2.1 rfl) rfl rfl hl.1 rfl (lv_room (Nat.le_of_ble_eq_true rfl)) dX10_monthsTold_10 ⟨Nat.le_of_ble_eq_true rfl, Nat.le_of_ble_eq_true rfl⟩) (fun L1 f_33 H locs ex_32 hw => ?_)
    obtain ⟨rfl, hs, hX, ex_32⟩ := ex_32
    have hE := hE.trans (hX.mono (rs' := [21]) (fs' := [15, 16, 17, 18, 19, 20]) (by decide) (by decide))
    have t14_f_33 : fI f_33 a0 14 = fI f0 a0 14 := hX.2 14 (by decide)
    have t20_f_33 : fI f_33 a0 20 = fI f0 a0 20 := hX.2 20 (by decide)
    have c21_0_f_33 : aI f_33 (ad 21) 0 = aI f0 (ad 21) 0 := hX.1 21 rfl (by decide) _
    have c21_1_f_33 : aI f_33 (ad 21) 1 = aI f0 (ad 21) 1 := hX.1 21 rfl (by decide) _
    have c21_2_f_33 : aI f_33 (ad 21) 2 = aI f0 (ad 21) 2 := hX.1 21 rfl (by decide) _
    have c21_5_f_33 : aI f_33 (ad 21) 5 = aI f0 (ad 21) 5 := hX.1 21 rfl (by decide) _
    have c21_8_f_33 : aI f_33 (ad 21) 8 = aI f0 (ad 21) 8 := hX.1 21 rfl (by decide) _
    have c21_9_f_33 : aI f_33 (ad 21) 9 = aI f0 (ad 21) 9 := hX.1 21 rfl (by decide) _
    have c21_3_f_33 : aI f_33 (ad 21) 3 = aI f0 (ad 21) 3 := hX.1 21 rfl (by decide) _
    have c21_4_f_33 : aI f_33 (ad 21) 4 = aI f0 (ad 21) 4 := hX.1 21 rfl (by decide) _
    have c21_6_f_33 : aI f_33 (ad 21) 6 = aI f0 (ad 21) 6 := hX.1 21 rfl (by decide) _
    have c21_7_f_33 : aI f_33 (ad 21) 7 = aI f0 (ad 21) 7 := hX.1 21 rfl (by decide) _
    have Q8 : aI f_33 (ad 8) = aI f0 (ad 8) := funext fun x => hE.1 8 rfl (by decide) x
    have ps := ps.nxt (fun z => iw_16 ps z ((wS_iff e0 e1).mp w3)) ex_32 (by omega) n1
    clear ex_32
    refine lv_aload_n hx hb dX10_monthsTold_13 rfl (lv_at hl 0 rfl) ?_
    refine q_getr (ci := 8) (C := RX10) (T := TX10) (N := 26) hx hb hts (fun w h => List.mem_cons_of_mem _ (mfX100 w h)) hown hK hw hs.1 hs.2.1 rfl 21 (by decide) (hts _ (List.mem_cons_of_mem _ (mr3 _ (List.mem_of_getElem? (i := 22) rfl)))) (fun _ h => h) rfl (hs.2.2.1 21 rfl).1 dX10_monthsTold_14 ?_
    refine q_iconst hx hb dX10_monthsTold_17 ?_
    refine q_iconst hx hb dX10_monthsTold_18 ?_
    refine q_iast hx hb hK hw (hs.2.2.1 21 rfl).2.1 1 (hs.2.2.1 21 rfl).2.2 rfl ⟨by decide, by decide⟩ (by omega) (by show _ < ((44 : Nat) : Int); omega) dX10_monthsTold_19 (fun H locs hw => ?_)
    obtain ⟨f_34, ef_34⟩ : ∃ g : Nat → va_E, g = aU f_33 (ad 21) 3 (iI 3) := ⟨_, rfl⟩
    have t14_f_34 : fI f_34 a0 14 = fI f_33 a0 14 := by rw [ef_34]; exact hs.fI_aU rfl _ _
    have t15_f_34 : fI f_34 a0 15 = fI f_33 a0 15 := by rw [ef_34]; exact hs.fI_aU rfl _ _
    have t16_f_34 : fI f_34 a0 16 = fI f_33 a0 16 := by rw [ef_34]; exact hs.fI_aU rfl _ _
    have t17_f_34 : fI f_34 a0 17 = fI f_33 a0 17 := by rw [ef_34]; exact hs.fI_aU rfl _ _
    have t19_f_34 : fI f_34 a0 19 = fI f_33 a0 19 := by rw [ef_34]; exact hs.fI_aU rfl _ _
    have t20_f_34 : fI f_34 a0 20 = fI f_33 a0 20 := by rw [ef_34]; exact hs.fI_aU rfl _ _
    have hE := hE.trans (show Kp a0 ad [21] [15, 16, 17, 18, 19, 20] f_33 f_34 by rw [ef_34]; exact Kp_aU hs rfl (by decide))
    have hs_ := hs
    have hs : MS cy L0 f_34 a0 ad := by rw [ef_34]; exact MS_aU hs rfl
    rw [← ef_34] at hw
    have ps := ps.aU (hs_.2.2.1 21 rfl).2.2 ef_34
    have Q8 : aI f_34 (ad 8) = aI f0 (ad 8) := funext fun x => hE.1 8 rfl (by decide) x
    have c21_0_f_34 : aI f_34 (ad 21) 0 = aI f_33 (ad 21) 0 := by rw [ef_34]; exact hs_.aI_nj rfl (by decide) (by decide) (by decide)
    have c21_1_f_34 : aI f_34 (ad 21) 1 = aI f_33 (ad 21) 1 := by rw [ef_34]; exact hs_.aI_nj rfl (by decide) (by decide) (by decide)
    have c21_2_f_34 : aI f_34 (ad 21) 2 = aI f_33 (ad 21) 2 := by rw [ef_34]; exact hs_.aI_nj rfl (by decide) (by decide) (by decide)
    have c21_5_f_34 : aI f_34 (ad 21) 5 = aI f_33 (ad 21) 5 := by rw [ef_34]; exact hs_.aI_nj rfl (by decide) (by decide) (by decide)
    have c21_8_f_34 : aI f_34 (ad 21) 8 = aI f_33 (ad 21) 8 := by rw [ef_34]; exact hs_.aI_nj rfl (by decide) (by decide) (by decide)
    have c21_9_f_34 : aI f_34 (ad 21) 9 = aI f_33 (ad 21) 9 := by rw [ef_34]; exact hs_.aI_nj rfl (by decide) (by decide) (by decide)
    have c21_3_f_34 : aI f_34 (ad 21) 3 = 3 := by rw [ef_34]; exact hs_.aI_self rfl ⟨by decide, by decide⟩
    have c21_4_f_34 : aI f_34 (ad 21) 4 = aI f_33 (ad 21) 4 := by rw [ef_34]; exact hs_.aI_nj rfl (by decide) (by decide) (by decide)
    have c21_6_f_34 : aI f_34 (ad 21) 6 = aI f_33 (ad 21) 6 := by rw [ef_34]; exact hs_.aI_nj rfl (by decide) (by decide) (by decide)
    have c21_7_f_34 : aI f_34 (ad 21) 7 = aI f_33 (ad 21) 7 := by rw [ef_34]; exact hs_.aI_nj rfl (by decide) (by decide) (by decide)
    refine lv_aload_n hx hb dX10_monthsTold_20 rfl (lv_at hl 0 rfl) ?_
    refine q_getr (ci := 8) (C := RX10) (T := TX10) (N := 26) hx hb hts (fun w h => List.mem_cons_of_mem _ (mfX100 w h)) hown hK hw hs.1 hs.2.1 rfl 21 (by decide) (hts _ (List.mem_cons_of_mem _ (mr3 _ (List.mem_of_getElem? (i := 22) rfl)))) (fun _ h => h) rfl (hs.2.2.1 21 rfl).1 dX10_monthsTold_21 ?_
    refine q_bipush hx hb dX10_monthsTold_24 rfl ?_
    refine lv_aload_n hx hb dX10_monthsTold_26 rfl (lv_at hl 0 rfl) ?_
    refine q_iconst hx hb dX10_monthsTold_27 ?_
    refine q_bipush hx hb dX10_monthsTold_28 rfl ?_
    refine q_call_i hA hK hw (va_runV (As := [.int (iI 1), .int (iI 31)]) (rest := [.int (iI 6), .ref (ad 21)]) ⟨hx, hb, hml, hown, hts⟩ (c_X10_numberTold_p zo l D cy L0 f_34 a0 1 (by decide) (by decide) 31 (by decide) (by decide) ad hs Tt nn n0 n1 (by omega) (by first | exact hT | exact fun i q0 q1 => (congrFun Q8 i).trans (hT i q0 q1)) bT _ _ ps (by omega) (by omega) _) (cwV 2 hts (gT (inV (mr20 _ (List.mem_of_getElem? (i := 16) rfl)) (mr20 _ (List.mem_of_getElem? (i := 17) rfl)) (mr20 _ (List.mem_of_getElem? (i := 18) rfl)) (mr1 _ (List.mem_of_getElem? (i := 5) rfl)) (mr20 _ (List.mem_of_getElem? (i := 19) rfl)))) rfl rfl rfl (by decide +kernel) ⟨Nat.le_of_ble_eq_true rfl, Nat.le_of_ble_eq_true rfl⟩) (Wd.preV zo hA hZ hw hK hs.1 hs.2.1 rfl) rfl rfl hl.1 rfl (lv_room (Nat.le_of_ble_eq_true rfl)) dX10_monthsTold_30 ⟨Nat.le_of_ble_eq_true rfl, Nat.le_of_ble_eq_true rfl⟩) (fun x_35 L1 f_36 H locs lx_35 ux_35 ex_35 hw => ?_)
    obtain ⟨rfl, hs, hX, ex_35⟩ := ex_35
    have hE := hE.trans (hX.mono (rs' := [21]) (fs' := [15, 16, 17, 18, 19, 20]) (by decide) (by decide))
    have t14_f_36 : fI f_36 a0 14 = fI f_34 a0 14 := hX.2 14 (by decide)
    have c21_0_f_36 : aI f_36 (ad 21) 0 = aI f_34 (ad 21) 0 := hX.1 21 rfl (by decide) _
    have c21_1_f_36 : aI f_36 (ad 21) 1 = aI f_34 (ad 21) 1 := hX.1 21 rfl (by decide) _
    have c21_2_f_36 : aI f_36 (ad 21) 2 = aI f_34 (ad 21) 2 := hX.1 21 rfl (by decide) _
    have c21_5_f_36 : aI f_36 (ad 21) 5 = aI f_34 (ad 21) 5 := hX.1 21 rfl (by decide) _
    have c21_8_f_36 : aI f_36 (ad 21) 8 = aI f_34 (ad 21) 8 := hX.1 21 rfl (by decide) _
    have c21_9_f_36 : aI f_36 (ad 21) 9 = aI f_34 (ad 21) 9 := hX.1 21 rfl (by decide) _
    have c21_3_f_36 : aI f_36 (ad 21) 3 = aI f_34 (ad 21) 3 := hX.1 21 rfl (by decide) _
    have c21_4_f_36 : aI f_36 (ad 21) 4 = aI f_34 (ad 21) 4 := hX.1 21 rfl (by decide) _
    have c21_6_f_36 : aI f_36 (ad 21) 6 = aI f_34 (ad 21) 6 := hX.1 21 rfl (by decide) _
    have c21_7_f_36 : aI f_36 (ad 21) 7 = aI f_34 (ad 21) 7 := hX.1 21 rfl (by decide) _
    have Q8 : aI f_36 (ad 8) = aI f0 (ad 8) := funext fun x => hE.1 8 rfl (by decide) x
    obtain ⟨ps, v30⟩ := ex_35
    rw [sq_0 zF] at ps v30
    refine q_iast hx hb hK hw (hs.2.2.1 21 rfl).2.1 1 (hs.2.2.1 21 rfl).2.2 rfl ⟨by decide, by decide⟩ (by omega) (by show _ < ((44 : Nat) : Int); omega) dX10_monthsTold_33 (fun H locs hw => ?_)
    obtain ⟨f_37, ef_37⟩ : ∃ g : Nat → va_E, g = aU f_36 (ad 21) 6 (iI x_35) := ⟨_, rfl⟩
    have t14_f_37 : fI f_37 a0 14 = fI f_36 a0 14 := by rw [ef_37]; exact hs.fI_aU rfl _ _
    have t15_f_37 : fI f_37 a0 15 = fI f_36 a0 15 := by rw [ef_37]; exact hs.fI_aU rfl _ _
    have t16_f_37 : fI f_37 a0 16 = fI f_36 a0 16 := by rw [ef_37]; exact hs.fI_aU rfl _ _
    have t17_f_37 : fI f_37 a0 17 = fI f_36 a0 17 := by rw [ef_37]; exact hs.fI_aU rfl _ _
    have t19_f_37 : fI f_37 a0 19 = fI f_36 a0 19 := by rw [ef_37]; exact hs.fI_aU rfl _ _
    have t20_f_37 : fI f_37 a0 20 = fI f_36 a0 20 := by rw [ef_37]; exact hs.fI_aU rfl _ _
    have hE := hE.trans (show Kp a0 ad [21] [15, 16, 17, 18, 19, 20] f_36 f_37 by rw [ef_37]; exact Kp_aU hs rfl (by decide))
    have hs_ := hs
    have hs : MS cy L0 f_37 a0 ad := by rw [ef_37]; exact MS_aU hs rfl
    rw [← ef_37] at hw
    have ps := ps.aU (hs_.2.2.1 21 rfl).2.2 ef_37
    have Q8 : aI f_37 (ad 8) = aI f0 (ad 8) := funext fun x => hE.1 8 rfl (by decide) x
    have c21_0_f_37 : aI f_37 (ad 21) 0 = aI f_36 (ad 21) 0 := by rw [ef_37]; exact hs_.aI_nj rfl (by decide) (by decide) (by decide)
    have c21_1_f_37 : aI f_37 (ad 21) 1 = aI f_36 (ad 21) 1 := by rw [ef_37]; exact hs_.aI_nj rfl (by decide) (by decide) (by decide)
    have c21_2_f_37 : aI f_37 (ad 21) 2 = aI f_36 (ad 21) 2 := by rw [ef_37]; exact hs_.aI_nj rfl (by decide) (by decide) (by decide)
    have c21_5_f_37 : aI f_37 (ad 21) 5 = aI f_36 (ad 21) 5 := by rw [ef_37]; exact hs_.aI_nj rfl (by decide) (by decide) (by decide)
    have c21_8_f_37 : aI f_37 (ad 21) 8 = aI f_36 (ad 21) 8 := by rw [ef_37]; exact hs_.aI_nj rfl (by decide) (by decide) (by decide)
    have c21_9_f_37 : aI f_37 (ad 21) 9 = aI f_36 (ad 21) 9 := by rw [ef_37]; exact hs_.aI_nj rfl (by decide) (by decide) (by decide)
    have c21_3_f_37 : aI f_37 (ad 21) 3 = aI f_36 (ad 21) 3 := by rw [ef_37]; exact hs_.aI_nj rfl (by decide) (by decide) (by decide)
    have c21_4_f_37 : aI f_37 (ad 21) 4 = aI f_36 (ad 21) 4 := by rw [ef_37]; exact hs_.aI_nj rfl (by decide) (by decide) (by decide)
    have c21_6_f_37 : aI f_37 (ad 21) 6 = x_35 := by rw [ef_37]; exact hs_.aI_self rfl ⟨lx_35, ux_35⟩
    have c21_7_f_37 : aI f_37 (ad 21) 7 = aI f_36 (ad 21) 7 := by rw [ef_37]; exact hs_.aI_nj rfl (by decide) (by decide) (by decide)
    have m9 := mo_on' w3
    have fin : PSr Tt nn f_37 a0 (moF Tt nn ee) (moE Tt nn ee) ∧ RQ3 (moF Tt nn ee) f_37 (ad 21) (moK Tt nn ee) (rfV (moK Tt nn ee) (moV Tt nn ee) (moW Tt nn ee)) (rfW (moK Tt nn ee) (moW Tt nn ee)) := ⟨ps.to m9.1 m9.2.2.2.2, fun z => by have y := v30 (m9.1.symm.trans z); rw [rf_v (by omega), rf_w (by omega)]; exact ⟨by omega, Eq.trans (by omega) m9.2.2.1.symm, by omega⟩⟩
    refine lv_goto (tgt := 161) hx hb dX10_monthsTold_34 (by decide) ?_
    exact q_ret_v hx hb hr hlocks hK hAe hw (Nat.le_of_ble_eq_true rfl) (Nat.le_of_ble_eq_true rfl) dX10_monthsTold_161 (by exact ⟨rfl, hs, hE, fin.1, fin.2, by omega, by omega, by omega, by omega, by omega, by omega, by omega⟩)
