/-! ===== the end of the reference's text ===== -/
noncomputable def etF (T : Int → Int) (n e s : Int) : Int := if wS T n e wTimes = 0 then nS T n (tQ T n e) 1 999 else if wS T n e wUntil = 0 then (if daF T n (tQ T n e) ≠ 0 then daF T n (tQ T n e) else if daV T n (tQ T n e) < s then 8 * tP T n (tQ T n e) + 3 else 0) else 0
noncomputable def etU (T : Int → Int) (n e : Int) : Int := if wS T n e wTimes = 0 then -1 else if wS T n e wUntil = 0 then daV T n (tQ T n e) else -1
noncomputable def etT (T : Int → Int) (n e : Int) : Int := if wS T n e wTimes = 0 then vN T n (tQ T n e) else -1
noncomputable def etE (T : Int → Int) (n e : Int) : Int := if wS T n e wTimes = 0 then tQn T n 2 e else if wS T n e wUntil = 0 then tQn T n 4 e else e
def enS (T : Int → Int) (n e : Int) : Int := if tyA T n (tP T n e) = 0 then 0 else 8 * tP T n e + 1
noncomputable def etX (T : Int → Int) (n e s : Int) : Int := sq (etF T n e s) (enS T n (etE T n e))
theorem et_t {T : Int → Int} {n e s : Int} (h : wS T n e wTimes = 0) : etF T n e s = nS T n (tQ T n e) 1 999 ∧ etU T n e = -1 ∧ etT T n e = vN T n (tQ T n e) ∧ etE T n e = tQ T n (tQ T n e) := by
  unfold etF etU etT etE; rw [if_pos h, if_pos h, if_pos h, if_pos h]; exact ⟨rfl, rfl, rfl, rfl⟩
theorem et_u {T : Int → Int} {n e s : Int} (h : wS T n e wTimes ≠ 0) (u : wS T n e wUntil = 0) : (daF T n (tQ T n e) ≠ 0 → etF T n e s = daF T n (tQ T n e)) ∧ (daF T n (tQ T n e) = 0 → daV T n (tQ T n e) < s → etF T n e s = 8 * tP T n (tQ T n e) + 3) ∧ (daF T n (tQ T n e) = 0 → s ≤ daV T n (tQ T n e) → etF T n e s = 0) ∧ etU T n e = daV T n (tQ T n e) ∧ etT T n e = -1 ∧ etE T n e = tQn T n 3 (tQ T n e) := by
  unfold etF etU etT etE; rw [if_neg h, if_neg h, if_neg h, if_neg h, if_pos u, if_pos u, if_pos u]
  refine ⟨fun q => if_pos q, fun q r => ?_, fun q r => ?_, rfl, rfl, rfl⟩
  · rw [if_neg (by omega), if_pos r]
  · rw [if_neg (by omega), if_neg (by omega)]
theorem et_n {T : Int → Int} {n e s : Int} (h : wS T n e wTimes ≠ 0) (u : wS T n e wUntil ≠ 0) : etF T n e s = 0 ∧ etU T n e = -1 ∧ etT T n e = -1 ∧ etE T n e = e := by
  unfold etF etU etT etE; rw [if_neg h, if_neg h, if_neg h, if_neg h, if_neg u, if_neg u, if_neg u]; exact ⟨rfl, rfl, rfl, rfl⟩
theorem etE_b {T : Int → Int} {n e : Int} (h0 : 0 ≤ e) (h1 : e ≤ n) : 0 ≤ etE T n e ∧ etE T n e ≤ n := by
  have b := tQn_b (T := T) h0 h1 2
  have c := tQn_b (T := T) h0 h1 4
  unfold etE
  repeat' split
  all_goals omega
theorem sq_as {F x y : Int} : sq (sq F x) y = sq F (sq x y) := by
  by_cases c : F = 0
  · rw [sq_0 c, sq_0 c]
  · rw [sq_1 c, sq_1 c, sq_1 c]
theorem PSr.sqn {T : Int → Int} {n F e x e' : Int} {f : Nat → va_E} {a : Nat} (h : PSr T n f a F e) (q : F = 0 → x = 0 ∧ e' = e) : PSr T n f a (sq F x) e' := by
  by_cases c : F = 0
  · rw [sq_0 c]; exact h.to ((q c).1.trans c.symm) (q c).2
  · rw [sq_1 c]; exact h.F c rfl
def RQ2 (F : Int) (f : Nat → va_E) (r : Nat) (u t : Int) : Prop := F = 0 → aI f r 8 = u ∧ aI f r 9 = t
theorem enS_y {T : Int → Int} {n e : Int} (h : tyA T n (tP T n e) = 0) : enS T n e = 0 := if_pos h
theorem enS_n {T : Int → Int} {n e : Int} (h : tyA T n (tP T n e) ≠ 0) : enS T n e = 8 * tP T n e + 1 := if_neg h
/-- the whole text's fault, as the reference comes by it -/
theorem pl_sq {T : Int → Int} {n : Int} : sq (sq (sq (sq (sq (wS T n 0 wBook) (nS T n (tQn T n 1 0) 0 7)) (wS T n (tQn T n 2 0) wAt)) (nS T n (tQn T n 3 0) 0 1439)) (wS T n (tQn T n 4 0) wFor)) (nS T n (tQn T n 5 0) 1 4320) = plF T n 0 := by
  by_cases c0 : wS T n 0 wBook = 0
  · rw [sq_0 c0]
    by_cases c1 : nS T n (tQn T n 1 0) 0 7 = 0
    · rw [sq_0 c1]
      by_cases c2 : wS T n (tQn T n 2 0) wAt = 0
      · rw [sq_0 c2]
        by_cases c3 : nS T n (tQn T n 3 0) 0 1439 = 0
        · rw [sq_0 c3]
          by_cases c4 : wS T n (tQn T n 4 0) wFor = 0
          · rw [sq_0 c4]; exact (plF_5 c0 c1 c2 c3 c4).symm
          · rw [sq_1 c4]; exact (plF_4 c0 c1 c2 c3 c4).symm
        · rw [sq_1 c3, sq_1 c3]; exact (plF_3 c0 c1 c2 c3).symm
      · rw [sq_1 c2, sq_1 c2, sq_1 c2]; exact (plF_2 c0 c1 c2).symm
    · rw [sq_1 c1, sq_1 c1, sq_1 c1, sq_1 c1]; exact (plF_1 c0 c1).symm
  · rw [sq_1 c0, sq_1 c0, sq_1 c0, sq_1 c0, sq_1 c0]; exact (plF_0 c0).symm
theorem sp_sq {T : Int → Int} {n e : Int} : spF T n e = sq (wS T n e wFrom) (sq (daF T n (tQn T n 1 e)) (etF T n (tQn T n 4 e) (daV T n (tQn T n 1 e)))) := by
  by_cases c : wS T n e wFrom = 0
  · rw [sq_0 c]
    by_cases d : daF T n (tQn T n 1 e) = 0
    · rw [sq_0 d]
      unfold spF
      rw [if_neg (by omega), if_neg (by omega)]; rfl
    · rw [sq_1 d]; exact sp_date c d
  · rw [sq_1 c]; exact sp_from c
theorem bk_sq {T : Int → Int} {n F : Int} (hF : sq (plF T n 0) (ruF T n (bE6 T n)) = F) : sq (sq (sq F (wS T n (bE7 T n) wFrom)) (daF T n (tQn T n 1 (bE7 T n)))) (etX T n (tQn T n 4 (bE7 T n)) (daV T n (tQn T n 1 (bE7 T n)))) = bkF T n := by
  rw [sq_as, sq_as]
  have z : sq (wS T n (bE7 T n) wFrom) (sq (daF T n (tQn T n 1 (bE7 T n))) (etX T n (tQn T n 4 (bE7 T n)) (daV T n (tQn T n 1 (bE7 T n))))) = sq (spF T n (bE7 T n)) (enS T n (bE8 T n)) := by
    rw [sp_sq, sq_as, sq_as]; rfl
  rw [z, ← hF, sq_as]
  by_cases c0 : plF T n 0 = 0
  · rw [sq_0 c0]
    by_cases c1 : ruF T n (bE6 T n) = 0
    · rw [sq_0 c1]
      by_cases c2 : spF T n (bE7 T n) = 0
      · rw [sq_0 c2]
        by_cases c3 : tyA T n (tP T n (bE8 T n)) = 0
        · rw [enS_y c3]; exact (bk_4 c0 c1 c2 c3).symm
        · rw [enS_n c3]; exact (bk_3 c0 c1 c2 c3).symm
      · rw [sq_1 c2]; exact (bk_2 c0 c1 c2).symm
    · rw [sq_1 c1]; exact (bk_1 c0 c1).symm
  · rw [sq_1 c0]; exact (bk_0 c0).symm
set_option maxHeartbeats 4000000 in
set_option maxRecDepth 100000 in
theorem c_X10_ruleTold_p {Z : Zt} (zo : Zok Z) (l : Launch) (D : va_G) (cy : Cy) (L0 : List Nat) (f0 : Nat → va_E) (a0 : Nat) (ad : Nat → Nat) (hs : MS cy L0 f0 a0 ad) (Tt : Int → Int) (nn : Int) (n0 : 0 ≤ nn) (n1 : nn ≤ 160) (h14 : fI f0 a0 14 = nn) (hT : ∀ i : Int, 0 ≤ i → i < 168 → aI f0 (ad 8) i = Tt i) (bT : ∀ i : Int, 0 ≤ Tt i ∧ Tt i ≤ 255) (FF : Int) (ee : Int) (ps : PSr Tt nn f0 a0 FF ee) (e0 : 0 ≤ ee) (e1 : ee ≤ nn) (zF : FF = 0) : Cv Z l yX10_ruleTold (Cond.code yX10_ruleTold cX10_ruleTold 1 none :: TB) ({ frames := 9, cells := 0, slots := 0, locals := 190 } : Room) 0 0 D (tq cy) [.ref a0] L0 f0 (fun (L1 : List Nat) (f1 : Nat → va_E) => L0 = L1 ∧ MS cy L0 f1 a0 ad ∧ Kp a0 ad [21] [15, 16, 17, 18, 19, 20] f0 f1 ∧ (PSr Tt nn f1 a0 (ruF Tt nn ee) (ruE Tt nn ee) ∧ RQ4 (ruF Tt nn ee) f1 (ad 21) (ruK Tt nn ee) (ruN Tt nn ee) (rfV (ruK Tt nn ee) (ruV Tt nn ee) (ruW Tt nn ee)) (rfW (ruK Tt nn ee) (ruW Tt nn ee)) ∧ aI f1 (ad 21) 0 = aI f0 (ad 21) 0 ∧ aI f1 (ad 21) 1 = aI f0 (ad 21) 1 ∧ aI f1 (ad 21) 2 = aI f0 (ad 21) 2 ∧ aI f1 (ad 21) 5 = aI f0 (ad 21) 5 ∧ aI f1 (ad 21) 8 = aI f0 (ad 21) 8 ∧ aI f1 (ad 21) 9 = aI f0 (ad 21) 9)) := by
  refine Cv.enter (cc := cX10_ruleTold) (n := 1) rfl (plainFor_of_name (by decide)) (Nat.le_of_ble_eq_true rfl) ?_
  intro p e s m below meth c ls A hx hb hr hts hown hlocks hnm hml hK hA hAe hw hZ hl
  have hown : s.vm.findClass RX10 = some m.cls := hown
  have hl : lv_has ls 1 [(0, .ref a0)] := hl
  have hN : ZN s := (zo.2.2.2.2 _ _ _ hZ).2
  have hE : Kp a0 ad [21] [15, 16, 17, 18, 19, 20] f0 f0 := Kp.refl _ _ _ _ _
  have ps1 := ps.1
  have ps2 := ps.2.1
  have ps3 := ps.2.2.1
  have ps4 := ps.2.2.2.1
  have ps5 := ps.2.2.2.2.1
  have ps6 := ps.2.2.2.2.2.1
  have pb := tP_b (T := Tt) e1
  have qb := tQ_b (T := Tt) e1
  have qc := tQ_r2 (T := Tt) e0 e1
  have qd := tQ_r2 (T := Tt) qc.1 qc.2
  have qe := tQ_r2 (T := Tt) qd.1 qd.2
  refine lv_aload_n hx hb dX10_ruleTold_0 rfl (lv_at hl 0 rfl) ?_
  refine q_getr (ci := 8) (C := RX10) (T := TX10) (N := 26) hx hb hts (fun w h => List.mem_cons_of_mem _ (mfX100 w h)) hown hK hw hs.1 hs.2.1 rfl 21 (by decide) (hts _ (List.mem_cons_of_mem _ (mr3 _ (List.mem_of_getElem? (i := 22) rfl)))) (fun _ h => h) rfl (hs.2.2.1 21 rfl).1 dX10_ruleTold_1 ?_
  refine q_bipush hx hb dX10_ruleTold_4 rfl ?_
  refine q_iconst hx hb dX10_ruleTold_6 ?_
  refine q_iast hx hb hK hw (hs.2.2.1 21 rfl).2.1 1 (hs.2.2.1 21 rfl).2.2 rfl ⟨by decide, by decide⟩ (by omega) (by show _ < ((44 : Nat) : Int); omega) dX10_ruleTold_7 (fun H locs hw => ?_)
  obtain ⟨f_1, ef_1⟩ : ∃ g : Nat → va_E, g = aU f0 (ad 21) 6 (iI 0) := ⟨_, rfl⟩
  have t14_f_1 : fI f_1 a0 14 = fI f0 a0 14 := by rw [ef_1]; exact hs.fI_aU rfl _ _
  have t15_f_1 : fI f_1 a0 15 = fI f0 a0 15 := by rw [ef_1]; exact hs.fI_aU rfl _ _
  have t16_f_1 : fI f_1 a0 16 = fI f0 a0 16 := by rw [ef_1]; exact hs.fI_aU rfl _ _
  have t17_f_1 : fI f_1 a0 17 = fI f0 a0 17 := by rw [ef_1]; exact hs.fI_aU rfl _ _
  have t19_f_1 : fI f_1 a0 19 = fI f0 a0 19 := by rw [ef_1]; exact hs.fI_aU rfl _ _
  have t20_f_1 : fI f_1 a0 20 = fI f0 a0 20 := by rw [ef_1]; exact hs.fI_aU rfl _ _
  have hE := hE.trans (show Kp a0 ad [21] [15, 16, 17, 18, 19, 20] f0 f_1 by rw [ef_1]; exact Kp_aU hs rfl (by decide))
  have hs_ := hs
  have hs : MS cy L0 f_1 a0 ad := by rw [ef_1]; exact MS_aU hs rfl
  rw [← ef_1] at hw
  have ps := ps.aU (hs_.2.2.1 21 rfl).2.2 ef_1
  have Q8 : aI f_1 (ad 8) = aI f0 (ad 8) := funext fun x => hE.1 8 rfl (by decide) x
  have c21_0_f_1 : aI f_1 (ad 21) 0 = aI f0 (ad 21) 0 := by rw [ef_1]; exact hs_.aI_nj rfl (by decide) (by decide) (by decide)
  have c21_1_f_1 : aI f_1 (ad 21) 1 = aI f0 (ad 21) 1 := by rw [ef_1]; exact hs_.aI_nj rfl (by decide) (by decide) (by decide)
  have c21_2_f_1 : aI f_1 (ad 21) 2 = aI f0 (ad 21) 2 := by rw [ef_1]; exact hs_.aI_nj rfl (by decide) (by decide) (by decide)
  have c21_3_f_1 : aI f_1 (ad 21) 3 = aI f0 (ad 21) 3 := by rw [ef_1]; exact hs_.aI_nj rfl (by decide) (by decide) (by decide)
  have c21_4_f_1 : aI f_1 (ad 21) 4 = aI f0 (ad 21) 4 := by rw [ef_1]; exact hs_.aI_nj rfl (by decide) (by decide) (by decide)
  have c21_5_f_1 : aI f_1 (ad 21) 5 = aI f0 (ad 21) 5 := by rw [ef_1]; exact hs_.aI_nj rfl (by decide) (by decide) (by decide)
  have c21_6_f_1 : aI f_1 (ad 21) 6 = 0 := by rw [ef_1]; exact hs_.aI_self rfl ⟨by decide, by decide⟩
  have c21_7_f_1 : aI f_1 (ad 21) 7 = aI f0 (ad 21) 7 := by rw [ef_1]; exact hs_.aI_nj rfl (by decide) (by decide) (by decide)
  have c21_8_f_1 : aI f_1 (ad 21) 8 = aI f0 (ad 21) 8 := by rw [ef_1]; exact hs_.aI_nj rfl (by decide) (by decide) (by decide)
  have c21_9_f_1 : aI f_1 (ad 21) 9 = aI f0 (ad 21) 9 := by rw [ef_1]; exact hs_.aI_nj rfl (by decide) (by decide) (by decide)
  refine lv_aload_n hx hb dX10_ruleTold_8 rfl (lv_at hl 0 rfl) ?_
  refine q_getr (ci := 8) (C := RX10) (T := TX10) (N := 26) hx hb hts (fun w h => List.mem_cons_of_mem _ (mfX100 w h)) hown hK hw hs.1 hs.2.1 rfl 21 (by decide) (hts _ (List.mem_cons_of_mem _ (mr3 _ (List.mem_of_getElem? (i := 22) rfl)))) (fun _ h => h) rfl (hs.2.2.1 21 rfl).1 dX10_ruleTold_9 ?_
  refine q_bipush hx hb dX10_ruleTold_12 rfl ?_
  refine q_iconst hx hb dX10_ruleTold_14 ?_
  refine q_iast hx hb hK hw (hs.2.2.1 21 rfl).2.1 1 (hs.2.2.1 21 rfl).2.2 rfl ⟨by decide, by decide⟩ (by omega) (by show _ < ((44 : Nat) : Int); omega) dX10_ruleTold_15 (fun H locs hw => ?_)
  obtain ⟨f_2, ef_2⟩ : ∃ g : Nat → va_E, g = aU f_1 (ad 21) 7 (iI ((-1))) := ⟨_, rfl⟩
  have t14_f_2 : fI f_2 a0 14 = fI f_1 a0 14 := by rw [ef_2]; exact hs.fI_aU rfl _ _
  have t15_f_2 : fI f_2 a0 15 = fI f_1 a0 15 := by rw [ef_2]; exact hs.fI_aU rfl _ _
  have t16_f_2 : fI f_2 a0 16 = fI f_1 a0 16 := by rw [ef_2]; exact hs.fI_aU rfl _ _
  have t17_f_2 : fI f_2 a0 17 = fI f_1 a0 17 := by rw [ef_2]; exact hs.fI_aU rfl _ _
  have t19_f_2 : fI f_2 a0 19 = fI f_1 a0 19 := by rw [ef_2]; exact hs.fI_aU rfl _ _
  have t20_f_2 : fI f_2 a0 20 = fI f_1 a0 20 := by rw [ef_2]; exact hs.fI_aU rfl _ _
  have hE := hE.trans (show Kp a0 ad [21] [15, 16, 17, 18, 19, 20] f_1 f_2 by rw [ef_2]; exact Kp_aU hs rfl (by decide))
  have hs_ := hs
  have hs : MS cy L0 f_2 a0 ad := by rw [ef_2]; exact MS_aU hs rfl
  rw [← ef_2] at hw
  have ps := ps.aU (hs_.2.2.1 21 rfl).2.2 ef_2
  have Q8 : aI f_2 (ad 8) = aI f0 (ad 8) := funext fun x => hE.1 8 rfl (by decide) x
  have c21_0_f_2 : aI f_2 (ad 21) 0 = aI f_1 (ad 21) 0 := by rw [ef_2]; exact hs_.aI_nj rfl (by decide) (by decide) (by decide)
  have c21_1_f_2 : aI f_2 (ad 21) 1 = aI f_1 (ad 21) 1 := by rw [ef_2]; exact hs_.aI_nj rfl (by decide) (by decide) (by decide)
  have c21_2_f_2 : aI f_2 (ad 21) 2 = aI f_1 (ad 21) 2 := by rw [ef_2]; exact hs_.aI_nj rfl (by decide) (by decide) (by decide)
  have c21_3_f_2 : aI f_2 (ad 21) 3 = aI f_1 (ad 21) 3 := by rw [ef_2]; exact hs_.aI_nj rfl (by decide) (by decide) (by decide)
  have c21_4_f_2 : aI f_2 (ad 21) 4 = aI f_1 (ad 21) 4 := by rw [ef_2]; exact hs_.aI_nj rfl (by decide) (by decide) (by decide)
  have c21_5_f_2 : aI f_2 (ad 21) 5 = aI f_1 (ad 21) 5 := by rw [ef_2]; exact hs_.aI_nj rfl (by decide) (by decide) (by decide)
  have c21_6_f_2 : aI f_2 (ad 21) 6 = aI f_1 (ad 21) 6 := by rw [ef_2]; exact hs_.aI_nj rfl (by decide) (by decide) (by decide)
  have c21_7_f_2 : aI f_2 (ad 21) 7 = ((-1)) := by rw [ef_2]; exact hs_.aI_self rfl ⟨by decide, by decide⟩
  have c21_8_f_2 : aI f_2 (ad 21) 8 = aI f_1 (ad 21) 8 := by rw [ef_2]; exact hs_.aI_nj rfl (by decide) (by decide) (by decide)
  have c21_9_f_2 : aI f_2 (ad 21) 9 = aI f_1 (ad 21) 9 := by rw [ef_2]; exact hs_.aI_nj rfl (by decide) (by decide) (by decide)
  refine lv_aload_n hx hb dX10_ruleTold_16 rfl (lv_at hl 0 rfl) ?_
  obtain ⟨t_3, v_t_3, h_t_3⟩ : ∃ q v : Nat, ∀ (A : Nat → Prop) (U : State) (H : Heap), Z A U H → vk_R RX10 167 "once" q U ∧ Tx [111, 110, 99, 101] q v A U H := ztx_25 zo
  obtain ⟨b_t_3, eb_t_3⟩ : ∃ b : List Int32, b = [111, 110, 99, 101] := ⟨_, rfl⟩
  have nb_t_3 : Asc b_t_3 := by rw [eb_t_3]; exact ⟨by decide, by decide +kernel⟩
  have tx_t_3 : ∀ (A : Nat → Prop) (U : State) (H : Heap), Z A U H → Tx b_t_3 t_3 v_t_3 A U H := fun A U H h => by rw [eb_t_3]; exact (h_t_3 A U H h).2
  have wok_t_3 : WOK b_t_3 := by rw [eb_t_3]; unfold WOK; decide +kernel
  have eb_t_3 : b_t_3 = wOnce := by rw [eb_t_3]; rfl
  refine va_ldcS hx hb hown (h_t_3 _ _ _ hZ).1 dX10_ruleTold_17 ?_
  refine q_call_i hA hK hw (va_runV (As := [.ref t_3]) (rest := []) ⟨hx, hb, hml, hown, hts⟩ (c_X10_isWord_p zo l D cy L0 f_2 a0 t_3 b_t_3 v_t_3 nb_t_3 tx_t_3 ad hs wok_t_3 Tt nn n0 n1 (by omega) (by first | exact hT | exact fun i q0 q1 => (congrFun Q8 i).trans (hT i q0 q1)) bT _ _ ps (by omega) (by omega) _) (cwV 1 hts (gT (inV (mr20 _ (List.mem_of_getElem? (i := 3) rfl)) (mr20 _ (List.mem_of_getElem? (i := 4) rfl)) (mr20 _ (List.mem_of_getElem? (i := 5) rfl)) (mr1 _ (List.mem_of_getElem? (i := 5) rfl)) (mr20 _ (List.mem_of_getElem? (i := 6) rfl)))) rfl rfl rfl (by decide +kernel) ⟨Nat.le_of_ble_eq_true rfl, Nat.le_of_ble_eq_true rfl⟩) (Wd.preV zo hA hZ hw hK hs.1 hs.2.1 rfl) rfl rfl hl.1 rfl (lv_room (Nat.le_of_ble_eq_true rfl)) dX10_ruleTold_19 ⟨Nat.le_of_ble_eq_true rfl, Nat.le_of_ble_eq_true rfl⟩) (fun x_4 L1 f1 H locs lx_4 ux_4 ex_4 hw => ?_)
  obtain ⟨rfl, rfl, ex_4⟩ := ex_4
  have t19 := ex_4
  rw [eb_t_3] at t19
  clear ex_4
  refine q_if_eq (tgt := 44) hx hb dX10_ruleTold_22 (by decide) ⟨lx_4, ux_4⟩ (fun c22 => ?_) (fun c22 => ?_)
  · have n19 : NWq (FF) (wS Tt nn (ee) wOnce) := (t19.resolve_left (by omega)).2
    clear t19
    refine lv_aload_n hx hb dX10_ruleTold_44 rfl (lv_at hl 0 rfl) ?_
    obtain ⟨t_5, v_t_5, h_t_5⟩ : ∃ q v : Nat, ∀ (A : Nat → Prop) (U : State) (H : Heap), Z A U H → vk_R RX10 169 "every" q U ∧ Tx [101, 118, 101, 114, 121] q v A U H := ztx_26 zo
    obtain ⟨b_t_5, eb_t_5⟩ : ∃ b : List Int32, b = [101, 118, 101, 114, 121] := ⟨_, rfl⟩
    have nb_t_5 : Asc b_t_5 := by rw [eb_t_5]; exact ⟨by decide, by decide +kernel⟩
    have tx_t_5 : ∀ (A : Nat → Prop) (U : State) (H : Heap), Z A U H → Tx b_t_5 t_5 v_t_5 A U H := fun A U H h => by rw [eb_t_5]; exact (h_t_5 A U H h).2
    have wok_t_5 : WOK b_t_5 := by rw [eb_t_5]; unfold WOK; decide +kernel
    have eb_t_5 : b_t_5 = wEvery := by rw [eb_t_5]; rfl
    refine va_ldcS hx hb hown (h_t_5 _ _ _ hZ).1 dX10_ruleTold_45 ?_
    refine q_call_v hA hK hw (va_runV (As := [.ref t_5]) (rest := []) ⟨hx, hb, hml, hown, hts⟩ (c_X10_must_p zo l D cy L0 f_2 a0 t_5 b_t_5 v_t_5 nb_t_5 tx_t_5 ad hs wok_t_5 Tt nn n0 n1 (by omega) (by first | exact hT | exact fun i q0 q1 => (congrFun Q8 i).trans (hT i q0 q1)) bT _ _ ps (by omega) (by omega) _) (cwV 1 hts (gT (inV (mr19 _ (List.mem_of_getElem? (i := 23) rfl)) (mr20 _ (List.mem_of_getElem? (i := 0) rfl)) (mr20 _ (List.mem_of_getElem? (i := 1) rfl)) (mr1 _ (List.mem_of_getElem? (i := 5) rfl)) (mr20 _ (List.mem_of_getElem? (i := 2) rfl)))) rfl rfl rfl (by decide +kernel) ⟨Nat.le_of_ble_eq_true rfl, Nat.le_of_ble_eq_true rfl⟩) (Wd.preV zo hA hZ hw hK hs.1 hs.2.1 rfl) rfl rfl hl.1 rfl (lv_room (Nat.le_of_ble_eq_true rfl)) dX10_ruleTold_47 ⟨Nat.le_of_ble_eq_true rfl, Nat.le_of_ble_eq_true rfl⟩) (fun L1 f_7 H locs ex_6 hw => ?_)
    obtain ⟨rfl, hs, hX, ex_6⟩ := ex_6
    have hE := hE.trans (hX.mono (rs' := [21]) (fs' := [15, 16, 17, 18, 19, 20]) (by decide) (by decide))
    have t14_f_7 : fI f_7 a0 14 = fI f_2 a0 14 := hX.2 14 (by decide)
    have c21_0_f_7 : aI f_7 (ad 21) 0 = aI f_2 (ad 21) 0 := hX.1 21 rfl (by decide) _
    have c21_1_f_7 : aI f_7 (ad 21) 1 = aI f_2 (ad 21) 1 := hX.1 21 rfl (by decide) _
    have c21_2_f_7 : aI f_7 (ad 21) 2 = aI f_2 (ad 21) 2 := hX.1 21 rfl (by decide) _
    have c21_3_f_7 : aI f_7 (ad 21) 3 = aI f_2 (ad 21) 3 := hX.1 21 rfl (by decide) _
    have c21_4_f_7 : aI f_7 (ad 21) 4 = aI f_2 (ad 21) 4 := hX.1 21 rfl (by decide) _
    have c21_5_f_7 : aI f_7 (ad 21) 5 = aI f_2 (ad 21) 5 := hX.1 21 rfl (by decide) _
    have c21_6_f_7 : aI f_7 (ad 21) 6 = aI f_2 (ad 21) 6 := hX.1 21 rfl (by decide) _
    have c21_7_f_7 : aI f_7 (ad 21) 7 = aI f_2 (ad 21) 7 := hX.1 21 rfl (by decide) _
    have c21_8_f_7 : aI f_7 (ad 21) 8 = aI f_2 (ad 21) 8 := hX.1 21 rfl (by decide) _
    have c21_9_f_7 : aI f_7 (ad 21) 9 = aI f_2 (ad 21) 9 := hX.1 21 rfl (by decide) _
    have Q8 : aI f_7 (ad 8) = aI f0 (ad 8) := funext fun x => hE.1 8 rfl (by decide) x
    have ps := ex_6
    rw [sq_0 zF, eb_t_5] at ps
    clear ex_6
    refine lv_aload_n hx hb dX10_ruleTold_50 rfl (lv_at hl 0 rfl) ?_
    refine q_getr (ci := 8) (C := RX10) (T := TX10) (N := 26) hx hb hts (fun w h => List.mem_cons_of_mem _ (mfX100 w h)) hown hK hw hs.1 hs.2.1 rfl 21 (by decide) (hts _ (List.mem_cons_of_mem _ (mr3 _ (List.mem_of_getElem? (i := 22) rfl)))) (fun _ h => h) rfl (hs.2.2.1 21 rfl).1 dX10_ruleTold_51 ?_
    refine q_iconst hx hb dX10_ruleTold_54 ?_
    refine lv_aload_n hx hb dX10_ruleTold_55 rfl (lv_at hl 0 rfl) ?_
    refine q_iconst hx hb dX10_ruleTold_56 ?_
    refine q_sipush hx hb dX10_ruleTold_57 rfl ?_
    refine q_call_i hA hK hw (va_runV (As := [.int (iI 1), .int (iI 999)]) (rest := [.int (iI 4), .ref (ad 21)]) ⟨hx, hb, hml, hown, hts⟩ (c_X10_numberTold_p zo l D cy L0 f_7 a0 1 (by decide) (by decide) 999 (by decide) (by decide) ad hs Tt nn n0 n1 (by omega) (by first | exact hT | exact fun i q0 q1 => (congrFun Q8 i).trans (hT i q0 q1)) bT _ _ ps (by omega) (by omega) _) (cwV 2 hts (gT (inV (mr20 _ (List.mem_of_getElem? (i := 16) rfl)) (mr20 _ (List.mem_of_getElem? (i := 17) rfl)) (mr20 _ (List.mem_of_getElem? (i := 18) rfl)) (mr1 _ (List.mem_of_getElem? (i := 5) rfl)) (mr20 _ (List.mem_of_getElem? (i := 19) rfl)))) rfl rfl rfl (by decide +kernel) ⟨Nat.le_of_ble_eq_true rfl, Nat.le_of_ble_eq_true rfl⟩) (Wd.preV zo hA hZ hw hK hs.1 hs.2.1 rfl) rfl rfl hl.1 rfl (lv_room (Nat.le_of_ble_eq_true rfl)) dX10_ruleTold_60 ⟨Nat.le_of_ble_eq_true rfl, Nat.le_of_ble_eq_true rfl⟩) (fun x_8 L1 f_9 H locs lx_8 ux_8 ex_8 hw => ?_)
    obtain ⟨rfl, hs, hX, ex_8⟩ := ex_8
    have hE := hE.trans (hX.mono (rs' := [21]) (fs' := [15, 16, 17, 18, 19, 20]) (by decide) (by decide))
    have t14_f_9 : fI f_9 a0 14 = fI f_7 a0 14 := hX.2 14 (by decide)
    have c21_0_f_9 : aI f_9 (ad 21) 0 = aI f_7 (ad 21) 0 := hX.1 21 rfl (by decide) _
    have c21_1_f_9 : aI f_9 (ad 21) 1 = aI f_7 (ad 21) 1 := hX.1 21 rfl (by decide) _
    have c21_2_f_9 : aI f_9 (ad 21) 2 = aI f_7 (ad 21) 2 := hX.1 21 rfl (by decide) _
    have c21_3_f_9 : aI f_9 (ad 21) 3 = aI f_7 (ad 21) 3 := hX.1 21 rfl (by decide) _
    have c21_4_f_9 : aI f_9 (ad 21) 4 = aI f_7 (ad 21) 4 := hX.1 21 rfl (by decide) _
    have c21_5_f_9 : aI f_9 (ad 21) 5 = aI f_7 (ad 21) 5 := hX.1 21 rfl (by decide) _
    have c21_6_f_9 : aI f_9 (ad 21) 6 = aI f_7 (ad 21) 6 := hX.1 21 rfl (by decide) _
    have c21_7_f_9 : aI f_9 (ad 21) 7 = aI f_7 (ad 21) 7 := hX.1 21 rfl (by decide) _
    have c21_8_f_9 : aI f_9 (ad 21) 8 = aI f_7 (ad 21) 8 := hX.1 21 rfl (by decide) _
    have c21_9_f_9 : aI f_9 (ad 21) 9 = aI f_7 (ad 21) 9 := hX.1 21 rfl (by decide) _
    have Q8 : aI f_9 (ad 8) = aI f0 (ad 8) := funext fun x => hE.1 8 rfl (by decide) x
    obtain ⟨ps, v60⟩ := ex_8
    have pb3 := ps.2.2.1
    have pb4 := ps.2.2.2.1
    have pb5 := ps.2.2.2.2.1
    have pb6 := ps.2.2.2.2.2.1
    refine q_iast hx hb hK hw (hs.2.2.1 21 rfl).2.1 1 (hs.2.2.1 21 rfl).2.2 rfl ⟨by decide, by decide⟩ (by omega) (by show _ < ((44 : Nat) : Int); omega) dX10_ruleTold_63 (fun H locs hw => ?_)
    obtain ⟨f_10, ef_10⟩ : ∃ g : Nat → va_E, g = aU f_9 (ad 21) 4 (iI x_8) := ⟨_, rfl⟩
    have t14_f_10 : fI f_10 a0 14 = fI f_9 a0 14 := by rw [ef_10]; exact hs.fI_aU rfl _ _
    have t15_f_10 : fI f_10 a0 15 = fI f_9 a0 15 := by rw [ef_10]; exact hs.fI_aU rfl _ _
    have t16_f_10 : fI f_10 a0 16 = fI f_9 a0 16 := by rw [ef_10]; exact hs.fI_aU rfl _ _
    have t17_f_10 : fI f_10 a0 17 = fI f_9 a0 17 := by rw [ef_10]; exact hs.fI_aU rfl _ _
    have t19_f_10 : fI f_10 a0 19 = fI f_9 a0 19 := by rw [ef_10]; exact hs.fI_aU rfl _ _
    have t20_f_10 : fI f_10 a0 20 = fI f_9 a0 20 := by rw [ef_10]; exact hs.fI_aU rfl _ _
    have hE := hE.trans (show Kp a0 ad [21] [15, 16, 17, 18, 19, 20] f_9 f_10 by rw [ef_10]; exact Kp_aU hs rfl (by decide))
    have hs_ := hs
    have hs : MS cy L0 f_10 a0 ad := by rw [ef_10]; exact MS_aU hs rfl
    rw [← ef_10] at hw
    have ps := ps.aU (hs_.2.2.1 21 rfl).2.2 ef_10
    have Q8 : aI f_10 (ad 8) = aI f0 (ad 8) := funext fun x => hE.1 8 rfl (by decide) x
    have c21_0_f_10 : aI f_10 (ad 21) 0 = aI f_9 (ad 21) 0 := by rw [ef_10]; exact hs_.aI_nj rfl (by decide) (by decide) (by decide)
    have c21_1_f_10 : aI f_10 (ad 21) 1 = aI f_9 (ad 21) 1 := by rw [ef_10]; exact hs_.aI_nj rfl (by decide) (by decide) (by decide)
    have c21_2_f_10 : aI f_10 (ad 21) 2 = aI f_9 (ad 21) 2 := by rw [ef_10]; exact hs_.aI_nj rfl (by decide) (by decide) (by decide)
    have c21_3_f_10 : aI f_10 (ad 21) 3 = aI f_9 (ad 21) 3 := by rw [ef_10]; exact hs_.aI_nj rfl (by decide) (by decide) (by decide)
    have c21_4_f_10 : aI f_10 (ad 21) 4 = x_8 := by rw [ef_10]; exact hs_.aI_self rfl ⟨lx_8, ux_8⟩
    have c21_5_f_10 : aI f_10 (ad 21) 5 = aI f_9 (ad 21) 5 := by rw [ef_10]; exact hs_.aI_nj rfl (by decide) (by decide) (by decide)
    have c21_6_f_10 : aI f_10 (ad 21) 6 = aI f_9 (ad 21) 6 := by rw [ef_10]; exact hs_.aI_nj rfl (by decide) (by decide) (by decide)
    have c21_7_f_10 : aI f_10 (ad 21) 7 = aI f_9 (ad 21) 7 := by rw [ef_10]; exact hs_.aI_nj rfl (by decide) (by decide) (by decide)
    have c21_8_f_10 : aI f_10 (ad 21) 8 = aI f_9 (ad 21) 8 := by rw [ef_10]; exact hs_.aI_nj rfl (by decide) (by decide) (by decide)
    have c21_9_f_10 : aI f_10 (ad 21) 9 = aI f_9 (ad 21) 9 := by rw [ef_10]; exact hs_.aI_nj rfl (by decide) (by decide) (by decide)
    refine lv_aload_n hx hb dX10_ruleTold_64 rfl (lv_at hl 0 rfl) ?_
    obtain ⟨t_11, v_t_11, h_t_11⟩ : ∃ q v : Nat, ∀ (A : Nat → Prop) (U : State) (H : Heap), Z A U H → vk_R RX10 175 "days" q U ∧ Tx [100, 97, 121, 115] q v A U H := ztx_27 zo
    obtain ⟨b_t_11, eb_t_11⟩ : ∃ b : List Int32, b = [100, 97, 121, 115] := ⟨_, rfl⟩
    have nb_t_11 : Asc b_t_11 := by rw [eb_t_11]; exact ⟨by decide, by decide +kernel⟩
    have tx_t_11 : ∀ (A : Nat → Prop) (U : State) (H : Heap), Z A U H → Tx b_t_11 t_11 v_t_11 A U H := fun A U H h => by rw [eb_t_11]; exact (h_t_11 A U H h).2
    have wok_t_11 : WOK b_t_11 := by rw [eb_t_11]; unfold WOK; decide +kernel
    have eb_t_11 : b_t_11 = wDays := by rw [eb_t_11]; rfl
    refine va_ldcS hx hb hown (h_t_11 _ _ _ hZ).1 dX10_ruleTold_65 ?_
    refine q_call_i hA hK hw (va_runV (As := [.ref t_11]) (rest := []) ⟨hx, hb, hml, hown, hts⟩ (c_X10_isWord_p zo l D cy L0 f_10 a0 t_11 b_t_11 v_t_11 nb_t_11 tx_t_11 ad hs wok_t_11 Tt nn n0 n1 (by omega) (by first | exact hT | exact fun i q0 q1 => (congrFun Q8 i).trans (hT i q0 q1)) bT _ _ ps (by omega) (by omega) _) (cwV 1 hts (gT (inV (mr20 _ (List.mem_of_getElem? (i := 3) rfl)) (mr20 _ (List.mem_of_getElem? (i := 4) rfl)) (mr20 _ (List.mem_of_getElem? (i := 5) rfl)) (mr1 _ (List.mem_of_getElem? (i := 5) rfl)) (mr20 _ (List.mem_of_getElem? (i := 6) rfl)))) rfl rfl rfl (by decide +kernel) ⟨Nat.le_of_ble_eq_true rfl, Nat.le_of_ble_eq_true rfl⟩) (Wd.preV zo hA hZ hw hK hs.1 hs.2.1 rfl) rfl rfl hl.1 rfl (lv_room (Nat.le_of_ble_eq_true rfl)) dX10_ruleTold_67 ⟨Nat.le_of_ble_eq_true rfl, Nat.le_of_ble_eq_true rfl⟩) (fun x_12 L1 f1 H locs lx_12 ux_12 ex_12 hw => ?_)
    obtain ⟨rfl, rfl, ex_12⟩ := ex_12
    have t67 := ex_12
    rw [eb_t_11] at t67
    clear ex_12
    refine q_if_eq (tgt := 87) hx hb dX10_ruleTold_70 (by decide) ⟨lx_12, ux_12⟩ (fun c70 => ?_) (fun c70 => ?_)
    · have n67 : NWq (sq (wS Tt nn ee wEvery) (nS Tt nn (tQ Tt nn ee) 1 999)) (wS Tt nn (tQ Tt nn (tQ Tt nn ee)) wDays) := (t67.resolve_left (by omega)).2
      clear t67
      refine lv_aload_n hx hb dX10_ruleTold_87 rfl (lv_at hl 0 rfl) ?_
      obtain ⟨t_13, v_t_13, h_t_13⟩ : ∃ q v : Nat, ∀ (A : Nat → Prop) (U : State) (H : Heap), Z A U H → vk_R RX10 177 "weeks" q U ∧ Tx [119, 101, 101, 107, 115] q v A U H := ztx_28 zo
      obtain ⟨b_t_13, eb_t_13⟩ : ∃ b : List Int32, b = [119, 101, 101, 107, 115] := ⟨_, rfl⟩
      have nb_t_13 : Asc b_t_13 := by rw [eb_t_13]; exact ⟨by decide, by decide +kernel⟩
      have tx_t_13 : ∀ (A : Nat → Prop) (U : State) (H : Heap), Z A U H → Tx b_t_13 t_13 v_t_13 A U H := fun A U H h => by rw [eb_t_13]; exact (h_t_13 A U H h).2
      have wok_t_13 : WOK b_t_13 := by rw [eb_t_13]; unfold WOK; decide +kernel
      have eb_t_13 : b_t_13 = wWeeks := by rw [eb_t_13]; rfl
      refine va_ldcS hx hb hown (h_t_13 _ _ _ hZ).1 dX10_ruleTold_88 ?_
      refine q_call_i hA hK hw (va_runV (As := [.ref t_13]) (rest := []) ⟨hx, hb, hml, hown, hts⟩ (c_X10_isWord_p zo l D cy L0 f_10 a0 t_13 b_t_13 v_t_13 nb_t_13 tx_t_13 ad hs wok_t_13 Tt nn n0 n1 (by omega) (by first | exact hT | exact fun i q0 q1 => (congrFun Q8 i).trans (hT i q0 q1)) bT _ _ ps (by omega) (by omega) _) (cwV 1 hts (gT (inV (mr20 _ (List.mem_of_getElem? (i := 3) rfl)) (mr20 _ (List.mem_of_getElem? (i := 4) rfl)) (mr20 _ (List.mem_of_getElem? (i := 5) rfl)) (mr1 _ (List.mem_of_getElem? (i := 5) rfl)) (mr20 _ (List.mem_of_getElem? (i := 6) rfl)))) rfl rfl rfl (by decide +kernel) ⟨Nat.le_of_ble_eq_true rfl, Nat.le_of_ble_eq_true rfl⟩) (Wd.preV zo hA hZ hw hK hs.1 hs.2.1 rfl) rfl rfl hl.1 rfl (lv_room (Nat.le_of_ble_eq_true rfl)) dX10_ruleTold_90 ⟨Nat.le_of_ble_eq_true rfl, Nat.le_of_ble_eq_true rfl⟩) (fun x_14 L1 f1 H locs lx_14 ux_14 ex_14 hw => ?_)
      obtain ⟨rfl, rfl, ex_14⟩ := ex_14
      have t90 := ex_14
      rw [eb_t_13] at t90
      clear ex_14
      refine q_if_eq (tgt := 107) hx hb dX10_ruleTold_93 (by decide) ⟨lx_14, ux_14⟩ (fun c93 => ?_) (fun c93 => ?_)
      · have n90 : NWq (sq (wS Tt nn ee wEvery) (nS Tt nn (tQ Tt nn ee) 1 999)) (wS Tt nn (tQ Tt nn (tQ Tt nn ee)) wWeeks) := (t90.resolve_left (by omega)).2
        clear t90
        refine lv_aload_n hx hb dX10_ruleTold_107 rfl (lv_at hl 0 rfl) ?_
        obtain ⟨t_15, v_t_15, h_t_15⟩ : ∃ q v : Nat, ∀ (A : Nat → Prop) (U : State) (H : Heap), Z A U H → vk_R RX10 182 "months" q U ∧ Tx [109, 111, 110, 116, 104, 115] q v A U H := ztx_29 zo
        obtain ⟨b_t_15, eb_t_15⟩ : ∃ b : List Int32, b = [109, 111, 110, 116, 104, 115] := ⟨_, rfl⟩
        have nb_t_15 : Asc b_t_15 := by rw [eb_t_15]; exact ⟨by decide, by decide +kernel⟩
        have tx_t_15 : ∀ (A : Nat → Prop) (U : State) (H : Heap), Z A U H → Tx b_t_15 t_15 v_t_15 A U H := fun A U H h => by rw [eb_t_15]; exact (h_t_15 A U H h).2
        have wok_t_15 : WOK b_t_15 := by rw [eb_t_15]; unfold WOK; decide +kernel
        have eb_t_15 : b_t_15 = wMonths := by rw [eb_t_15]; rfl
        refine va_ldcS hx hb hown (h_t_15 _ _ _ hZ).1 dX10_ruleTold_108 ?_
        refine q_call_i hA hK hw (va_runV (As := [.ref t_15]) (rest := []) ⟨hx, hb, hml, hown, hts⟩ (c_X10_isWord_p zo l D cy L0 f_10 a0 t_15 b_t_15 v_t_15 nb_t_15 tx_t_15 ad hs wok_t_15 Tt nn n0 n1 (by omega) (by first | exact hT | exact fun i q0 q1 => (congrFun Q8 i).trans (hT i q0 q1)) bT _ _ ps (by omega) (by omega) _) (cwV 1 hts (gT (inV (mr20 _ (List.mem_of_getElem? (i := 3) rfl)) (mr20 _ (List.mem_of_getElem? (i := 4) rfl)) (mr20 _ (List.mem_of_getElem? (i := 5) rfl)) (mr1 _ (List.mem_of_getElem? (i := 5) rfl)) (mr20 _ (List.mem_of_getElem? (i := 6) rfl)))) rfl rfl rfl (by decide +kernel) ⟨Nat.le_of_ble_eq_true rfl, Nat.le_of_ble_eq_true rfl⟩) (Wd.preV zo hA hZ hw hK hs.1 hs.2.1 rfl) rfl rfl hl.1 rfl (lv_room (Nat.le_of_ble_eq_true rfl)) dX10_ruleTold_110 ⟨Nat.le_of_ble_eq_true rfl, Nat.le_of_ble_eq_true rfl⟩) (fun x_16 L1 f1 H locs lx_16 ux_16 ex_16 hw => ?_)
        obtain ⟨rfl, rfl, ex_16⟩ := ex_16
        have t110 := ex_16
        rw [eb_t_15] at t110
        clear ex_16
        refine q_if_eq (tgt := 127) hx hb dX10_ruleTold_113 (by decide) ⟨lx_16, ux_16⟩ (fun c113 => ?_) (fun c113 => ?_)
        · have n110 : NWq (sq (wS Tt nn ee wEvery) (nS Tt nn (tQ Tt nn ee) 1 999)) (wS Tt nn (tQ Tt nn (tQ Tt nn ee)) wMonths) := (t110.resolve_left (by omega)).2
          clear t110
          refine lv_aload_n hx hb dX10_ruleTold_127 rfl (lv_at hl 0 rfl) ?_
          obtain ⟨t_17, v_t_17, h_t_17⟩ : ∃ q v : Nat, ∀ (A : Nat → Prop) (U : State) (H : Heap), Z A U H → vk_R RX10 187 "years" q U ∧ Tx [121, 101, 97, 114, 115] q v A U H := ztx_30 zo
          obtain ⟨b_t_17, eb_t_17⟩ : ∃ b : List Int32, b = [121, 101, 97, 114, 115] := ⟨_, rfl⟩
          have nb_t_17 : Asc b_t_17 := by rw [eb_t_17]; exact ⟨by decide, by decide +kernel⟩
          have tx_t_17 : ∀ (A : Nat → Prop) (U : State) (H : Heap), Z A U H → Tx b_t_17 t_17 v_t_17 A U H := fun A U H h => by rw [eb_t_17]; exact (h_t_17 A U H h).2
          have wok_t_17 : WOK b_t_17 := by rw [eb_t_17]; unfold WOK; decide +kernel
          have eb_t_17 : b_t_17 = wYears := by rw [eb_t_17]; rfl
          refine va_ldcS hx hb hown (h_t_17 _ _ _ hZ).1 dX10_ruleTold_128 ?_
          refine q_call_i hA hK hw (va_runV (As := [.ref t_17]) (rest := []) ⟨hx, hb, hml, hown, hts⟩ (c_X10_isWord_p zo l D cy L0 f_10 a0 t_17 b_t_17 v_t_17 nb_t_17 tx_t_17 ad hs wok_t_17 Tt nn n0 n1 (by omega) (by first | exact hT | exact fun i q0 q1 => (congrFun Q8 i).trans (hT i q0 q1)) bT _ _ ps (by omega) (by omega) _) (cwV 1 hts (gT (inV (mr20 _ (List.mem_of_getElem? (i := 3) rfl)) (mr20 _ (List.mem_of_getElem? (i := 4) rfl)) (mr20 _ (List.mem_of_getElem? (i := 5) rfl)) (mr1 _ (List.mem_of_getElem? (i := 5) rfl)) (mr20 _ (List.mem_of_getElem? (i := 6) rfl)))) rfl rfl rfl (by decide +kernel) ⟨Nat.le_of_ble_eq_true rfl, Nat.le_of_ble_eq_true rfl⟩) (Wd.preV zo hA hZ hw hK hs.1 hs.2.1 rfl) rfl rfl hl.1 rfl (lv_room (Nat.le_of_ble_eq_true rfl)) dX10_ruleTold_130 ⟨Nat.le_of_ble_eq_true rfl, Nat.le_of_ble_eq_true rfl⟩) (fun x_18 L1 f1 H locs lx_18 ux_18 ex_18 hw => ?_)
          obtain ⟨rfl, rfl, ex_18⟩ := ex_18
          have t130 := ex_18
          rw [eb_t_17] at t130
          clear ex_18
          refine q_if_eq (tgt := 151) hx hb dX10_ruleTold_133 (by decide) ⟨lx_18, ux_18⟩ (fun c133 => ?_) (fun c133 => ?_)
          · have n130 : NWq (sq (wS Tt nn ee wEvery) (nS Tt nn (tQ Tt nn ee) 1 999)) (wS Tt nn (tQ Tt nn (tQ Tt nn ee)) wYears) := (t130.resolve_left (by omega)).2
            clear t130
            refine lv_aload_n hx hb dX10_ruleTold_151 rfl (lv_at hl 0 rfl) ?_
            refine q_iconst hx hb dX10_ruleTold_152 ?_
            refine q_call_v hA hK hw (va_runV (As := [.int (iI 1)]) (rest := []) ⟨hx, hb, hml, hown, hts⟩ (c_X10_wrong zo l D cy L0 f_10 a0 1 (by decide) (by decide) ad hs (by omega) (by omega) (by omega) (by omega) _) (cwV 1 hts (gT (inV (mr20 _ (List.mem_of_getElem? (i := 12) rfl)) (mr20 _ (List.mem_of_getElem? (i := 13) rfl)) (mr20 _ (List.mem_of_getElem? (i := 14) rfl)) (mr1 _ (List.mem_of_getElem? (i := 5) rfl)) (mr20 _ (List.mem_of_getElem? (i := 15) rfl)))) rfl rfl rfl (by decide +kernel) ⟨Nat.le_of_ble_eq_true rfl, Nat.le_of_ble_eq_true rfl⟩) (Wd.preV zo hA hZ hw hK hs.1 hs.2.1 rfl) rfl rfl hl.1 rfl (lv_room (Nat.le_of_ble_eq_true rfl)) dX10_ruleTold_153 ⟨Nat.le_of_ble_eq_true rfl, Nat.le_of_ble_eq_true rfl⟩) (fun L1 f_20 H locs ex_19 hw => ?_)
            obtain ⟨rfl, hs, hX, ex_19⟩ := ex_19
            have hE := hE.trans (hX.mono (rs' := [21]) (fs' := [15, 16, 17, 18, 19, 20]) (by decide) (by decide))
            have t14_f_20 : fI f_20 a0 14 = fI f_10 a0 14 := hX.2 14 (by decide)
            have t15_f_20 : fI f_20 a0 15 = fI f_10 a0 15 := hX.2 15 (by decide)
            have t16_f_20 : fI f_20 a0 16 = fI f_10 a0 16 := hX.2 16 (by decide)
            have t17_f_20 : fI f_20 a0 17 = fI f_10 a0 17 := hX.2 17 (by decide)
            have t19_f_20 : fI f_20 a0 19 = fI f_10 a0 19 := hX.2 19 (by decide)
            have c21_0_f_20 : aI f_20 (ad 21) 0 = aI f_10 (ad 21) 0 := hX.1 21 rfl (by decide) _
            have c21_1_f_20 : aI f_20 (ad 21) 1 = aI f_10 (ad 21) 1 := hX.1 21 rfl (by decide) _
            have c21_2_f_20 : aI f_20 (ad 21) 2 = aI f_10 (ad 21) 2 := hX.1 21 rfl (by decide) _
            have c21_3_f_20 : aI f_20 (ad 21) 3 = aI f_10 (ad 21) 3 := hX.1 21 rfl (by decide) _
            have c21_4_f_20 : aI f_20 (ad 21) 4 = aI f_10 (ad 21) 4 := hX.1 21 rfl (by decide) _
            have c21_5_f_20 : aI f_20 (ad 21) 5 = aI f_10 (ad 21) 5 := hX.1 21 rfl (by decide) _
            have c21_6_f_20 : aI f_20 (ad 21) 6 = aI f_10 (ad 21) 6 := hX.1 21 rfl (by decide) _
            have c21_7_f_20 : aI f_20 (ad 21) 7 = aI f_10 (ad 21) 7 := hX.1 21 rfl (by decide) _
            have c21_8_f_20 : aI f_20 (ad 21) 8 = aI f_10 (ad 21) 8 := hX.1 21 rfl (by decide) _
            have c21_9_f_20 : aI f_20 (ad 21) 9 = aI f_10 (ad 21) 9 := hX.1 21 rfl (by decide) _
            have Q8 : aI f_20 (ad 8) = aI f0 (ad 8) := funext fun x => hE.1 8 rfl (by decide) x
            have t153 := ex_19
            clear ex_19
            have m9 := ru_none (n19.z zF) n67 n90 n110 n130
            have ps9 := ps.wrong (x := wS Tt nn (tQ Tt nn (tQ Tt nn ee)) wMonths) (e' := ruE Tt nn ee) qd.1 qd.2 t153 (by omega) (by omega) (by omega) (fun z => wS_p qd.1 qd.2 (n110.z z))
            clear t153
            have fin : PSr Tt nn f_20 a0 (ruF Tt nn ee) (ruE Tt nn ee) ∧ RQ4 (ruF Tt nn ee) f_20 (ad 21) (ruK Tt nn ee) (ruN Tt nn ee) (rfV (ruK Tt nn ee) (ruV Tt nn ee) (ruW Tt nn ee)) (rfW (ruK Tt nn ee) (ruW Tt nn ee)) := ⟨ps9.to m9 rfl, fun z => absurd (m9.symm.trans z) (fun q => by have y := sq_z.mp q; exact n110.z y.1 y.2)⟩
            exact q_ret_v hx hb hr hlocks hK hAe hw (Nat.le_of_ble_eq_true rfl) (Nat.le_of_ble_eq_true rfl) dX10_ruleTold_156 (by exact ⟨rfl, hs, hE, fin.1, fin.2, by omega, by omega, by omega, by omega, by omega, by omega⟩)
          · obtain ⟨i130, z130, w130⟩ := t130.resolve_right (by omega)
            clear t130
            refine lv_aload_n hx hb dX10_ruleTold_136 rfl (lv_at hl 0 rfl) ?_
            refine q_call_v hA hK hw (va_runV (As := []) (rest := []) ⟨hx, hb, hml, hown, hts⟩ (c_X10_next_p zo l D cy L0 f_10 a0 ad hs Tt nn n0 n1 (by omega) (by first | exact hT | exact fun i q0 q1 => (congrFun Q8 i).trans (hT i q0 q1)) bT (by omega) (by omega) _) (cwV 0 hts (gT (inV (mr19 _ (List.mem_of_getElem? (i := 4) rfl)) (mr19 _ (List.mem_of_getElem? (i := 5) rfl)) (mr19 _ (List.mem_of_getElem? (i := 6) rfl)) (mr1 _ (List.mem_of_getElem? (i := 5) rfl)) (mr19 _ (List.mem_of_getElem? (i := 7) rfl)))) rfl rfl rfl (by decide +kernel) ⟨Nat.le_of_ble_eq_true rfl, Nat.le_of_ble_eq_true rfl⟩) (Wd.preV zo hA hZ hw hK hs.1 hs.2.1 rfl) rfl rfl hl.1 rfl (lv_room (Nat.le_of_ble_eq_true rfl)) dX10_ruleTold_137 ⟨Nat.le_of_ble_eq_true rfl, Nat.le_of_ble_eq_true rfl⟩) (fun L1 f_22 H locs ex_21 hw => ?_)
            obtain ⟨rfl, hs, hX, ex_21⟩ := ex_21
            have hE := hE.trans (hX.mono (rs' := [21]) (fs' := [15, 16, 17, 18, 19, 20]) (by decide) (by decide))
            have t14_f_22 : fI f_22 a0 14 = fI f_10 a0 14 := hX.2 14 (by decide)
            have t20_f_22 : fI f_22 a0 20 = fI f_10 a0 20 := hX.2 20 (by decide)
            have c21_0_f_22 : aI f_22 (ad 21) 0 = aI f_10 (ad 21) 0 := hX.1 21 rfl (by decide) _
            have c21_1_f_22 : aI f_22 (ad 21) 1 = aI f_10 (ad 21) 1 := hX.1 21 rfl (by decide) _
            have c21_2_f_22 : aI f_22 (ad 21) 2 = aI f_10 (ad 21) 2 := hX.1 21 rfl (by decide) _
            have c21_3_f_22 : aI f_22 (ad 21) 3 = aI f_10 (ad 21) 3 := hX.1 21 rfl (by decide) _
            have c21_4_f_22 : aI f_22 (ad 21) 4 = aI f_10 (ad 21) 4 := hX.1 21 rfl (by decide) _
            have c21_5_f_22 : aI f_22 (ad 21) 5 = aI f_10 (ad 21) 5 := hX.1 21 rfl (by decide) _
            have c21_6_f_22 : aI f_22 (ad 21) 6 = aI f_10 (ad 21) 6 := hX.1 21 rfl (by decide) _
            have c21_7_f_22 : aI f_22 (ad 21) 7 = aI f_10 (ad 21) 7 := hX.1 21 rfl (by decide) _
            have c21_8_f_22 : aI f_22 (ad 21) 8 = aI f_10 (ad 21) 8 := hX.1 21 rfl (by decide) _
            have c21_9_f_22 : aI f_22 (ad 21) 9 = aI f_10 (ad 21) 9 := hX.1 21 rfl (by decide) _
            have Q8 : aI f_22 (ad 8) = aI f0 (ad 8) := funext fun x => hE.1 8 rfl (by decide) x
            have ps := ps.nxt (fun z => iw_16 ps z ((wS_iff qd.1 qd.2).mp w130)) ex_21 (by omega) n1
            clear ex_21
            refine lv_aload_n hx hb dX10_ruleTold_140 rfl (lv_at hl 0 rfl) ?_
            refine q_getr (ci := 8) (C := RX10) (T := TX10) (N := 26) hx hb hts (fun w h => List.mem_cons_of_mem _ (mfX100 w h)) hown hK hw hs.1 hs.2.1 rfl 21 (by decide) (hts _ (List.mem_cons_of_mem _ (mr3 _ (List.mem_of_getElem? (i := 22) rfl)))) (fun _ h => h) rfl (hs.2.2.1 21 rfl).1 dX10_ruleTold_141 ?_
            refine q_iconst hx hb dX10_ruleTold_144 ?_
            refine q_bipush hx hb dX10_ruleTold_145 rfl ?_
            refine q_iast hx hb hK hw (hs.2.2.1 21 rfl).2.1 1 (hs.2.2.1 21 rfl).2.2 rfl ⟨by decide, by decide⟩ (by omega) (by show _ < ((44 : Nat) : Int); omega) dX10_ruleTold_147 (fun H locs hw => ?_)
            obtain ⟨f_23, ef_23⟩ : ∃ g : Nat → va_E, g = aU f_22 (ad 21) 3 (iI 7) := ⟨_, rfl⟩
            have t14_f_23 : fI f_23 a0 14 = fI f_22 a0 14 := by rw [ef_23]; exact hs.fI_aU rfl _ _
            have t15_f_23 : fI f_23 a0 15 = fI f_22 a0 15 := by rw [ef_23]; exact hs.fI_aU rfl _ _
            have t16_f_23 : fI f_23 a0 16 = fI f_22 a0 16 := by rw [ef_23]; exact hs.fI_aU rfl _ _
            have t17_f_23 : fI f_23 a0 17 = fI f_22 a0 17 := by rw [ef_23]; exact hs.fI_aU rfl _ _
            have t19_f_23 : fI f_23 a0 19 = fI f_22 a0 19 := by rw [ef_23]; exact hs.fI_aU rfl _ _
            have t20_f_23 : fI f_23 a0 20 = fI f_22 a0 20 := by rw [ef_23]; exact hs.fI_aU rfl _ _
            have hE := hE.trans (show Kp a0 ad [21] [15, 16, 17, 18, 19, 20] f_22 f_23 by rw [ef_23]; exact Kp_aU hs rfl (by decide))
            have hs_ := hs
            have hs : MS cy L0 f_23 a0 ad := by rw [ef_23]; exact MS_aU hs rfl
            rw [← ef_23] at hw
            have ps := ps.aU (hs_.2.2.1 21 rfl).2.2 ef_23
            have Q8 : aI f_23 (ad 8) = aI f0 (ad 8) := funext fun x => hE.1 8 rfl (by decide) x
            have c21_0_f_23 : aI f_23 (ad 21) 0 = aI f_22 (ad 21) 0 := by rw [ef_23]; exact hs_.aI_nj rfl (by decide) (by decide) (by decide)
            have c21_1_f_23 : aI f_23 (ad 21) 1 = aI f_22 (ad 21) 1 := by rw [ef_23]; exact hs_.aI_nj rfl (by decide) (by decide) (by decide)
            have c21_2_f_23 : aI f_23 (ad 21) 2 = aI f_22 (ad 21) 2 := by rw [ef_23]; exact hs_.aI_nj rfl (by decide) (by decide) (by decide)
            have c21_3_f_23 : aI f_23 (ad 21) 3 = 7 := by rw [ef_23]; exact hs_.aI_self rfl ⟨by decide, by decide⟩
            have c21_4_f_23 : aI f_23 (ad 21) 4 = aI f_22 (ad 21) 4 := by rw [ef_23]; exact hs_.aI_nj rfl (by decide) (by decide) (by decide)
            have c21_5_f_23 : aI f_23 (ad 21) 5 = aI f_22 (ad 21) 5 := by rw [ef_23]; exact hs_.aI_nj rfl (by decide) (by decide) (by decide)
            have c21_6_f_23 : aI f_23 (ad 21) 6 = aI f_22 (ad 21) 6 := by rw [ef_23]; exact hs_.aI_nj rfl (by decide) (by decide) (by decide)
            have c21_7_f_23 : aI f_23 (ad 21) 7 = aI f_22 (ad 21) 7 := by rw [ef_23]; exact hs_.aI_nj rfl (by decide) (by decide) (by decide)
            have c21_8_f_23 : aI f_23 (ad 21) 8 = aI f_22 (ad 21) 8 := by rw [ef_23]; exact hs_.aI_nj rfl (by decide) (by decide) (by decide)
            have c21_9_f_23 : aI f_23 (ad 21) 9 = aI f_22 (ad 21) 9 := by rw [ef_23]; exact hs_.aI_nj rfl (by decide) (by decide) (by decide)
            have z1 := sq_z.mp z130
            have z9 := ru_years (n19.z zF) z1.1 z1.2 (n67.z z130) w130
            have y := v60 z130
            have fin : PSr Tt nn f_23 a0 (ruF Tt nn ee) (ruE Tt nn ee) ∧ RQ4 (ruF Tt nn ee) f_23 (ad 21) (ruK Tt nn ee) (ruN Tt nn ee) (rfV (ruK Tt nn ee) (ruV Tt nn ee) (ruW Tt nn ee)) (rfW (ruK Tt nn ee) (ruW Tt nn ee)) := ⟨ps.to (z9.1.trans z130.symm) z9.2.2.2.2.2, fun _ => by rw [rf_v (by omega), rf_w (by omega)]; exact ⟨by omega, (show aI f_23 (ad 21) 4 = vN Tt nn (tQ Tt nn ee) by omega).trans z9.2.2.1.symm, by omega, by omega⟩⟩
            refine lv_goto (tgt := 156) hx hb dX10_ruleTold_148 (by decide) ?_
            exact q_ret_v hx hb hr hlocks hK hAe hw (Nat.le_of_ble_eq_true rfl) (Nat.le_of_ble_eq_true rfl) dX10_ruleTold_156 (by exact ⟨rfl, hs, hE, fin.1, fin.2, by omega, by omega, by omega, by omega, by omega, by omega⟩)
        · obtain ⟨i110, z110, w110⟩ := t110.resolve_right (by omega)
          clear t110
          refine lv_aload_n hx hb dX10_ruleTold_116 rfl (lv_at hl 0 rfl) ?_
          refine q_call_v hA hK hw (va_runV (As := []) (rest := []) ⟨hx, hb, hml, hown, hts⟩ (c_X10_next_p zo l D cy L0 f_10 a0 ad hs Tt nn n0 n1 (by omega) (by first | exact hT | exact fun i q0 q1 => (congrFun Q8 i).trans (hT i q0 q1)) bT (by omega) (by omega) _) (cwV 0 hts (gT (inV (mr19 _ (List.mem_of_getElem? (i := 4) rfl)) (mr19 _ (List.mem_of_getElem? (i := 5) rfl)) (mr19 _ (List.mem_of_getElem? (i := 6) rfl)) (mr1 _ (List.mem_of_getElem? (i := 5) rfl)) (mr19 _ (List.mem_of_getElem? (i := 7) rfl)))) rfl rfl rfl (by decide +kernel) ⟨Nat.le_of_ble_eq_true rfl, Nat.le_of_ble_eq_true rfl⟩) (Wd.preV zo hA hZ hw hK hs.1 hs.2.1 rfl) rfl rfl hl.1 rfl (lv_room (Nat.le_of_ble_eq_true rfl)) dX10_ruleTold_117 ⟨Nat.le_of_ble_eq_true rfl, Nat.le_of_ble_eq_true rfl⟩) (fun L1 f_25 H locs ex_24 hw => ?_)
          obtain ⟨rfl, hs, hX, ex_24⟩ := ex_24
          have hE := hE.trans (hX.mono (rs' := [21]) (fs' := [15, 16, 17, 18, 19, 20]) (by decide) (by decide))
          have t14_f_25 : fI f_25 a0 14 = fI f_10 a0 14 := hX.2 14 (by decide)
          have t20_f_25 : fI f_25 a0 20 = fI f_10 a0 20 := hX.2 20 (by decide)
          have c21_0_f_25 : aI f_25 (ad 21) 0 = aI f_10 (ad 21) 0 := hX.1 21 rfl (by decide) _
          have c21_1_f_25 : aI f_25 (ad 21) 1 = aI f_10 (ad 21) 1 := hX.1 21 rfl (by decide) _
          have c21_2_f_25 : aI f_25 (ad 21) 2 = aI f_10 (ad 21) 2 := hX.1 21 rfl (by decide) _
          have c21_3_f_25 : aI f_25 (ad 21) 3 = aI f_10 (ad 21) 3 := hX.1 21 rfl (by decide) _
          have c21_4_f_25 : aI f_25 (ad 21) 4 = aI f_10 (ad 21) 4 := hX.1 21 rfl (by decide) _
          have c21_5_f_25 : aI f_25 (ad 21) 5 = aI f_10 (ad 21) 5 := hX.1 21 rfl (by decide) _
          have c21_6_f_25 : aI f_25 (ad 21) 6 = aI f_10 (ad 21) 6 := hX.1 21 rfl (by decide) _
          have c21_7_f_25 : aI f_25 (ad 21) 7 = aI f_10 (ad 21) 7 := hX.1 21 rfl (by decide) _
          have c21_8_f_25 : aI f_25 (ad 21) 8 = aI f_10 (ad 21) 8 := hX.1 21 rfl (by decide) _
          have c21_9_f_25 : aI f_25 (ad 21) 9 = aI f_10 (ad 21) 9 := hX.1 21 rfl (by decide) _
          have Q8 : aI f_25 (ad 8) = aI f0 (ad 8) := funext fun x => hE.1 8 rfl (by decide) x
          have ps := ps.nxt (fun z => iw_16 ps z ((wS_iff qd.1 qd.2).mp w110)) ex_24 (by omega) n1
          clear ex_24
          refine lv_aload_n hx hb dX10_ruleTold_120 rfl (lv_at hl 0 rfl) ?_
          refine q_call_v hA hK hw (va_runV (As := []) (rest := []) ⟨hx, hb, hml, hown, hts⟩ (c_X10_monthsTold_p zo l D cy L0 f_25 a0 ad hs Tt nn n0 n1 (by omega) (by first | exact hT | exact fun i q0 q1 => (congrFun Q8 i).trans (hT i q0 q1)) bT _ _ ps (by omega) (by omega) z110 (by omega) _) (cwV 0 hts (gT (inV (mr21 _ (List.mem_of_getElem? (i := 8) rfl)) (mr21 _ (List.mem_of_getElem? (i := 9) rfl)) (mr21 _ (List.mem_of_getElem? (i := 10) rfl)) (mr1 _ (List.mem_of_getElem? (i := 5) rfl)) (mr21 _ (List.mem_of_getElem? (i := 11) rfl)))) rfl rfl rfl (by decide +kernel) ⟨Nat.le_of_ble_eq_true rfl, Nat.le_of_ble_eq_true rfl⟩) (Wd.preV zo hA hZ hw hK hs.1 hs.2.1 rfl) rfl rfl hl.1 rfl (lv_room (Nat.le_of_ble_eq_true rfl)) dX10_ruleTold_121 ⟨Nat.le_of_ble_eq_true rfl, Nat.le_of_ble_eq_true rfl⟩) (fun L1 f_27 H locs ex_26 hw => ?_)
          obtain ⟨rfl, hs, hX, ex_26⟩ := ex_26
          have hE := hE.trans (hX.mono (rs' := [21]) (fs' := [15, 16, 17, 18, 19, 20]) (by decide) (by decide))
          have t14_f_27 : fI f_27 a0 14 = fI f_25 a0 14 := hX.2 14 (by decide)
          have Q8 : aI f_27 (ad 8) = aI f0 (ad 8) := funext fun x => hE.1 8 rfl (by decide) x
          obtain ⟨ps, v121, k121_0, k121_1, k121_2, k121_5, k121_8, k121_9, k121_4⟩ := ex_26
          have z1 := sq_z.mp z110
          have z9 := ru_months (n19.z zF) z1.1 z1.2 (n67.z z110) (w_ex qd.1 qd.2 w110 (by decide)) (n90.z z110) w110
          have y := v60 z110
          have fin : PSr Tt nn f_27 a0 (ruF Tt nn ee) (ruE Tt nn ee) ∧ RQ4 (ruF Tt nn ee) f_27 (ad 21) (ruK Tt nn ee) (ruN Tt nn ee) (rfV (ruK Tt nn ee) (ruV Tt nn ee) (ruW Tt nn ee)) (rfW (ruK Tt nn ee) (ruW Tt nn ee)) := ⟨ps.to z9.1 z9.2.2.2.2.2, fun z => by have y2 := v121 (z9.1.symm.trans z); rw [z9.2.1, z9.2.2.2.1, z9.2.2.2.2.1]; exact ⟨y2.1, (show aI f_27 (ad 21) 4 = vN Tt nn (tQ Tt nn ee) by omega).trans z9.2.2.1.symm, y2.2.1, y2.2.2⟩⟩
          refine lv_goto (tgt := 156) hx hb dX10_ruleTold_124 (by decide) ?_
          exact q_ret_v hx hb hr hlocks hK hAe hw (Nat.le_of_ble_eq_true rfl) (Nat.le_of_ble_eq_true rfl) dX10_ruleTold_156 (by exact ⟨rfl, hs, hE, fin.1, fin.2, by omega, by omega, by omega, by omega, by omega, by omega⟩)
      · obtain ⟨i90, z90, w90⟩ := t90.resolve_right (by omega)
        clear t90
        refine lv_aload_n hx hb dX10_ruleTold_96 rfl (lv_at hl 0 rfl) ?_
        refine q_call_v hA hK hw (va_runV (As := []) (rest := []) ⟨hx, hb, hml, hown, hts⟩ (c_X10_next_p zo l D cy L0 f_10 a0 ad hs Tt nn n0 n1 (by omega) (by first | exact hT | exact fun i q0 q1 => (congrFun Q8 i).trans (hT i q0 q1)) bT (by omega) (by omega) _) (cwV 0 hts (gT (inV (mr19 _ (List.mem_of_getElem? (i := 4) rfl)) (mr19 _ (List.mem_of_getElem? (i := 5) rfl)) (mr19 _ (List.mem_of_getElem? (i := 6) rfl)) (mr1 _ (List.mem_of_getElem? (i := 5) rfl)) (mr19 _ (List.mem_of_getElem? (i := 7) rfl)))) rfl rfl rfl (by decide +kernel) ⟨Nat.le_of_ble_eq_true rfl, Nat.le_of_ble_eq_true rfl⟩) (Wd.preV zo hA hZ hw hK hs.1 hs.2.1 rfl) rfl rfl hl.1 rfl (lv_room (Nat.le_of_ble_eq_true rfl)) dX10_ruleTold_97 ⟨Nat.le_of_ble_eq_true rfl, Nat.le_of_ble_eq_true rfl⟩) (fun L1 f_29 H locs ex_28 hw => ?_)
        obtain ⟨rfl, hs, hX, ex_28⟩ := ex_28
        have hE := hE.trans (hX.mono (rs' := [21]) (fs' := [15, 16, 17, 18, 19, 20]) (by decide) (by decide))
        have t14_f_29 : fI f_29 a0 14 = fI f_10 a0 14 := hX.2 14 (by decide)
        have t20_f_29 : fI f_29 a0 20 = fI f_10 a0 20 := hX.2 20 (by decide)
        have c21_0_f_29 : aI f_29 (ad 21) 0 = aI f_10 (ad 21) 0 := hX.1 21 rfl (by decide) _
        have c21_1_f_29 : aI f_29 (ad 21) 1 = aI f_10 (ad 21) 1 := hX.1 21 rfl (by decide) _
        have c21_2_f_29 : aI f_29 (ad 21) 2 = aI f_10 (ad 21) 2 := hX.1 21 rfl (by decide) _
        have c21_3_f_29 : aI f_29 (ad 21) 3 = aI f_10 (ad 21) 3 := hX.1 21 rfl (by decide) _
        have c21_4_f_29 : aI f_29 (ad 21) 4 = aI f_10 (ad 21) 4 := hX.1 21 rfl (by decide) _
        have c21_5_f_29 : aI f_29 (ad 21) 5 = aI f_10 (ad 21) 5 := hX.1 21 rfl (by decide) _
        have c21_6_f_29 : aI f_29 (ad 21) 6 = aI f_10 (ad 21) 6 := hX.1 21 rfl (by decide) _
        have c21_7_f_29 : aI f_29 (ad 21) 7 = aI f_10 (ad 21) 7 := hX.1 21 rfl (by decide) _
        have c21_8_f_29 : aI f_29 (ad 21) 8 = aI f_10 (ad 21) 8 := hX.1 21 rfl (by decide) _
        have c21_9_f_29 : aI f_29 (ad 21) 9 = aI f_10 (ad 21) 9 := hX.1 21 rfl (by decide) _
        have Q8 : aI f_29 (ad 8) = aI f0 (ad 8) := funext fun x => hE.1 8 rfl (by decide) x
        have ps := ps.nxt (fun z => iw_16 ps z ((wS_iff qd.1 qd.2).mp w90)) ex_28 (by omega) n1
        clear ex_28
        refine lv_aload_n hx hb dX10_ruleTold_100 rfl (lv_at hl 0 rfl) ?_
        refine q_call_v hA hK hw (va_runV (As := []) (rest := []) ⟨hx, hb, hml, hown, hts⟩ (c_X10_weeksTold_p zo l D cy L0 f_29 a0 ad hs Tt nn n0 n1 (by omega) (by first | exact hT | exact fun i q0 q1 => (congrFun Q8 i).trans (hT i q0 q1)) bT _ _ ps (by omega) (by omega) z90 _) (cwV 0 hts (gT (inV (mr21 _ (List.mem_of_getElem? (i := 0) rfl)) (mr21 _ (List.mem_of_getElem? (i := 1) rfl)) (mr21 _ (List.mem_of_getElem? (i := 2) rfl)) (mr1 _ (List.mem_of_getElem? (i := 5) rfl)) (mr21 _ (List.mem_of_getElem? (i := 3) rfl)))) rfl rfl rfl (by decide +kernel) ⟨Nat.le_of_ble_eq_true rfl, Nat.le_of_ble_eq_true rfl⟩) (Wd.preV zo hA hZ hw hK hs.1 hs.2.1 rfl) rfl rfl hl.1 rfl (lv_room (Nat.le_of_ble_eq_true rfl)) dX10_ruleTold_101 ⟨Nat.le_of_ble_eq_true rfl, Nat.le_of_ble_eq_true rfl⟩) (fun L1 f_31 H locs ex_30 hw => ?_)
        obtain ⟨rfl, hs, hX, ex_30⟩ := ex_30
        have hE := hE.trans (hX.mono (rs' := [21]) (fs' := [15, 16, 17, 18, 19, 20]) (by decide) (by decide))
        have t14_f_31 : fI f_31 a0 14 = fI f_29 a0 14 := hX.2 14 (by decide)
        have Q8 : aI f_31 (ad 8) = aI f0 (ad 8) := funext fun x => hE.1 8 rfl (by decide) x
        obtain ⟨ps, v101, y101, k101_0, k101_1, k101_2, k101_5, k101_8, k101_9, k101_4, k101_7⟩ := ex_30
        have z1 := sq_z.mp z90
        have z9 := ru_weeks (n19.z zF) z1.1 z1.2 (n67.z z90) (w_ex qd.1 qd.2 w90 (by decide)) w90
        have y := v60 z90
        have fin : PSr Tt nn f_31 a0 (ruF Tt nn ee) (ruE Tt nn ee) ∧ RQ4 (ruF Tt nn ee) f_31 (ad 21) (ruK Tt nn ee) (ruN Tt nn ee) (rfV (ruK Tt nn ee) (ruV Tt nn ee) (ruW Tt nn ee)) (rfW (ruK Tt nn ee) (ruW Tt nn ee)) := ⟨ps.to z9.1 z9.2.2.2.2.2, fun z => by have y2 := v101 (z9.1.symm.trans z); rw [rf_v (by omega), rf_w (by omega)]; exact ⟨by omega, (show aI f_31 (ad 21) 4 = vN Tt nn (tQ Tt nn ee) by omega).trans z9.2.2.1.symm, y2.trans z9.2.2.2.1.symm, by omega⟩⟩
        refine lv_goto (tgt := 156) hx hb dX10_ruleTold_104 (by decide) ?_
        exact q_ret_v hx hb hr hlocks hK hAe hw (Nat.le_of_ble_eq_true rfl) (Nat.le_of_ble_eq_true rfl) dX10_ruleTold_156 (by exact ⟨rfl, hs, hE, fin.1, fin.2, by omega, by omega, by omega, by omega, by omega, by omega⟩)
    · obtain ⟨i67, z67, w67⟩ := t67.resolve_right (by omega)
      clear t67
      refine lv_aload_n hx hb dX10_ruleTold_73 rfl (lv_at hl 0 rfl) ?_
      refine q_call_v hA hK hw (va_runV (As := []) (rest := []) ⟨hx, hb, hml, hown, hts⟩ (c_X10_next_p zo l D cy L0 f_10 a0 ad hs Tt nn n0 n1 (by omega) (by first | exact hT | exact fun i q0 q1 => (congrFun Q8 i).trans (hT i q0 q1)) bT (by omega) (by omega) _) (cwV 0 hts (gT (inV (mr19 _ (List.mem_of_getElem? (i := 4) rfl)) (mr19 _ (List.mem_of_getElem? (i := 5) rfl)) (mr19 _ (List.mem_of_getElem? (i := 6) rfl)) (mr1 _ (List.mem_of_getElem? (i := 5) rfl)) (mr19 _ (List.mem_of_getElem? (i := 7) rfl)))) rfl rfl rfl (by decide +kernel) ⟨Nat.le_of_ble_eq_true rfl, Nat.le_of_ble_eq_true rfl⟩) (Wd.preV zo hA hZ hw hK hs.1 hs.2.1 rfl) rfl rfl hl.1 rfl (lv_room (Nat.le_of_ble_eq_true rfl)) dX10_ruleTold_74 ⟨Nat.le_of_ble_eq_true rfl, Nat.le_of_ble_eq_true rfl⟩) (fun L1 f_33 H locs ex_32 hw => ?_)
      obtain ⟨rfl, hs, hX, ex_32⟩ := ex_32
      have hE := hE.trans (hX.mono (rs' := [21]) (fs' := [15, 16, 17, 18, 19, 20]) (by decide) (by decide))
      have t14_f_33 : fI f_33 a0 14 = fI f_10 a0 14 := hX.2 14 (by decide)
      have t20_f_33 : fI f_33 a0 20 = fI f_10 a0 20 := hX.2 20 (by decide)
      have c21_0_f_33 : aI f_33 (ad 21) 0 = aI f_10 (ad 21) 0 := hX.1 21 rfl (by decide) _
      have c21_1_f_33 : aI f_33 (ad 21) 1 = aI f_10 (ad 21) 1 := hX.1 21 rfl (by decide) _
      have c21_2_f_33 : aI f_33 (ad 21) 2 = aI f_10 (ad 21) 2 := hX.1 21 rfl (by decide) _
      have c21_3_f_33 : aI f_33 (ad 21) 3 = aI f_10 (ad 21) 3 := hX.1 21 rfl (by decide) _
      have c21_4_f_33 : aI f_33 (ad 21) 4 = aI f_10 (ad 21) 4 := hX.1 21 rfl (by decide) _
      have c21_5_f_33 : aI f_33 (ad 21) 5 = aI f_10 (ad 21) 5 := hX.1 21 rfl (by decide) _
      have c21_6_f_33 : aI f_33 (ad 21) 6 = aI f_10 (ad 21) 6 := hX.1 21 rfl (by decide) _
      have c21_7_f_33 : aI f_33 (ad 21) 7 = aI f_10 (ad 21) 7 := hX.1 21 rfl (by decide) _
      have c21_8_f_33 : aI f_33 (ad 21) 8 = aI f_10 (ad 21) 8 := hX.1 21 rfl (by decide) _
      have c21_9_f_33 : aI f_33 (ad 21) 9 = aI f_10 (ad 21) 9 := hX.1 21 rfl (by decide) _
      have Q8 : aI f_33 (ad 8) = aI f0 (ad 8) := funext fun x => hE.1 8 rfl (by decide) x
      have ps := ps.nxt (fun z => iw_16 ps z ((wS_iff qd.1 qd.2).mp w67)) ex_32 (by omega) n1
      clear ex_32
      refine lv_aload_n hx hb dX10_ruleTold_77 rfl (lv_at hl 0 rfl) ?_
      refine q_getr (ci := 8) (C := RX10) (T := TX10) (N := 26) hx hb hts (fun w h => List.mem_cons_of_mem _ (mfX100 w h)) hown hK hw hs.1 hs.2.1 rfl 21 (by decide) (hts _ (List.mem_cons_of_mem _ (mr3 _ (List.mem_of_getElem? (i := 22) rfl)))) (fun _ h => h) rfl (hs.2.2.1 21 rfl).1 dX10_ruleTold_78 ?_
      refine q_iconst hx hb dX10_ruleTold_81 ?_
      refine q_iconst hx hb dX10_ruleTold_82 ?_
      refine q_iast hx hb hK hw (hs.2.2.1 21 rfl).2.1 1 (hs.2.2.1 21 rfl).2.2 rfl ⟨by decide, by decide⟩ (by omega) (by show _ < ((44 : Nat) : Int); omega) dX10_ruleTold_83 (fun H locs hw => ?_)
      obtain ⟨f_34, ef_34⟩ : ∃ g : Nat → va_E, g = aU f_33 (ad 21) 3 (iI 1) := ⟨_, rfl⟩
      have t14_f_34 : fI f_34 a0 14 = fI f_33 a0 14 := by rw [ef_34]; exact hs.fI_aU rfl _ _
      have t15_f_34 : fI f_34 a0 15 = fI f_33 a0 15 := by rw [ef_34]; exact hs.fI_aU rfl _ _
      have t16_f_34 : fI f_34 a0 16 = fI f_33 a0 16 := by rw [ef_34]; exact hs.fI_aU rfl _ _
      have t17_f_34 : fI f_34 a0 17 = fI f_33 a0 17 := by rw [ef_34]; exact hs.fI_aU rfl _ _
      have t19_f_34 : fI f_34 a0 19 = fI f_33 a0 19 := by rw [ef_34]; exact hs.fI_aU rfl _ _
      have t20_f_34 : fI f_34 a0 20 = fI f_33 a0 20 := by rw [ef_34]; exact hs.fI_aU rfl _ _
      have hE := hE.trans (show Kp a0 ad [21] [15, 16, 17, 18, 19, 20] f_33 f_34 by rw [ef_34]; exact Kp_aU hs rfl (by decide))
      have hs_ := hs
      have hs : MS cy L0 f_34 a0 ad := by rw [ef_34]; exact MS_aU hs rfl
      rw [← ef_34] at hw
      have ps := ps.aU (hs_.2.2.1 21 rfl).2.2 ef_34
      have Q8 : aI f_34 (ad 8) = aI f0 (ad 8) := funext fun x => hE.1 8 rfl (by decide) x
      have c21_0_f_34 : aI f_34 (ad 21) 0 = aI f_33 (ad 21) 0 := by rw [ef_34]; exact hs_.aI_nj rfl (by decide) (by decide) (by decide)
      have c21_1_f_34 : aI f_34 (ad 21) 1 = aI f_33 (ad 21) 1 := by rw [ef_34]; exact hs_.aI_nj rfl (by decide) (by decide) (by decide)
      have c21_2_f_34 : aI f_34 (ad 21) 2 = aI f_33 (ad 21) 2 := by rw [ef_34]; exact hs_.aI_nj rfl (by decide) (by decide) (by decide)
      have c21_3_f_34 : aI f_34 (ad 21) 3 = 1 := by rw [ef_34]; exact hs_.aI_self rfl ⟨by decide, by decide⟩
      have c21_4_f_34 : aI f_34 (ad 21) 4 = aI f_33 (ad 21) 4 := by rw [ef_34]; exact hs_.aI_nj rfl (by decide) (by decide) (by decide)
      have c21_5_f_34 : aI f_34 (ad 21) 5 = aI f_33 (ad 21) 5 := by rw [ef_34]; exact hs_.aI_nj rfl (by decide) (by decide) (by decide)
      have c21_6_f_34 : aI f_34 (ad 21) 6 = aI f_33 (ad 21) 6 := by rw [ef_34]; exact hs_.aI_nj rfl (by decide) (by decide) (by decide)
      have c21_7_f_34 : aI f_34 (ad 21) 7 = aI f_33 (ad 21) 7 := by rw [ef_34]; exact hs_.aI_nj rfl (by decide) (by decide) (by decide)
      have c21_8_f_34 : aI f_34 (ad 21) 8 = aI f_33 (ad 21) 8 := by rw [ef_34]; exact hs_.aI_nj rfl (by decide) (by decide) (by decide)
      have c21_9_f_34 : aI f_34 (ad 21) 9 = aI f_33 (ad 21) 9 := by rw [ef_34]; exact hs_.aI_nj rfl (by decide) (by decide) (by decide)
      have z1 := sq_z.mp z67
      have z9 := ru_days (n19.z zF) z1.1 z1.2 w67
      have y := v60 z67
      have fin : PSr Tt nn f_34 a0 (ruF Tt nn ee) (ruE Tt nn ee) ∧ RQ4 (ruF Tt nn ee) f_34 (ad 21) (ruK Tt nn ee) (ruN Tt nn ee) (rfV (ruK Tt nn ee) (ruV Tt nn ee) (ruW Tt nn ee)) (rfW (ruK Tt nn ee) (ruW Tt nn ee)) := ⟨ps.to (z9.1.trans z67.symm) z9.2.2.2.2.2, fun _ => by rw [rf_v (by omega), rf_w (by omega)]; exact ⟨by omega, (show aI f_34 (ad 21) 4 = vN Tt nn (tQ Tt nn ee) by omega).trans z9.2.2.1.symm, by omega, by omega⟩⟩
      refine lv_goto (tgt := 156) hx hb dX10_ruleTold_84 (by decide) ?_
      exact q_ret_v hx hb hr hlocks hK hAe hw (Nat.le_of_ble_eq_true rfl) (Nat.le_of_ble_eq_true rfl) dX10_ruleTold_156 (by exact ⟨rfl, hs, hE, fin.1, fin.2, by omega, by omega, by omega, by omega, by omega, by omega⟩)
  · obtain ⟨i19, z19, w19⟩ := t19.resolve_right (by omega)
    clear t19
    refine lv_aload_n hx hb dX10_ruleTold_25 rfl (lv_at hl 0 rfl) ?_
    refine q_call_v hA hK hw (va_runV (As := []) (rest := []) ⟨hx, hb, hml, hown, hts⟩ (c_X10_next_p zo l D cy L0 f_2 a0 ad hs Tt nn n0 n1 (by omega) (by first | exact hT | exact fun i q0 q1 => (congrFun Q8 i).trans (hT i q0 q1)) bT (by omega) (by omega) _) (cwV 0 hts (gT (inV (mr19 _ (List.mem_of_getElem? (i := 4) rfl)) (mr19 _ (List.mem_of_getElem? (i := 5) rfl)) (mr19 _ (List.mem_of_getElem? (i := 6) rfl)) (mr1 _ (List.mem_of_getElem? (i := 5) rfl)) (mr19 _ (List.mem_of_getElem? (i := 7) rfl)))) rfl rfl rfl (by decide +kernel) ⟨Nat.le_of_ble_eq_true rfl, Nat.le_of_ble_eq_true rfl⟩) (Wd.preV zo hA hZ hw hK hs.1 hs.2.1 rfl) rfl rfl hl.1 rfl (lv_room (Nat.le_of_ble_eq_true rfl)) dX10_ruleTold_26 ⟨Nat.le_of_ble_eq_true rfl, Nat.le_of_ble_eq_true rfl⟩) (fun L1 f_36 H locs ex_35 hw => ?_)
    obtain ⟨rfl, hs, hX, ex_35⟩ := ex_35
    have hE := hE.trans (hX.mono (rs' := [21]) (fs' := [15, 16, 17, 18, 19, 20]) (by decide) (by decide))
    have t14_f_36 : fI f_36 a0 14 = fI f_2 a0 14 := hX.2 14 (by decide)
    have t20_f_36 : fI f_36 a0 20 = fI f_2 a0 20 := hX.2 20 (by decide)
    have c21_0_f_36 : aI f_36 (ad 21) 0 = aI f_2 (ad 21) 0 := hX.1 21 rfl (by decide) _
    have c21_1_f_36 : aI f_36 (ad 21) 1 = aI f_2 (ad 21) 1 := hX.1 21 rfl (by decide) _
    have c21_2_f_36 : aI f_36 (ad 21) 2 = aI f_2 (ad 21) 2 := hX.1 21 rfl (by decide) _
    have c21_3_f_36 : aI f_36 (ad 21) 3 = aI f_2 (ad 21) 3 := hX.1 21 rfl (by decide) _
    have c21_4_f_36 : aI f_36 (ad 21) 4 = aI f_2 (ad 21) 4 := hX.1 21 rfl (by decide) _
    have c21_5_f_36 : aI f_36 (ad 21) 5 = aI f_2 (ad 21) 5 := hX.1 21 rfl (by decide) _
    have c21_6_f_36 : aI f_36 (ad 21) 6 = aI f_2 (ad 21) 6 := hX.1 21 rfl (by decide) _
    have c21_7_f_36 : aI f_36 (ad 21) 7 = aI f_2 (ad 21) 7 := hX.1 21 rfl (by decide) _
    have c21_8_f_36 : aI f_36 (ad 21) 8 = aI f_2 (ad 21) 8 := hX.1 21 rfl (by decide) _
    have c21_9_f_36 : aI f_36 (ad 21) 9 = aI f_2 (ad 21) 9 := hX.1 21 rfl (by decide) _
    have Q8 : aI f_36 (ad 8) = aI f0 (ad 8) := funext fun x => hE.1 8 rfl (by decide) x
    have ps := ps.nxt (fun z => iw_16 ps z ((wS_iff e0 e1).mp w19)) ex_35 (by omega) n1
    clear ex_35
    refine lv_aload_n hx hb dX10_ruleTold_29 rfl (lv_at hl 0 rfl) ?_
    refine q_getr (ci := 8) (C := RX10) (T := TX10) (N := 26) hx hb hts (fun w h => List.mem_cons_of_mem _ (mfX100 w h)) hown hK hw hs.1 hs.2.1 rfl 21 (by decide) (hts _ (List.mem_cons_of_mem _ (mr3 _ (List.mem_of_getElem? (i := 22) rfl)))) (fun _ h => h) rfl (hs.2.2.1 21 rfl).1 dX10_ruleTold_30 ?_
    refine q_iconst hx hb dX10_ruleTold_33 ?_
    refine q_iconst hx hb dX10_ruleTold_34 ?_
    refine q_iast hx hb hK hw (hs.2.2.1 21 rfl).2.1 1 (hs.2.2.1 21 rfl).2.2 rfl ⟨by decide, by decide⟩ (by omega) (by show _ < ((44 : Nat) : Int); omega) dX10_ruleTold_35 (fun H locs hw => ?_)
    obtain ⟨f_37, ef_37⟩ : ∃ g : Nat → va_E, g = aU f_36 (ad 21) 3 (iI 0) := ⟨_, rfl⟩
    have t14_f_37 : fI f_37 a0 14 = fI f_36 a0 14 := by rw [ef_37]; exact hs.fI_aU rfl _ _
    have t15_f_37 : fI f_37 a0 15 = fI f_36 a0 15 := by rw [ef_37]; exact hs.fI_aU rfl _ _
    have t16_f_37 : fI f_37 a0 16 = fI f_36 a0 16 := by rw [ef_37]; exact hs.fI_aU rfl _ _
    have t17_f_37 : fI f_37 a0 17 = fI f_36 a0 17 := by rw [ef_37]; exact hs.fI_aU rfl _ _
    have t19_f_37 : fI f_37 a0 19 = fI f_36 a0 19 := by rw [ef_37]; exact hs.fI_aU rfl _ _
    have t20_f_37 : fI f_37 a0 20 = fI f_36 a0 20 := by rw [ef_37]; exact hs.fI_aU rfl _ _
    have hE := hE.trans (show Kp a0 ad [21] [15, 16, 17, 18, 19, 20] f_36 f_37 by rw [ef_37]; exact Kp_aU hs rfl (by decide))
    have hs_ := hs
    have hs : MS cy L0 f_37 a0 ad := by rw [ef_37]; exact MS_aU hs rfl
    rw [← ef_37] at hw
    have ps := ps.aU (hs_.2.2.1 21 rfl).2.2 ef_37
    have Q8 : aI f_37 (ad 8) = aI f0 (ad 8) := funext fun x => hE.1 8 rfl (by decide) x
    have c21_0_f_37 : aI f_37 (ad 21) 0 = aI f_36 (ad 21) 0 := by rw [ef_37]; exact hs_.aI_nj rfl (by decide) (by decide) (by decide)
    have c21_1_f_37 : aI f_37 (ad 21) 1 = aI f_36 (ad 21) 1 := by rw [ef_37]; exact hs_.aI_nj rfl (by decide) (by decide) (by decide)
    have c21_2_f_37 : aI f_37 (ad 21) 2 = aI f_36 (ad 21) 2 := by rw [ef_37]; exact hs_.aI_nj rfl (by decide) (by decide) (by decide)
    have c21_3_f_37 : aI f_37 (ad 21) 3 = 0 := by rw [ef_37]; exact hs_.aI_self rfl ⟨by decide, by decide⟩
    have c21_4_f_37 : aI f_37 (ad 21) 4 = aI f_36 (ad 21) 4 := by rw [ef_37]; exact hs_.aI_nj rfl (by decide) (by decide) (by decide)
    have c21_5_f_37 : aI f_37 (ad 21) 5 = aI f_36 (ad 21) 5 := by rw [ef_37]; exact hs_.aI_nj rfl (by decide) (by decide) (by decide)
    have c21_6_f_37 : aI f_37 (ad 21) 6 = aI f_36 (ad 21) 6 := by rw [ef_37]; exact hs_.aI_nj rfl (by decide) (by decide) (by decide)
    have c21_7_f_37 : aI f_37 (ad 21) 7 = aI f_36 (ad 21) 7 := by rw [ef_37]; exact hs_.aI_nj rfl (by decide) (by decide) (by decide)
    have c21_8_f_37 : aI f_37 (ad 21) 8 = aI f_36 (ad 21) 8 := by rw [ef_37]; exact hs_.aI_nj rfl (by decide) (by decide) (by decide)
    have c21_9_f_37 : aI f_37 (ad 21) 9 = aI f_36 (ad 21) 9 := by rw [ef_37]; exact hs_.aI_nj rfl (by decide) (by decide) (by decide)
    refine lv_aload_n hx hb dX10_ruleTold_36 rfl (lv_at hl 0 rfl) ?_
    refine q_getr (ci := 8) (C := RX10) (T := TX10) (N := 26) hx hb hts (fun w h => List.mem_cons_of_mem _ (mfX100 w h)) hown hK hw hs.1 hs.2.1 rfl 21 (by decide) (hts _ (List.mem_cons_of_mem _ (mr3 _ (List.mem_of_getElem? (i := 22) rfl)))) (fun _ h => h) rfl (hs.2.2.1 21 rfl).1 dX10_ruleTold_37 ?_
    refine q_iconst hx hb dX10_ruleTold_40 ?_
    refine q_iconst hx hb dX10_ruleTold_41 ?_
    refine q_iast hx hb hK hw (hs.2.2.1 21 rfl).2.1 1 (hs.2.2.1 21 rfl).2.2 rfl ⟨by decide, by decide⟩ (by omega) (by show _ < ((44 : Nat) : Int); omega) dX10_ruleTold_42 (fun H locs hw => ?_)
    obtain ⟨f_38, ef_38⟩ : ∃ g : Nat → va_E, g = aU f_37 (ad 21) 4 (iI 0) := ⟨_, rfl⟩
    have t14_f_38 : fI f_38 a0 14 = fI f_37 a0 14 := by rw [ef_38]; exact hs.fI_aU rfl _ _
    have t15_f_38 : fI f_38 a0 15 = fI f_37 a0 15 := by rw [ef_38]; exact hs.fI_aU rfl _ _
    have t16_f_38 : fI f_38 a0 16 = fI f_37 a0 16 := by rw [ef_38]; exact hs.fI_aU rfl _ _
    have t17_f_38 : fI f_38 a0 17 = fI f_37 a0 17 := by rw [ef_38]; exact hs.fI_aU rfl _ _
    have t19_f_38 : fI f_38 a0 19 = fI f_37 a0 19 := by rw [ef_38]; exact hs.fI_aU rfl _ _
    have t20_f_38 : fI f_38 a0 20 = fI f_37 a0 20 := by rw [ef_38]; exact hs.fI_aU rfl _ _
    have hE := hE.trans (show Kp a0 ad [21] [15, 16, 17, 18, 19, 20] f_37 f_38 by rw [ef_38]; exact Kp_aU hs rfl (by decide))
    have hs_ := hs
    have hs : MS cy L0 f_38 a0 ad := by rw [ef_38]; exact MS_aU hs rfl
    rw [← ef_38] at hw
    have ps := ps.aU (hs_.2.2.1 21 rfl).2.2 ef_38
    have Q8 : aI f_38 (ad 8) = aI f0 (ad 8) := funext fun x => hE.1 8 rfl (by decide) x
    have c21_0_f_38 : aI f_38 (ad 21) 0 = aI f_37 (ad 21) 0 := by rw [ef_38]; exact hs_.aI_nj rfl (by decide) (by decide) (by decide)
    have c21_1_f_38 : aI f_38 (ad 21) 1 = aI f_37 (ad 21) 1 := by rw [ef_38]; exact hs_.aI_nj rfl (by decide) (by decide) (by decide)
    have c21_2_f_38 : aI f_38 (ad 21) 2 = aI f_37 (ad 21) 2 := by rw [ef_38]; exact hs_.aI_nj rfl (by decide) (by decide) (by decide)
    have c21_3_f_38 : aI f_38 (ad 21) 3 = aI f_37 (ad 21) 3 := by rw [ef_38]; exact hs_.aI_nj rfl (by decide) (by decide) (by decide)
    have c21_4_f_38 : aI f_38 (ad 21) 4 = 0 := by rw [ef_38]; exact hs_.aI_self rfl ⟨by decide, by decide⟩
    have c21_5_f_38 : aI f_38 (ad 21) 5 = aI f_37 (ad 21) 5 := by rw [ef_38]; exact hs_.aI_nj rfl (by decide) (by decide) (by decide)
    have c21_6_f_38 : aI f_38 (ad 21) 6 = aI f_37 (ad 21) 6 := by rw [ef_38]; exact hs_.aI_nj rfl (by decide) (by decide) (by decide)
    have c21_7_f_38 : aI f_38 (ad 21) 7 = aI f_37 (ad 21) 7 := by rw [ef_38]; exact hs_.aI_nj rfl (by decide) (by decide) (by decide)
    have c21_8_f_38 : aI f_38 (ad 21) 8 = aI f_37 (ad 21) 8 := by rw [ef_38]; exact hs_.aI_nj rfl (by decide) (by decide) (by decide)
    have c21_9_f_38 : aI f_38 (ad 21) 9 = aI f_37 (ad 21) 9 := by rw [ef_38]; exact hs_.aI_nj rfl (by decide) (by decide) (by decide)
    have z9 := ru_once w19
    have fin : PSr Tt nn f_38 a0 (ruF Tt nn ee) (ruE Tt nn ee) ∧ RQ4 (ruF Tt nn ee) f_38 (ad 21) (ruK Tt nn ee) (ruN Tt nn ee) (rfV (ruK Tt nn ee) (ruV Tt nn ee) (ruW Tt nn ee)) (rfW (ruK Tt nn ee) (ruW Tt nn ee)) := ⟨ps.to (z9.1.trans zF.symm) z9.2.2.2.2.2, fun _ => by rw [rf_v (by omega), rf_w (by omega)]; exact ⟨by omega, by omega, by omega, by omega⟩⟩
    exact q_ret_v hx hb hr hlocks hK hAe hw (Nat.le_of_ble_eq_true rfl) (Nat.le_of_ble_eq_true rfl) dX10_ruleTold_43 (by exact ⟨rfl, hs, hE, fin.1, fin.2, by omega, by omega, by omega, by omega, by omega, by omega⟩)
set_option maxHeartbeats 4000000 in
set_option maxRecDepth 100000 in
theorem c_X10_endTold_p {Z : Zt} (zo : Zok Z) (l : Launch) (D : va_G) (cy : Cy) (L0 : List Nat) (f0 : Nat → va_E) (a0 : Nat) (ad : Nat → Nat) (hs : MS cy L0 f0 a0 ad) (Tt : Int → Int) (nn : Int) (n0 : 0 ≤ nn) (n1 : nn ≤ 160) (h14 : fI f0 a0 14 = nn) (hT : ∀ i : Int, 0 ≤ i → i < 168 → aI f0 (ad 8) i = Tt i) (bT : ∀ i : Int, 0 ≤ Tt i ∧ Tt i ≤ 255) (FF : Int) (ee : Int) (ps : PSr Tt nn f0 a0 FF ee) (e0 : 0 ≤ ee) (e1 : ee ≤ nn) (hd : DT f0 ad 36525) : Cv Z l yX10_endTold (Cond.code yX10_endTold cX10_endTold 1 none :: TB) ({ frames := 6, cells := 0, slots := 0, locals := 129 } : Room) 0 0 D (tq cy) [.ref a0] L0 f0 (fun (L1 : List Nat) (f1 : Nat → va_E) => L0 = L1 ∧ MS cy L0 f1 a0 ad ∧ Kp a0 ad [21] [15, 16, 17, 18, 19, 20, 22] f0 f1 ∧ (PSr Tt nn f1 a0 (sq FF (etX Tt nn ee (aI f0 (ad 21) 5))) (etE Tt nn ee) ∧ RQ2 (sq FF (etX Tt nn ee (aI f0 (ad 21) 5))) f1 (ad 21) (etU Tt nn ee) (etT Tt nn ee) ∧ aI f1 (ad 21) 0 = aI f0 (ad 21) 0 ∧ aI f1 (ad 21) 1 = aI f0 (ad 21) 1 ∧ aI f1 (ad 21) 2 = aI f0 (ad 21) 2 ∧ aI f1 (ad 21) 3 = aI f0 (ad 21) 3 ∧ aI f1 (ad 21) 4 = aI f0 (ad 21) 4 ∧ aI f1 (ad 21) 5 = aI f0 (ad 21) 5 ∧ aI f1 (ad 21) 6 = aI f0 (ad 21) 6 ∧ aI f1 (ad 21) 7 = aI f0 (ad 21) 7)) := by
  refine Cv.enter (cc := cX10_endTold) (n := 1) rfl (plainFor_of_name (by decide)) (Nat.le_of_ble_eq_true rfl) ?_
  intro p e s m below meth c ls A hx hb hr hts hown hlocks hnm hml hK hA hAe hw hZ hl
  have hown : s.vm.findClass RX10 = some m.cls := hown
  have hl : lv_has ls 1 [(0, .ref a0)] := hl
  have hN : ZN s := (zo.2.2.2.2 _ _ _ hZ).2
  have hE : Kp a0 ad [21] [15, 16, 17, 18, 19, 20, 22] f0 f0 := Kp.refl _ _ _ _ _
  have ps1 := ps.1
  have ps2 := ps.2.1
  have ps3 := ps.2.2.1
  have ps4 := ps.2.2.2.1
  have ps5 := ps.2.2.2.2.1
  have ps6 := ps.2.2.2.2.2.1
  have pb := tP_b (T := Tt) e1
  have qb := tQ_b (T := Tt) e1
  have qc := tQ_r2 (T := Tt) e0 e1
  have qd := tQ_r2 (T := Tt) qc.1 qc.2
  have qx := etE_b (T := Tt) e0 e1
  have px := tP_b (T := Tt) qx.2
  have pq := tP_b (T := Tt) qc.2
  refine lv_aload_n hx hb dX10_endTold_0 rfl (lv_at hl 0 rfl) ?_
  refine q_getr (ci := 8) (C := RX10) (T := TX10) (N := 26) hx hb hts (fun w h => List.mem_cons_of_mem _ (mfX100 w h)) hown hK hw hs.1 hs.2.1 rfl 21 (by decide) (hts _ (List.mem_cons_of_mem _ (mr3 _ (List.mem_of_getElem? (i := 22) rfl)))) (fun _ h => h) rfl (hs.2.2.1 21 rfl).1 dX10_endTold_1 ?_
  refine q_bipush hx hb dX10_endTold_4 rfl ?_
  refine q_iconst hx hb dX10_endTold_6 ?_
  refine q_iast hx hb hK hw (hs.2.2.1 21 rfl).2.1 1 (hs.2.2.1 21 rfl).2.2 rfl ⟨by decide, by decide⟩ (by omega) (by show _ < ((44 : Nat) : Int); omega) dX10_endTold_7 (fun H locs hw => ?_)
  obtain ⟨f_1, ef_1⟩ : ∃ g : Nat → va_E, g = aU f0 (ad 21) 8 (iI ((-1))) := ⟨_, rfl⟩
  have t14_f_1 : fI f_1 a0 14 = fI f0 a0 14 := by rw [ef_1]; exact hs.fI_aU rfl _ _
  have t15_f_1 : fI f_1 a0 15 = fI f0 a0 15 := by rw [ef_1]; exact hs.fI_aU rfl _ _
  have t16_f_1 : fI f_1 a0 16 = fI f0 a0 16 := by rw [ef_1]; exact hs.fI_aU rfl _ _
  have t17_f_1 : fI f_1 a0 17 = fI f0 a0 17 := by rw [ef_1]; exact hs.fI_aU rfl _ _
  have t19_f_1 : fI f_1 a0 19 = fI f0 a0 19 := by rw [ef_1]; exact hs.fI_aU rfl _ _
  have t20_f_1 : fI f_1 a0 20 = fI f0 a0 20 := by rw [ef_1]; exact hs.fI_aU rfl _ _
  have t22_f_1 : fI f_1 a0 22 = fI f0 a0 22 := by rw [ef_1]; exact hs.fI_aU rfl _ _
  have hE := hE.trans (show Kp a0 ad [21] [15, 16, 17, 18, 19, 20, 22] f0 f_1 by rw [ef_1]; exact Kp_aU hs rfl (by decide))
  have hs_ := hs
  have hs : MS cy L0 f_1 a0 ad := by rw [ef_1]; exact MS_aU hs rfl
  rw [← ef_1] at hw
  have ps := ps.aU (hs_.2.2.1 21 rfl).2.2 ef_1
  have Q8 : aI f_1 (ad 8) = aI f0 (ad 8) := funext fun x => hE.1 8 rfl (by decide) x
  have c21_0_f_1 : aI f_1 (ad 21) 0 = aI f0 (ad 21) 0 := by rw [ef_1]; exact hs_.aI_nj rfl (by decide) (by decide) (by decide)
  have c21_1_f_1 : aI f_1 (ad 21) 1 = aI f0 (ad 21) 1 := by rw [ef_1]; exact hs_.aI_nj rfl (by decide) (by decide) (by decide)
  have c21_2_f_1 : aI f_1 (ad 21) 2 = aI f0 (ad 21) 2 := by rw [ef_1]; exact hs_.aI_nj rfl (by decide) (by decide) (by decide)
  have c21_3_f_1 : aI f_1 (ad 21) 3 = aI f0 (ad 21) 3 := by rw [ef_1]; exact hs_.aI_nj rfl (by decide) (by decide) (by decide)
  have c21_4_f_1 : aI f_1 (ad 21) 4 = aI f0 (ad 21) 4 := by rw [ef_1]; exact hs_.aI_nj rfl (by decide) (by decide) (by decide)
  have c21_5_f_1 : aI f_1 (ad 21) 5 = aI f0 (ad 21) 5 := by rw [ef_1]; exact hs_.aI_nj rfl (by decide) (by decide) (by decide)
  have c21_6_f_1 : aI f_1 (ad 21) 6 = aI f0 (ad 21) 6 := by rw [ef_1]; exact hs_.aI_nj rfl (by decide) (by decide) (by decide)
  have c21_7_f_1 : aI f_1 (ad 21) 7 = aI f0 (ad 21) 7 := by rw [ef_1]; exact hs_.aI_nj rfl (by decide) (by decide) (by decide)
  have c21_8_f_1 : aI f_1 (ad 21) 8 = ((-1)) := by rw [ef_1]; exact hs_.aI_self rfl ⟨by decide, by decide⟩
  have c21_9_f_1 : aI f_1 (ad 21) 9 = aI f0 (ad 21) 9 := by rw [ef_1]; exact hs_.aI_nj rfl (by decide) (by decide) (by decide)
  refine lv_aload_n hx hb dX10_endTold_8 rfl (lv_at hl 0 rfl) ?_
  refine q_getr (ci := 8) (C := RX10) (T := TX10) (N := 26) hx hb hts (fun w h => List.mem_cons_of_mem _ (mfX100 w h)) hown hK hw hs.1 hs.2.1 rfl 21 (by decide) (hts _ (List.mem_cons_of_mem _ (mr3 _ (List.mem_of_getElem? (i := 22) rfl)))) (fun _ h => h) rfl (hs.2.2.1 21 rfl).1 dX10_endTold_9 ?_
  refine q_bipush hx hb dX10_endTold_12 rfl ?_
  refine q_iconst hx hb dX10_endTold_14 ?_
  refine q_iast hx hb hK hw (hs.2.2.1 21 rfl).2.1 1 (hs.2.2.1 21 rfl).2.2 rfl ⟨by decide, by decide⟩ (by omega) (by show _ < ((44 : Nat) : Int); omega) dX10_endTold_15 (fun H locs hw => ?_)
  obtain ⟨f_2, ef_2⟩ : ∃ g : Nat → va_E, g = aU f_1 (ad 21) 9 (iI ((-1))) := ⟨_, rfl⟩
  have t14_f_2 : fI f_2 a0 14 = fI f_1 a0 14 := by rw [ef_2]; exact hs.fI_aU rfl _ _
  have t15_f_2 : fI f_2 a0 15 = fI f_1 a0 15 := by rw [ef_2]; exact hs.fI_aU rfl _ _
  have t16_f_2 : fI f_2 a0 16 = fI f_1 a0 16 := by rw [ef_2]; exact hs.fI_aU rfl _ _
  have t17_f_2 : fI f_2 a0 17 = fI f_1 a0 17 := by rw [ef_2]; exact hs.fI_aU rfl _ _
  have t19_f_2 : fI f_2 a0 19 = fI f_1 a0 19 := by rw [ef_2]; exact hs.fI_aU rfl _ _
  have t20_f_2 : fI f_2 a0 20 = fI f_1 a0 20 := by rw [ef_2]; exact hs.fI_aU rfl _ _
  have t22_f_2 : fI f_2 a0 22 = fI f_1 a0 22 := by rw [ef_2]; exact hs.fI_aU rfl _ _
  have hE := hE.trans (show Kp a0 ad [21] [15, 16, 17, 18, 19, 20, 22] f_1 f_2 by rw [ef_2]; exact Kp_aU hs rfl (by decide))
  have hs_ := hs
  have hs : MS cy L0 f_2 a0 ad := by rw [ef_2]; exact MS_aU hs rfl
  rw [← ef_2] at hw
  have ps := ps.aU (hs_.2.2.1 21 rfl).2.2 ef_2
  have Q8 : aI f_2 (ad 8) = aI f0 (ad 8) := funext fun x => hE.1 8 rfl (by decide) x
  have c21_0_f_2 : aI f_2 (ad 21) 0 = aI f_1 (ad 21) 0 := by rw [ef_2]; exact hs_.aI_nj rfl (by decide) (by decide) (by decide)
  have c21_1_f_2 : aI f_2 (ad 21) 1 = aI f_1 (ad 21) 1 := by rw [ef_2]; exact hs_.aI_nj rfl (by decide) (by decide) (by decide)
  have c21_2_f_2 : aI f_2 (ad 21) 2 = aI f_1 (ad 21) 2 := by rw [ef_2]; exact hs_.aI_nj rfl (by decide) (by decide) (by decide)
  have c21_3_f_2 : aI f_2 (ad 21) 3 = aI f_1 (ad 21) 3 := by rw [ef_2]; exact hs_.aI_nj rfl (by decide) (by decide) (by decide)
  have c21_4_f_2 : aI f_2 (ad 21) 4 = aI f_1 (ad 21) 4 := by rw [ef_2]; exact hs_.aI_nj rfl (by decide) (by decide) (by decide)
  have c21_5_f_2 : aI f_2 (ad 21) 5 = aI f_1 (ad 21) 5 := by rw [ef_2]; exact hs_.aI_nj rfl (by decide) (by decide) (by decide)
  have c21_6_f_2 : aI f_2 (ad 21) 6 = aI f_1 (ad 21) 6 := by rw [ef_2]; exact hs_.aI_nj rfl (by decide) (by decide) (by decide)
  have c21_7_f_2 : aI f_2 (ad 21) 7 = aI f_1 (ad 21) 7 := by rw [ef_2]; exact hs_.aI_nj rfl (by decide) (by decide) (by decide)
  have c21_8_f_2 : aI f_2 (ad 21) 8 = aI f_1 (ad 21) 8 := by rw [ef_2]; exact hs_.aI_nj rfl (by decide) (by decide) (by decide)
  have c21_9_f_2 : aI f_2 (ad 21) 9 = ((-1)) := by rw [ef_2]; exact hs_.aI_self rfl ⟨by decide, by decide⟩
  refine lv_aload_n hx hb dX10_endTold_16 rfl (lv_at hl 0 rfl) ?_
  obtain ⟨t_3, v_t_3, h_t_3⟩ : ∃ q v : Nat, ∀ (A : Nat → Prop) (U : State) (H : Heap), Z A U H → vk_R RX10 200 "until" q U ∧ Tx [117, 110, 116, 105, 108] q v A U H := ztx_35 zo
  obtain ⟨b_t_3, eb_t_3⟩ : ∃ b : List Int32, b = [117, 110, 116, 105, 108] := ⟨_, rfl⟩
  have nb_t_3 : Asc b_t_3 := by rw [eb_t_3]; exact ⟨by decide, by decide +kernel⟩
  have tx_t_3 : ∀ (A : Nat → Prop) (U : State) (H : Heap), Z A U H → Tx b_t_3 t_3 v_t_3 A U H := fun A U H h => by rw [eb_t_3]; exact (h_t_3 A U H h).2
  have wok_t_3 : WOK b_t_3 := by rw [eb_t_3]; unfold WOK; decide +kernel
  have eb_t_3 : b_t_3 = wUntil := by rw [eb_t_3]; rfl
  refine va_ldcS hx hb hown (h_t_3 _ _ _ hZ).1 dX10_endTold_17 ?_
  refine q_call_i hA hK hw (va_runV (As := [.ref t_3]) (rest := []) ⟨hx, hb, hml, hown, hts⟩ (c_X10_isWord_p zo l D cy L0 f_2 a0 t_3 b_t_3 v_t_3 nb_t_3 tx_t_3 ad hs wok_t_3 Tt nn n0 n1 (by omega) (by first | exact hT | exact fun i q0 q1 => (congrFun Q8 i).trans (hT i q0 q1)) bT _ _ ps (by omega) (by omega) _) (cwV 1 hts (gT (inV (mr20 _ (List.mem_of_getElem? (i := 3) rfl)) (mr20 _ (List.mem_of_getElem? (i := 4) rfl)) (mr20 _ (List.mem_of_getElem? (i := 5) rfl)) (mr1 _ (List.mem_of_getElem? (i := 5) rfl)) (mr20 _ (List.mem_of_getElem? (i := 6) rfl)))) rfl rfl rfl (by decide +kernel) ⟨Nat.le_of_ble_eq_true rfl, Nat.le_of_ble_eq_true rfl⟩) (Wd.preV zo hA hZ hw hK hs.1 hs.2.1 rfl) rfl rfl hl.1 rfl (lv_room (Nat.le_of_ble_eq_true rfl)) dX10_endTold_19 ⟨Nat.le_of_ble_eq_true rfl, Nat.le_of_ble_eq_true rfl⟩) (fun x_4 L1 f1 H locs lx_4 ux_4 ex_4 hw => ?_)
  obtain ⟨rfl, rfl, ex_4⟩ := ex_4
  have t19 := ex_4
  rw [eb_t_3] at t19
  clear ex_4
  have J107 : ∀ (L : List Nat) (fw107 : Nat → va_E) (hs : MS cy L0 fw107 a0 ad) (hE : Kp a0 ad [21] [15, 16, 17, 18, 19, 20, 22] f0 fw107) (i5 : fI fw107 a0 14 = nn) (p107 : PSr Tt nn fw107 a0 (sq FF (etF Tt nn ee (aI f0 (ad 21) 5))) (etE Tt nn ee)) (v107 : RQ2 (sq FF (etF Tt nn ee (aI f0 (ad 21) 5))) fw107 (ad 21) (etU Tt nn ee) (etT Tt nn ee)) (z0 : aI fw107 (ad 21) 0 = aI f0 (ad 21) 0) (z1 : aI fw107 (ad 21) 1 = aI f0 (ad 21) 1) (z2 : aI fw107 (ad 21) 2 = aI f0 (ad 21) 2) (z3 : aI fw107 (ad 21) 3 = aI f0 (ad 21) 3) (z4 : aI fw107 (ad 21) 4 = aI f0 (ad 21) 4) (z5 : aI fw107 (ad 21) 5 = aI f0 (ad 21) 5) (z6 : aI fw107 (ad 21) 6 = aI f0 (ad 21) 6) (z7 : aI fw107 (ad 21) 7 = aI f0 (ad 21) 7) (H : Heap) (locs : List Loc) (ls : Array Slot) (hw : Wd D A s.heap L0 fw107 H locs) (hl : lv_has ls 1 [(0, .ref a0)]), W p l e ({ frames := 6, cells := 0, slots := 0, locals := 129 } : Room) s m ([.ref a0] : List Value).toArray below meth c H locs (0 + 0) (0 + 0) (MQ below (Qv D (tq cy) L0 f0 s.heap.size (fun (L1 : List Nat) (f1 : Nat → va_E) => L0 = L1 ∧ MS cy L0 f1 a0 ad ∧ Kp a0 ad [21] [15, 16, 17, 18, 19, 20, 22] f0 f1 ∧ (PSr Tt nn f1 a0 (sq FF (etX Tt nn ee (aI f0 (ad 21) 5))) (etE Tt nn ee) ∧ RQ2 (sq FF (etX Tt nn ee (aI f0 (ad 21) 5))) f1 (ad 21) (etU Tt nn ee) (etT Tt nn ee) ∧ aI f1 (ad 21) 0 = aI f0 (ad 21) 0 ∧ aI f1 (ad 21) 1 = aI f0 (ad 21) 1 ∧ aI f1 (ad 21) 2 = aI f0 (ad 21) 2 ∧ aI f1 (ad 21) 3 = aI f0 (ad 21) 3 ∧ aI f1 (ad 21) 4 = aI f0 (ad 21) 4 ∧ aI f1 (ad 21) 5 = aI f0 (ad 21) 5 ∧ aI f1 (ad 21) 6 = aI f0 (ad 21) 6 ∧ aI f1 (ad 21) 7 = aI f0 (ad 21) 7))) ([.ref a0] : List Value).toArray s 0 0 A) (F0 m 107 ls []) := by
    intro L fw107 hs hE i5 p107 v107 z0 z1 z2 z3 z4 z5 z6 z7 H locs ls hw hl
    have pf := p107.1
    have ps := p107
    have Q8 : aI fw107 (ad 8) = aI f0 (ad 8) := funext fun x => hE.1 8 rfl (by decide) x
    refine lv_aload_n hx hb dX10_endTold_107 rfl (lv_at hl 0 rfl) ?_
    refine q_geti (ci := 8) (C := RX10) (T := TX10) (N := 26) hx hb hts (fun w h => List.mem_cons_of_mem _ (mfX100 w h)) hown hK hw hs.1 hs.2.1 rfl 20 (by decide) (hts _ (List.mem_cons_of_mem _ (mr19 _ (List.mem_of_getElem? (i := 2) rfl)))) (fun _ h => h) rfl dX10_endTold_108 (fun x_5 lx_5 ux_5 ex_5 => ?_)
    refine q_if_ne (tgt := 126) hx hb dX10_endTold_111 (by decide) ⟨lx_5, ux_5⟩ (fun c111 => ?_) (fun c111 => ?_)
    · have fin : PSr Tt nn fw107 a0 (sq FF (etX Tt nn ee (aI f0 (ad 21) 5))) (etE Tt nn ee) := p107.F (by omega) ((sq_as (F := FF) (x := etF Tt nn ee (aI f0 (ad 21) 5)) (y := enS Tt nn (etE Tt nn ee))).symm.trans (sq_1 (by omega)))
      exact q_ret_v hx hb hr hlocks hK hAe hw (Nat.le_of_ble_eq_true rfl) (Nat.le_of_ble_eq_true rfl) dX10_endTold_126 (by exact ⟨rfl, hs, hE, fin, fun z => by have y := v107 (sq_z.mp ((sq_as (F := FF) (x := etF Tt nn ee (aI f0 (ad 21) 5)) (y := enS Tt nn (etE Tt nn ee))).trans z)).1; exact ⟨Eq.trans (by omega) y.1, Eq.trans (by omega) y.2⟩, by omega, by omega, by omega, by omega, by omega, by omega, by omega, by omega⟩)
    · refine lv_aload_n hx hb dX10_endTold_114 rfl (lv_at hl 0 rfl) ?_
      refine q_geti (ci := 8) (C := RX10) (T := TX10) (N := 26) hx hb hts (fun w h => List.mem_cons_of_mem _ (mfX100 w h)) hown hK hw hs.1 hs.2.1 rfl 17 (by decide) (hts _ (List.mem_cons_of_mem _ (mr19 _ (List.mem_of_getElem? (i := 9) rfl)))) (fun _ h => h) rfl dX10_endTold_115 (fun x_6 lx_6 ux_6 ex_6 => ?_)
      refine q_if_eq (tgt := 126) hx hb dX10_endTold_118 (by decide) ⟨lx_6, ux_6⟩ (fun c118 => ?_) (fun c118 => ?_)
      · have h9 : sq FF (etF Tt nn ee (aI f0 (ad 21) 5)) = 0 := by omega
        have h8 := enS_y ((p107.sr h9).e.mp (by omega))
        have fin : PSr Tt nn fw107 a0 (sq FF (etX Tt nn ee (aI f0 (ad 21) 5))) (etE Tt nn ee) := p107.to ((sq_as (F := FF) (x := etF Tt nn ee (aI f0 (ad 21) 5)) (y := enS Tt nn (etE Tt nn ee))).symm.trans ((sq_0 h9).trans (h8.trans h9.symm))) rfl
        exact q_ret_v hx hb hr hlocks hK hAe hw (Nat.le_of_ble_eq_true rfl) (Nat.le_of_ble_eq_true rfl) dX10_endTold_126 (by exact ⟨rfl, hs, hE, fin, fun z => by have y := v107 (sq_z.mp ((sq_as (F := FF) (x := etF Tt nn ee (aI f0 (ad 21) 5)) (y := enS Tt nn (etE Tt nn ee))).trans z)).1; exact ⟨Eq.trans (by omega) y.1, Eq.trans (by omega) y.2⟩, by omega, by omega, by omega, by omega, by omega, by omega, by omega, by omega⟩)
      · have h9 : sq FF (etF Tt nn ee (aI f0 (ad 21) 5)) = 0 := by omega
        have h8 := enS_n (fun z => absurd ((p107.sr h9).e.mpr z) (by omega))
        have pl9 := p107.pl h9
        refine lv_aload_n hx hb dX10_endTold_121 rfl (lv_at hl 0 rfl) ?_
        refine q_iconst hx hb dX10_endTold_122 ?_
        refine q_call_v hA hK hw (va_runV (As := [.int (iI 1)]) (rest := []) ⟨hx, hb, hml, hown, hts⟩ (c_X10_wrong zo l D cy L0 fw107 a0 1 (by decide) (by decide) ad hs (by omega) (by omega) (by omega) (by omega) _) (cwV 1 hts (gT (inV (mr20 _ (List.mem_of_getElem? (i := 12) rfl)) (mr20 _ (List.mem_of_getElem? (i := 13) rfl)) (mr20 _ (List.mem_of_getElem? (i := 14) rfl)) (mr1 _ (List.mem_of_getElem? (i := 5) rfl)) (mr20 _ (List.mem_of_getElem? (i := 15) rfl)))) rfl rfl rfl (by decide +kernel) ⟨Nat.le_of_ble_eq_true rfl, Nat.le_of_ble_eq_true rfl⟩) (Wd.preV zo hA hZ hw hK hs.1 hs.2.1 rfl) rfl rfl hl.1 rfl (lv_room (Nat.le_of_ble_eq_true rfl)) dX10_endTold_123 ⟨Nat.le_of_ble_eq_true rfl, Nat.le_of_ble_eq_true rfl⟩) (fun L1 f_8 H locs ex_7 hw => ?_)
        obtain ⟨rfl, hs, hX, ex_7⟩ := ex_7
        have hE := hE.trans (hX.mono (rs' := [21]) (fs' := [15, 16, 17, 18, 19, 20, 22]) (by decide) (by decide))
        have t14_f_8 : fI f_8 a0 14 = fI fw107 a0 14 := hX.2 14 (by decide)
        have t15_f_8 : fI f_8 a0 15 = fI fw107 a0 15 := hX.2 15 (by decide)
        have t16_f_8 : fI f_8 a0 16 = fI fw107 a0 16 := hX.2 16 (by decide)
        have t17_f_8 : fI f_8 a0 17 = fI fw107 a0 17 := hX.2 17 (by decide)
        have t19_f_8 : fI f_8 a0 19 = fI fw107 a0 19 := hX.2 19 (by decide)
        have t22_f_8 : fI f_8 a0 22 = fI fw107 a0 22 := hX.2 22 (by decide)
        have c21_0_f_8 : aI f_8 (ad 21) 0 = aI fw107 (ad 21) 0 := hX.1 21 rfl (by decide) _
        have c21_1_f_8 : aI f_8 (ad 21) 1 = aI fw107 (ad 21) 1 := hX.1 21 rfl (by decide) _
        have c21_2_f_8 : aI f_8 (ad 21) 2 = aI fw107 (ad 21) 2 := hX.1 21 rfl (by decide) _
        have c21_3_f_8 : aI f_8 (ad 21) 3 = aI fw107 (ad 21) 3 := hX.1 21 rfl (by decide) _
        have c21_4_f_8 : aI f_8 (ad 21) 4 = aI fw107 (ad 21) 4 := hX.1 21 rfl (by decide) _
        have c21_5_f_8 : aI f_8 (ad 21) 5 = aI fw107 (ad 21) 5 := hX.1 21 rfl (by decide) _
        have c21_6_f_8 : aI f_8 (ad 21) 6 = aI fw107 (ad 21) 6 := hX.1 21 rfl (by decide) _
        have c21_7_f_8 : aI f_8 (ad 21) 7 = aI fw107 (ad 21) 7 := hX.1 21 rfl (by decide) _
        have c21_8_f_8 : aI f_8 (ad 21) 8 = aI fw107 (ad 21) 8 := hX.1 21 rfl (by decide) _
        have c21_9_f_8 : aI f_8 (ad 21) 9 = aI fw107 (ad 21) 9 := hX.1 21 rfl (by decide) _
        have Q8 : aI f_8 (ad 8) = aI f0 (ad 8) := funext fun x => hE.1 8 rfl (by decide) x
        have t123 := ex_7
        clear ex_7
        have fin : PSr Tt nn f_8 a0 (sq FF (etX Tt nn ee (aI f0 (ad 21) 5))) (etE Tt nn ee) := (p107.wr (f1 := f_8) (x := 8 * tP Tt nn (etE Tt nn ee) + 1) (by omega) (by omega) (by omega) (by omega)).to ((sq_as (F := FF) (x := etF Tt nn ee (aI f0 (ad 21) 5)) (y := enS Tt nn (etE Tt nn ee))).symm.trans ((sq_0 h9).trans h8)) rfl
        clear t123
        exact q_ret_v hx hb hr hlocks hK hAe hw (Nat.le_of_ble_eq_true rfl) (Nat.le_of_ble_eq_true rfl) dX10_endTold_126 (by exact ⟨rfl, hs, hE, fin, fun z => by have y := v107 (sq_z.mp ((sq_as (F := FF) (x := etF Tt nn ee (aI f0 (ad 21) 5)) (y := enS Tt nn (etE Tt nn ee))).trans z)).1; exact ⟨Eq.trans (by omega) y.1, Eq.trans (by omega) y.2⟩, by omega, by omega, by omega, by omega, by omega, by omega, by omega, by omega⟩)
  refine q_if_eq (tgt := 79) hx hb dX10_endTold_22 (by decide) ⟨lx_4, ux_4⟩ (fun c22 => ?_) (fun c22 => ?_)
  · have n19 : NWq (FF) (wS Tt nn (ee) wUntil) := (t19.resolve_left (by omega)).2
    clear t19
    refine lv_aload_n hx hb dX10_endTold_79 rfl (lv_at hl 0 rfl) ?_
    obtain ⟨t_9, v_t_9, h_t_9⟩ : ∃ q v : Nat, ∀ (A : Nat → Prop) (U : State) (H : Heap), Z A U H → vk_R RX10 205 "times" q U ∧ Tx [116, 105, 109, 101, 115] q v A U H := ztx_36 zo
    obtain ⟨b_t_9, eb_t_9⟩ : ∃ b : List Int32, b = [116, 105, 109, 101, 115] := ⟨_, rfl⟩
    have nb_t_9 : Asc b_t_9 := by rw [eb_t_9]; exact ⟨by decide, by decide +kernel⟩
    have tx_t_9 : ∀ (A : Nat → Prop) (U : State) (H : Heap), Z A U H → Tx b_t_9 t_9 v_t_9 A U H := fun A U H h => by rw [eb_t_9]; exact (h_t_9 A U H h).2
    have wok_t_9 : WOK b_t_9 := by rw [eb_t_9]; unfold WOK; decide +kernel
    have eb_t_9 : b_t_9 = wTimes := by rw [eb_t_9]; rfl
    refine va_ldcS hx hb hown (h_t_9 _ _ _ hZ).1 dX10_endTold_80 ?_
    refine q_call_i hA hK hw (va_runV (As := [.ref t_9]) (rest := []) ⟨hx, hb, hml, hown, hts⟩ (c_X10_isWord_p zo l D cy L0 f_2 a0 t_9 b_t_9 v_t_9 nb_t_9 tx_t_9 ad hs wok_t_9 Tt nn n0 n1 (by omega) (by first | exact hT | exact fun i q0 q1 => (congrFun Q8 i).trans (hT i q0 q1)) bT _ _ ps (by omega) (by omega) _) (cwV 1 hts (gT (inV (mr20 _ (List.mem_of_getElem? (i := 3) rfl)) (mr20 _ (List.mem_of_getElem? (i := 4) rfl)) (mr20 _ (List.mem_of_getElem? (i := 5) rfl)) (mr1 _ (List.mem_of_getElem? (i := 5) rfl)) (mr20 _ (List.mem_of_getElem? (i := 6) rfl)))) rfl rfl rfl (by decide +kernel) ⟨Nat.le_of_ble_eq_true rfl, Nat.le_of_ble_eq_true rfl⟩) (Wd.preV zo hA hZ hw hK hs.1 hs.2.1 rfl) rfl rfl hl.1 rfl (lv_room (Nat.le_of_ble_eq_true rfl)) dX10_endTold_82 ⟨Nat.le_of_ble_eq_true rfl, Nat.le_of_ble_eq_true rfl⟩) (fun x_10 L1 f1 H locs lx_10 ux_10 ex_10 hw => ?_)
    obtain ⟨rfl, rfl, ex_10⟩ := ex_10
    have t82 := ex_10
    rw [eb_t_9] at t82
    clear ex_10
    refine q_if_eq (tgt := 107) hx hb dX10_endTold_85 (by decide) ⟨lx_10, ux_10⟩ (fun c85 => ?_) (fun c85 => ?_)
    · have n82 : NWq (FF) (wS Tt nn (ee) wTimes) := (t82.resolve_left (by omega)).2
      clear t82
      have p107 : PSr Tt nn f_2 a0 (sq FF (etF Tt nn ee (aI f0 (ad 21) 5))) (etE Tt nn ee) := ps.sqn (fun z => ⟨(et_n (n82.z z) (n19.z z)).1, (et_n (s := 0) (n82.z z) (n19.z z)).2.2.2⟩)
      have v107 : RQ2 (sq FF (etF Tt nn ee (aI f0 (ad 21) 5))) f_2 (ad 21) (etU Tt nn ee) (etT Tt nn ee) := fun z => by have en := et_n (s := 0) (n82.z (sq_z.mp z).1) (n19.z (sq_z.mp z).1); exact ⟨Eq.trans (by omega) en.2.1.symm, Eq.trans (by omega) en.2.2.1.symm⟩
      exact J107 L0 f_2 hs hE (by omega) (by exact p107) (by exact v107) (by omega) (by omega) (by omega) (by omega) (by omega) (by omega) (by omega) (by omega) _ _ _ hw (lv_sub hl [0] rfl)
    · obtain ⟨i82, z82, w82⟩ := t82.resolve_right (by omega)
      clear t82
      refine lv_aload_n hx hb dX10_endTold_88 rfl (lv_at hl 0 rfl) ?_
      refine q_call_v hA hK hw (va_runV (As := []) (rest := []) ⟨hx, hb, hml, hown, hts⟩ (c_X10_next_p zo l D cy L0 f_2 a0 ad hs Tt nn n0 n1 (by omega) (by first | exact hT | exact fun i q0 q1 => (congrFun Q8 i).trans (hT i q0 q1)) bT (by omega) (by omega) _) (cwV 0 hts (gT (inV (mr19 _ (List.mem_of_getElem? (i := 4) rfl)) (mr19 _ (List.mem_of_getElem? (i := 5) rfl)) (mr19 _ (List.mem_of_getElem? (i := 6) rfl)) (mr1 _ (List.mem_of_getElem? (i := 5) rfl)) (mr19 _ (List.mem_of_getElem? (i := 7) rfl)))) rfl rfl rfl (by decide +kernel) ⟨Nat.le_of_ble_eq_true rfl, Nat.le_of_ble_eq_true rfl⟩) (Wd.preV zo hA hZ hw hK hs.1 hs.2.1 rfl) rfl rfl hl.1 rfl (lv_room (Nat.le_of_ble_eq_true rfl)) dX10_endTold_89 ⟨Nat.le_of_ble_eq_true rfl, Nat.le_of_ble_eq_true rfl⟩) (fun L1 f_12 H locs ex_11 hw => ?_)
      obtain ⟨rfl, hs, hX, ex_11⟩ := ex_11
      have hE := hE.trans (hX.mono (rs' := [21]) (fs' := [15, 16, 17, 18, 19, 20, 22]) (by decide) (by decide))
      have t14_f_12 : fI f_12 a0 14 = fI f_2 a0 14 := hX.2 14 (by decide)
      have t20_f_12 : fI f_12 a0 20 = fI f_2 a0 20 := hX.2 20 (by decide)
      have t22_f_12 : fI f_12 a0 22 = fI f_2 a0 22 := hX.2 22 (by decide)
      have c21_0_f_12 : aI f_12 (ad 21) 0 = aI f_2 (ad 21) 0 := hX.1 21 rfl (by decide) _
      have c21_1_f_12 : aI f_12 (ad 21) 1 = aI f_2 (ad 21) 1 := hX.1 21 rfl (by decide) _
      have c21_2_f_12 : aI f_12 (ad 21) 2 = aI f_2 (ad 21) 2 := hX.1 21 rfl (by decide) _
      have c21_3_f_12 : aI f_12 (ad 21) 3 = aI f_2 (ad 21) 3 := hX.1 21 rfl (by decide) _
      have c21_4_f_12 : aI f_12 (ad 21) 4 = aI f_2 (ad 21) 4 := hX.1 21 rfl (by decide) _
      have c21_5_f_12 : aI f_12 (ad 21) 5 = aI f_2 (ad 21) 5 := hX.1 21 rfl (by decide) _
      have c21_6_f_12 : aI f_12 (ad 21) 6 = aI f_2 (ad 21) 6 := hX.1 21 rfl (by decide) _
      have c21_7_f_12 : aI f_12 (ad 21) 7 = aI f_2 (ad 21) 7 := hX.1 21 rfl (by decide) _
      have c21_8_f_12 : aI f_12 (ad 21) 8 = aI f_2 (ad 21) 8 := hX.1 21 rfl (by decide) _
      have c21_9_f_12 : aI f_12 (ad 21) 9 = aI f_2 (ad 21) 9 := hX.1 21 rfl (by decide) _
      have Q8 : aI f_12 (ad 8) = aI f0 (ad 8) := funext fun x => hE.1 8 rfl (by decide) x
      have ps := ps.nxt (fun z => iw_16 ps z ((wS_iff e0 e1).mp w82)) ex_11 (by omega) n1
      clear ex_11
      refine lv_aload_n hx hb dX10_endTold_92 rfl (lv_at hl 0 rfl) ?_
      refine q_getr (ci := 8) (C := RX10) (T := TX10) (N := 26) hx hb hts (fun w h => List.mem_cons_of_mem _ (mfX100 w h)) hown hK hw hs.1 hs.2.1 rfl 21 (by decide) (hts _ (List.mem_cons_of_mem _ (mr3 _ (List.mem_of_getElem? (i := 22) rfl)))) (fun _ h => h) rfl (hs.2.2.1 21 rfl).1 dX10_endTold_93 ?_
      refine q_bipush hx hb dX10_endTold_96 rfl ?_
      refine lv_aload_n hx hb dX10_endTold_98 rfl (lv_at hl 0 rfl) ?_
      refine q_iconst hx hb dX10_endTold_99 ?_
      refine q_sipush hx hb dX10_endTold_100 rfl ?_
      refine q_call_i hA hK hw (va_runV (As := [.int (iI 1), .int (iI 999)]) (rest := [.int (iI 9), .ref (ad 21)]) ⟨hx, hb, hml, hown, hts⟩ (c_X10_numberTold_p zo l D cy L0 f_12 a0 1 (by decide) (by decide) 999 (by decide) (by decide) ad hs Tt nn n0 n1 (by omega) (by first | exact hT | exact fun i q0 q1 => (congrFun Q8 i).trans (hT i q0 q1)) bT _ _ ps (by omega) (by omega) _) (cwV 2 hts (gT (inV (mr20 _ (List.mem_of_getElem? (i := 16) rfl)) (mr20 _ (List.mem_of_getElem? (i := 17) rfl)) (mr20 _ (List.mem_of_getElem? (i := 18) rfl)) (mr1 _ (List.mem_of_getElem? (i := 5) rfl)) (mr20 _ (List.mem_of_getElem? (i := 19) rfl)))) rfl rfl rfl (by decide +kernel) ⟨Nat.le_of_ble_eq_true rfl, Nat.le_of_ble_eq_true rfl⟩) (Wd.preV zo hA hZ hw hK hs.1 hs.2.1 rfl) rfl rfl hl.1 rfl (lv_room (Nat.le_of_ble_eq_true rfl)) dX10_endTold_103 ⟨Nat.le_of_ble_eq_true rfl, Nat.le_of_ble_eq_true rfl⟩) (fun x_13 L1 f_14 H locs lx_13 ux_13 ex_13 hw => ?_)
      obtain ⟨rfl, hs, hX, ex_13⟩ := ex_13
      have hE := hE.trans (hX.mono (rs' := [21]) (fs' := [15, 16, 17, 18, 19, 20, 22]) (by decide) (by decide))
      have t14_f_14 : fI f_14 a0 14 = fI f_12 a0 14 := hX.2 14 (by decide)
      have t22_f_14 : fI f_14 a0 22 = fI f_12 a0 22 := hX.2 22 (by decide)
      have c21_0_f_14 : aI f_14 (ad 21) 0 = aI f_12 (ad 21) 0 := hX.1 21 rfl (by decide) _
      have c21_1_f_14 : aI f_14 (ad 21) 1 = aI f_12 (ad 21) 1 := hX.1 21 rfl (by decide) _
      have c21_2_f_14 : aI f_14 (ad 21) 2 = aI f_12 (ad 21) 2 := hX.1 21 rfl (by decide) _
      have c21_3_f_14 : aI f_14 (ad 21) 3 = aI f_12 (ad 21) 3 := hX.1 21 rfl (by decide) _
      have c21_4_f_14 : aI f_14 (ad 21) 4 = aI f_12 (ad 21) 4 := hX.1 21 rfl (by decide) _
      have c21_5_f_14 : aI f_14 (ad 21) 5 = aI f_12 (ad 21) 5 := hX.1 21 rfl (by decide) _
      have c21_6_f_14 : aI f_14 (ad 21) 6 = aI f_12 (ad 21) 6 := hX.1 21 rfl (by decide) _
      have c21_7_f_14 : aI f_14 (ad 21) 7 = aI f_12 (ad 21) 7 := hX.1 21 rfl (by decide) _
      have c21_8_f_14 : aI f_14 (ad 21) 8 = aI f_12 (ad 21) 8 := hX.1 21 rfl (by decide) _
      have c21_9_f_14 : aI f_14 (ad 21) 9 = aI f_12 (ad 21) 9 := hX.1 21 rfl (by decide) _
      have Q8 : aI f_14 (ad 8) = aI f0 (ad 8) := funext fun x => hE.1 8 rfl (by decide) x
      obtain ⟨ps, v103⟩ := ex_13
      rw [sq_0 z82] at ps v103
      refine q_iast hx hb hK hw (hs.2.2.1 21 rfl).2.1 1 (hs.2.2.1 21 rfl).2.2 rfl ⟨by decide, by decide⟩ (by omega) (by show _ < ((44 : Nat) : Int); omega) dX10_endTold_106 (fun H locs hw => ?_)
      obtain ⟨f_15, ef_15⟩ : ∃ g : Nat → va_E, g = aU f_14 (ad 21) 9 (iI x_13) := ⟨_, rfl⟩
      have t14_f_15 : fI f_15 a0 14 = fI f_14 a0 14 := by rw [ef_15]; exact hs.fI_aU rfl _ _
      have t15_f_15 : fI f_15 a0 15 = fI f_14 a0 15 := by rw [ef_15]; exact hs.fI_aU rfl _ _
      have t16_f_15 : fI f_15 a0 16 = fI f_14 a0 16 := by rw [ef_15]; exact hs.fI_aU rfl _ _
      have t17_f_15 : fI f_15 a0 17 = fI f_14 a0 17 := by rw [ef_15]; exact hs.fI_aU rfl _ _
      have t19_f_15 : fI f_15 a0 19 = fI f_14 a0 19 := by rw [ef_15]; exact hs.fI_aU rfl _ _
      have t20_f_15 : fI f_15 a0 20 = fI f_14 a0 20 := by rw [ef_15]; exact hs.fI_aU rfl _ _
      have t22_f_15 : fI f_15 a0 22 = fI f_14 a0 22 := by rw [ef_15]; exact hs.fI_aU rfl _ _
      have hE := hE.trans (show Kp a0 ad [21] [15, 16, 17, 18, 19, 20, 22] f_14 f_15 by rw [ef_15]; exact Kp_aU hs rfl (by decide))
      have hs_ := hs
      have hs : MS cy L0 f_15 a0 ad := by rw [ef_15]; exact MS_aU hs rfl
      rw [← ef_15] at hw
      have ps := ps.aU (hs_.2.2.1 21 rfl).2.2 ef_15
      have Q8 : aI f_15 (ad 8) = aI f0 (ad 8) := funext fun x => hE.1 8 rfl (by decide) x
      have c21_0_f_15 : aI f_15 (ad 21) 0 = aI f_14 (ad 21) 0 := by rw [ef_15]; exact hs_.aI_nj rfl (by decide) (by decide) (by decide)
      have c21_1_f_15 : aI f_15 (ad 21) 1 = aI f_14 (ad 21) 1 := by rw [ef_15]; exact hs_.aI_nj rfl (by decide) (by decide) (by decide)
      have c21_2_f_15 : aI f_15 (ad 21) 2 = aI f_14 (ad 21) 2 := by rw [ef_15]; exact hs_.aI_nj rfl (by decide) (by decide) (by decide)
      have c21_3_f_15 : aI f_15 (ad 21) 3 = aI f_14 (ad 21) 3 := by rw [ef_15]; exact hs_.aI_nj rfl (by decide) (by decide) (by decide)
      have c21_4_f_15 : aI f_15 (ad 21) 4 = aI f_14 (ad 21) 4 := by rw [ef_15]; exact hs_.aI_nj rfl (by decide) (by decide) (by decide)
      have c21_5_f_15 : aI f_15 (ad 21) 5 = aI f_14 (ad 21) 5 := by rw [ef_15]; exact hs_.aI_nj rfl (by decide) (by decide) (by decide)
      have c21_6_f_15 : aI f_15 (ad 21) 6 = aI f_14 (ad 21) 6 := by rw [ef_15]; exact hs_.aI_nj rfl (by decide) (by decide) (by decide)
      have c21_7_f_15 : aI f_15 (ad 21) 7 = aI f_14 (ad 21) 7 := by rw [ef_15]; exact hs_.aI_nj rfl (by decide) (by decide) (by decide)
      have c21_8_f_15 : aI f_15 (ad 21) 8 = aI f_14 (ad 21) 8 := by rw [ef_15]; exact hs_.aI_nj rfl (by decide) (by decide) (by decide)
      have c21_9_f_15 : aI f_15 (ad 21) 9 = x_13 := by rw [ef_15]; exact hs_.aI_self rfl ⟨lx_13, ux_13⟩
      have et := et_t (s := (aI f0 (ad 21) 5)) w82
      have p107 : PSr Tt nn f_15 a0 (sq FF (etF Tt nn ee (aI f0 (ad 21) 5))) (etE Tt nn ee) := ps.to ((sq_0 z82).trans et.1) et.2.2.2
      have v107 : RQ2 (sq FF (etF Tt nn ee (aI f0 (ad 21) 5))) f_15 (ad 21) (etU Tt nn ee) (etT Tt nn ee) := fun z => by have y := v103 (et.1.symm.trans ((sq_0 z82).symm.trans z)); exact ⟨Eq.trans (by omega) et.2.1.symm, Eq.trans (by omega) et.2.2.1.symm⟩
      exact J107 L0 f_15 hs hE (by omega) (by exact p107) (by exact v107) (by omega) (by omega) (by omega) (by omega) (by omega) (by omega) (by omega) (by omega) _ _ _ hw (lv_sub hl [0] rfl)
  · obtain ⟨i19, z19, w19⟩ := t19.resolve_right (by omega)
    clear t19
    refine lv_aload_n hx hb dX10_endTold_25 rfl (lv_at hl 0 rfl) ?_
    refine q_call_v hA hK hw (va_runV (As := []) (rest := []) ⟨hx, hb, hml, hown, hts⟩ (c_X10_next_p zo l D cy L0 f_2 a0 ad hs Tt nn n0 n1 (by omega) (by first | exact hT | exact fun i q0 q1 => (congrFun Q8 i).trans (hT i q0 q1)) bT (by omega) (by omega) _) (cwV 0 hts (gT (inV (mr19 _ (List.mem_of_getElem? (i := 4) rfl)) (mr19 _ (List.mem_of_getElem? (i := 5) rfl)) (mr19 _ (List.mem_of_getElem? (i := 6) rfl)) (mr1 _ (List.mem_of_getElem? (i := 5) rfl)) (mr19 _ (List.mem_of_getElem? (i := 7) rfl)))) rfl rfl rfl (by decide +kernel) ⟨Nat.le_of_ble_eq_true rfl, Nat.le_of_ble_eq_true rfl⟩) (Wd.preV zo hA hZ hw hK hs.1 hs.2.1 rfl) rfl rfl hl.1 rfl (lv_room (Nat.le_of_ble_eq_true rfl)) dX10_endTold_26 ⟨Nat.le_of_ble_eq_true rfl, Nat.le_of_ble_eq_true rfl⟩) (fun L1 f_17 H locs ex_16 hw => ?_)
    obtain ⟨rfl, hs, hX, ex_16⟩ := ex_16
    have hE := hE.trans (hX.mono (rs' := [21]) (fs' := [15, 16, 17, 18, 19, 20, 22]) (by decide) (by decide))
    have t14_f_17 : fI f_17 a0 14 = fI f_2 a0 14 := hX.2 14 (by decide)
    have t20_f_17 : fI f_17 a0 20 = fI f_2 a0 20 := hX.2 20 (by decide)
    have t22_f_17 : fI f_17 a0 22 = fI f_2 a0 22 := hX.2 22 (by decide)
    have c21_0_f_17 : aI f_17 (ad 21) 0 = aI f_2 (ad 21) 0 := hX.1 21 rfl (by decide) _
    have c21_1_f_17 : aI f_17 (ad 21) 1 = aI f_2 (ad 21) 1 := hX.1 21 rfl (by decide) _
    have c21_2_f_17 : aI f_17 (ad 21) 2 = aI f_2 (ad 21) 2 := hX.1 21 rfl (by decide) _
    have c21_3_f_17 : aI f_17 (ad 21) 3 = aI f_2 (ad 21) 3 := hX.1 21 rfl (by decide) _
    have c21_4_f_17 : aI f_17 (ad 21) 4 = aI f_2 (ad 21) 4 := hX.1 21 rfl (by decide) _
    have c21_5_f_17 : aI f_17 (ad 21) 5 = aI f_2 (ad 21) 5 := hX.1 21 rfl (by decide) _
    have c21_6_f_17 : aI f_17 (ad 21) 6 = aI f_2 (ad 21) 6 := hX.1 21 rfl (by decide) _
    have c21_7_f_17 : aI f_17 (ad 21) 7 = aI f_2 (ad 21) 7 := hX.1 21 rfl (by decide) _
    have c21_8_f_17 : aI f_17 (ad 21) 8 = aI f_2 (ad 21) 8 := hX.1 21 rfl (by decide) _
    have c21_9_f_17 : aI f_17 (ad 21) 9 = aI f_2 (ad 21) 9 := hX.1 21 rfl (by decide) _
    have Q8 : aI f_17 (ad 8) = aI f0 (ad 8) := funext fun x => hE.1 8 rfl (by decide) x
    have ps := ps.nxt (fun z => iw_16 ps z ((wS_iff e0 e1).mp w19)) ex_16 (by omega) n1
    clear ex_16
    have pl26 := ps.pl z19
    refine lv_aload_n hx hb dX10_endTold_29 rfl (lv_at hl 0 rfl) ?_
    refine q_getr (ci := 8) (C := RX10) (T := TX10) (N := 26) hx hb hts (fun w h => List.mem_cons_of_mem _ (mfX100 w h)) hown hK hw hs.1 hs.2.1 rfl 21 (by decide) (hts _ (List.mem_cons_of_mem _ (mr3 _ (List.mem_of_getElem? (i := 22) rfl)))) (fun _ h => h) rfl (hs.2.2.1 21 rfl).1 dX10_endTold_30 ?_
    refine q_bipush hx hb dX10_endTold_33 rfl ?_
    refine lv_aload_n hx hb dX10_endTold_35 rfl (lv_at hl 0 rfl) ?_
    refine q_call_i hA hK hw (va_runV (As := []) (rest := [.int (iI 8), .ref (ad 21)]) ⟨hx, hb, hml, hown, hts⟩ (c_X10_dateTold_p zo l D cy L0 f_17 a0 ad hs Tt nn n0 n1 (by omega) (by first | exact hT | exact fun i q0 q1 => (congrFun Q8 i).trans (hT i q0 q1)) bT _ _ ps (by omega) (by omega) (by first | exact hd | exact hd.kp hE (by decide) (by decide) (by decide) (by decide)) _) (cwV 0 hts (gT (inV (mr21 _ (List.mem_of_getElem? (i := 16) rfl)) (mr21 _ (List.mem_of_getElem? (i := 17) rfl)) (mr21 _ (List.mem_of_getElem? (i := 18) rfl)) (mr1 _ (List.mem_of_getElem? (i := 5) rfl)) (mr21 _ (List.mem_of_getElem? (i := 19) rfl)))) rfl rfl rfl (by decide +kernel) ⟨Nat.le_of_ble_eq_true rfl, Nat.le_of_ble_eq_true rfl⟩) (Wd.preV zo hA hZ hw hK hs.1 hs.2.1 rfl) rfl rfl hl.1 rfl (lv_room (Nat.le_of_ble_eq_true rfl)) dX10_endTold_36 ⟨Nat.le_of_ble_eq_true rfl, Nat.le_of_ble_eq_true rfl⟩) (fun x_18 L1 f_19 H locs lx_18 ux_18 ex_18 hw => ?_)
    obtain ⟨rfl, hs, hX, ex_18⟩ := ex_18
    have hE := hE.trans (hX.mono (rs' := [21]) (fs' := [15, 16, 17, 18, 19, 20, 22]) (by decide) (by decide))
    have t14_f_19 : fI f_19 a0 14 = fI f_17 a0 14 := hX.2 14 (by decide)
    have c21_0_f_19 : aI f_19 (ad 21) 0 = aI f_17 (ad 21) 0 := hX.1 21 rfl (by decide) _
    have c21_1_f_19 : aI f_19 (ad 21) 1 = aI f_17 (ad 21) 1 := hX.1 21 rfl (by decide) _
    have c21_2_f_19 : aI f_19 (ad 21) 2 = aI f_17 (ad 21) 2 := hX.1 21 rfl (by decide) _
    have c21_3_f_19 : aI f_19 (ad 21) 3 = aI f_17 (ad 21) 3 := hX.1 21 rfl (by decide) _
    have c21_4_f_19 : aI f_19 (ad 21) 4 = aI f_17 (ad 21) 4 := hX.1 21 rfl (by decide) _
    have c21_5_f_19 : aI f_19 (ad 21) 5 = aI f_17 (ad 21) 5 := hX.1 21 rfl (by decide) _
    have c21_6_f_19 : aI f_19 (ad 21) 6 = aI f_17 (ad 21) 6 := hX.1 21 rfl (by decide) _
    have c21_7_f_19 : aI f_19 (ad 21) 7 = aI f_17 (ad 21) 7 := hX.1 21 rfl (by decide) _
    have c21_8_f_19 : aI f_19 (ad 21) 8 = aI f_17 (ad 21) 8 := hX.1 21 rfl (by decide) _
    have c21_9_f_19 : aI f_19 (ad 21) 9 = aI f_17 (ad 21) 9 := hX.1 21 rfl (by decide) _
    have Q8 : aI f_19 (ad 8) = aI f0 (ad 8) := funext fun x => hE.1 8 rfl (by decide) x
    obtain ⟨ps, v36, a36, b36, d36⟩ := ex_18
    rw [sq_0 z19] at ps v36
    have pf := ps.1
    have eu := et_u (s := (aI f0 (ad 21) 5)) (w_ex e0 e1 w19 (by decide)) w19
    refine q_iast hx hb hK hw (hs.2.2.1 21 rfl).2.1 1 (hs.2.2.1 21 rfl).2.2 rfl ⟨by decide, by decide⟩ (by omega) (by show _ < ((44 : Nat) : Int); omega) dX10_endTold_39 (fun H locs hw => ?_)
    obtain ⟨f_20, ef_20⟩ : ∃ g : Nat → va_E, g = aU f_19 (ad 21) 8 (iI x_18) := ⟨_, rfl⟩
    have t14_f_20 : fI f_20 a0 14 = fI f_19 a0 14 := by rw [ef_20]; exact hs.fI_aU rfl _ _
    have t15_f_20 : fI f_20 a0 15 = fI f_19 a0 15 := by rw [ef_20]; exact hs.fI_aU rfl _ _
    have t16_f_20 : fI f_20 a0 16 = fI f_19 a0 16 := by rw [ef_20]; exact hs.fI_aU rfl _ _
    have t17_f_20 : fI f_20 a0 17 = fI f_19 a0 17 := by rw [ef_20]; exact hs.fI_aU rfl _ _
    have t19_f_20 : fI f_20 a0 19 = fI f_19 a0 19 := by rw [ef_20]; exact hs.fI_aU rfl _ _
    have t20_f_20 : fI f_20 a0 20 = fI f_19 a0 20 := by rw [ef_20]; exact hs.fI_aU rfl _ _
    have t22_f_20 : fI f_20 a0 22 = fI f_19 a0 22 := by rw [ef_20]; exact hs.fI_aU rfl _ _
    have hE := hE.trans (show Kp a0 ad [21] [15, 16, 17, 18, 19, 20, 22] f_19 f_20 by rw [ef_20]; exact Kp_aU hs rfl (by decide))
    have hs_ := hs
    have hs : MS cy L0 f_20 a0 ad := by rw [ef_20]; exact MS_aU hs rfl
    rw [← ef_20] at hw
    have ps := ps.aU (hs_.2.2.1 21 rfl).2.2 ef_20
    have Q8 : aI f_20 (ad 8) = aI f0 (ad 8) := funext fun x => hE.1 8 rfl (by decide) x
    have c21_0_f_20 : aI f_20 (ad 21) 0 = aI f_19 (ad 21) 0 := by rw [ef_20]; exact hs_.aI_nj rfl (by decide) (by decide) (by decide)
    have c21_1_f_20 : aI f_20 (ad 21) 1 = aI f_19 (ad 21) 1 := by rw [ef_20]; exact hs_.aI_nj rfl (by decide) (by decide) (by decide)
    have c21_2_f_20 : aI f_20 (ad 21) 2 = aI f_19 (ad 21) 2 := by rw [ef_20]; exact hs_.aI_nj rfl (by decide) (by decide) (by decide)
    have c21_3_f_20 : aI f_20 (ad 21) 3 = aI f_19 (ad 21) 3 := by rw [ef_20]; exact hs_.aI_nj rfl (by decide) (by decide) (by decide)
    have c21_4_f_20 : aI f_20 (ad 21) 4 = aI f_19 (ad 21) 4 := by rw [ef_20]; exact hs_.aI_nj rfl (by decide) (by decide) (by decide)
    have c21_5_f_20 : aI f_20 (ad 21) 5 = aI f_19 (ad 21) 5 := by rw [ef_20]; exact hs_.aI_nj rfl (by decide) (by decide) (by decide)
    have c21_6_f_20 : aI f_20 (ad 21) 6 = aI f_19 (ad 21) 6 := by rw [ef_20]; exact hs_.aI_nj rfl (by decide) (by decide) (by decide)
    have c21_7_f_20 : aI f_20 (ad 21) 7 = aI f_19 (ad 21) 7 := by rw [ef_20]; exact hs_.aI_nj rfl (by decide) (by decide) (by decide)
    have c21_8_f_20 : aI f_20 (ad 21) 8 = x_18 := by rw [ef_20]; exact hs_.aI_self rfl ⟨lx_18, ux_18⟩
    have c21_9_f_20 : aI f_20 (ad 21) 9 = aI f_19 (ad 21) 9 := by rw [ef_20]; exact hs_.aI_nj rfl (by decide) (by decide) (by decide)
    refine lv_aload_n hx hb dX10_endTold_40 rfl (lv_at hl 0 rfl) ?_
    refine q_geti (ci := 8) (C := RX10) (T := TX10) (N := 26) hx hb hts (fun w h => List.mem_cons_of_mem _ (mfX100 w h)) hown hK hw hs.1 hs.2.1 rfl 20 (by decide) (hts _ (List.mem_cons_of_mem _ (mr19 _ (List.mem_of_getElem? (i := 2) rfl)))) (fun _ h => h) rfl dX10_endTold_41 (fun x_21 lx_21 ux_21 ex_21 => ?_)
    refine q_if_ne (tgt := 107) hx hb dX10_endTold_44 (by decide) ⟨lx_21, ux_21⟩ (fun c44 => ?_) (fun c44 => ?_)
    · have h9 : daF Tt nn (tQ Tt nn ee) ≠ 0 := by omega
      have p107 : PSr Tt nn f_20 a0 (sq FF (etF Tt nn ee (aI f0 (ad 21) 5))) (etE Tt nn ee) := ps.F h9 ((sq_0 z19).trans (eu.1 h9))
      have v107 : RQ2 (sq FF (etF Tt nn ee (aI f0 (ad 21) 5))) f_20 (ad 21) (etU Tt nn ee) (etT Tt nn ee) := fun z => absurd ((eu.1 h9).symm.trans ((sq_0 z19).symm.trans z)) h9
      exact J107 L0 f_20 hs hE (by omega) (by exact p107) (by exact v107) (by omega) (by omega) (by omega) (by omega) (by omega) (by omega) (by omega) (by omega) _ _ _ hw (lv_sub hl [0] rfl)
    · have h9 : daF Tt nn (tQ Tt nn ee) = 0 := by omega
      have y36 := v36 h9
      refine lv_aload_n hx hb dX10_endTold_47 rfl (lv_at hl 0 rfl) ?_
      refine q_getr (ci := 8) (C := RX10) (T := TX10) (N := 26) hx hb hts (fun w h => List.mem_cons_of_mem _ (mfX100 w h)) hown hK hw hs.1 hs.2.1 rfl 21 (by decide) (hts _ (List.mem_cons_of_mem _ (mr3 _ (List.mem_of_getElem? (i := 22) rfl)))) (fun _ h => h) rfl (hs.2.2.1 21 rfl).1 dX10_endTold_48 ?_
      refine q_bipush hx hb dX10_endTold_51 rfl ?_
      refine q_iald hx hb hK hw (hs.2.2.1 21 rfl).2.1 1 (hs.2.2.1 21 rfl).2.2 rfl ⟨by decide, by decide⟩ (by omega) (by show _ < ((44 : Nat) : Int); omega) dX10_endTold_53 (fun x_22 lx_22 ux_22 ex_22 => ?_)
      refine lv_aload_n hx hb dX10_endTold_54 rfl (lv_at hl 0 rfl) ?_
      refine q_getr (ci := 8) (C := RX10) (T := TX10) (N := 26) hx hb hts (fun w h => List.mem_cons_of_mem _ (mfX100 w h)) hown hK hw hs.1 hs.2.1 rfl 21 (by decide) (hts _ (List.mem_cons_of_mem _ (mr3 _ (List.mem_of_getElem? (i := 22) rfl)))) (fun _ h => h) rfl (hs.2.2.1 21 rfl).1 dX10_endTold_55 ?_
      refine q_iconst hx hb dX10_endTold_58 ?_
      refine q_iald hx hb hK hw (hs.2.2.1 21 rfl).2.1 1 (hs.2.2.1 21 rfl).2.2 rfl ⟨by decide, by decide⟩ (by omega) (by show _ < ((44 : Nat) : Int); omega) dX10_endTold_59 (fun x_23 lx_23 ux_23 ex_23 => ?_)
      refine q_icmp_ge (tgt := 107) hx hb dX10_endTold_60 (by decide) ⟨lx_22, ux_22⟩ ⟨lx_23, ux_23⟩ (fun c60 => ?_) (fun c60 => ?_)
      · have h8 : etF Tt nn ee (aI f0 (ad 21) 5) = 0 := eu.2.2.1 h9 (by omega)
        have p107 : PSr Tt nn f_20 a0 (sq FF (etF Tt nn ee (aI f0 (ad 21) 5))) (etE Tt nn ee) := ps.to (((sq_0 z19).trans h8).trans h9.symm) eu.2.2.2.2.2
        have v107 : RQ2 (sq FF (etF Tt nn ee (aI f0 (ad 21) 5))) f_20 (ad 21) (etU Tt nn ee) (etT Tt nn ee) := fun _ => ⟨Eq.trans (by omega) eu.2.2.2.1.symm, Eq.trans (by omega) eu.2.2.2.2.1.symm⟩
        exact J107 L0 f_20 hs hE (by omega) (by exact p107) (by exact v107) (by omega) (by omega) (by omega) (by omega) (by omega) (by omega) (by omega) (by omega) _ _ _ hw (lv_sub hl [0] rfl)
      · have h8 : etF Tt nn ee (aI f0 (ad 21) 5) = 8 * tP Tt nn (tQ Tt nn ee) + 3 := eu.2.1 h9 (by omega)
        refine lv_aload_n hx hb dX10_endTold_63 rfl (lv_at hl 0 rfl) ?_
        refine q_bipush hx hb dX10_endTold_64 rfl ?_
        refine lv_aload_n hx hb dX10_endTold_66 rfl (lv_at hl 0 rfl) ?_
        refine q_geti (ci := 8) (C := RX10) (T := TX10) (N := 26) hx hb hts (fun w h => List.mem_cons_of_mem _ (mfX100 w h)) hown hK hw hs.1 hs.2.1 rfl 22 (by decide) (hts _ (List.mem_cons_of_mem _ (mr21 _ (List.mem_of_getElem? (i := 20) rfl)))) (fun _ h => h) rfl dX10_endTold_67 (fun x_24 lx_24 ux_24 ex_24 => ?_)
        first | refine q_imul hx hb dX10_endTold_70 ⟨by omega, by omega⟩ (fun x_25 lx_25 ux_25 ex_25 => ?_) | refine q_imulw hx hb dX10_endTold_70 (fun x_25 lx_25 ux_25 ex_25 => ?_)
        refine q_iconst hx hb dX10_endTold_71 ?_
        first | refine q_iadd hx hb dX10_endTold_72 ⟨by omega, by omega⟩ (fun x_26 lx_26 ux_26 ex_26 => ?_) | refine q_iaddw hx hb dX10_endTold_72 (fun x_26 lx_26 ux_26 ex_26 => ?_)
        refine q_puti (ci := 8) (C := RX10) (T := TX10) (N := 26) hx hb hts (fun w h => List.mem_cons_of_mem _ (mfX100 w h)) hown hK hw hs.1 hs.2.1 rfl 20 (by decide) (hts _ (List.mem_cons_of_mem _ (mr19 _ (List.mem_of_getElem? (i := 2) rfl)))) (fun _ h => h) tyX10 tyX10_ok nmX10 rfl (ty := .int) (by decide +kernel) rfl rfl dX10_endTold_73 (fun H locs hw => ?_)
        obtain ⟨f_27, ef_27⟩ : ∃ g : Nat → va_E, g = pU f_20 a0 20 (.int (iI x_26)) := ⟨_, rfl⟩
        have v20_f_27 : fI f_27 a0 20 = x_26 := by rw [ef_27]; exact fI_pU_self hs.2.1 rfl ⟨lx_26, ux_26⟩
        have t14_f_27 : fI f_27 a0 14 = fI f_20 a0 14 := by rw [ef_27]; exact fI_pU (Or.inr (by decide))
        have t15_f_27 : fI f_27 a0 15 = fI f_20 a0 15 := by rw [ef_27]; exact fI_pU (Or.inr (by decide))
        have t16_f_27 : fI f_27 a0 16 = fI f_20 a0 16 := by rw [ef_27]; exact fI_pU (Or.inr (by decide))
        have t17_f_27 : fI f_27 a0 17 = fI f_20 a0 17 := by rw [ef_27]; exact fI_pU (Or.inr (by decide))
        have t19_f_27 : fI f_27 a0 19 = fI f_20 a0 19 := by rw [ef_27]; exact fI_pU (Or.inr (by decide))
        have t22_f_27 : fI f_27 a0 22 = fI f_20 a0 22 := by rw [ef_27]; exact fI_pU (Or.inr (by decide))
        have hE := hE.trans (show Kp a0 ad [21] [15, 16, 17, 18, 19, 20, 22] f_20 f_27 by rw [ef_27]; exact Kp_pU hs (by decide))
        have hs_ := hs
        have hs : MS cy L0 f_27 a0 ad := by rw [ef_27]; exact MS_pU hs rfl
        rw [← ef_27] at hw
        have Q8 : aI f_27 (ad 8) = aI f0 (ad 8) := funext fun x => hE.1 8 rfl (by decide) x
        have c21_0_f_27 : aI f_27 (ad 21) 0 = aI f_20 (ad 21) 0 := by rw [ef_27]; exact hs_.aI_pU _ _
        have c21_1_f_27 : aI f_27 (ad 21) 1 = aI f_20 (ad 21) 1 := by rw [ef_27]; exact hs_.aI_pU _ _
        have c21_2_f_27 : aI f_27 (ad 21) 2 = aI f_20 (ad 21) 2 := by rw [ef_27]; exact hs_.aI_pU _ _
        have c21_3_f_27 : aI f_27 (ad 21) 3 = aI f_20 (ad 21) 3 := by rw [ef_27]; exact hs_.aI_pU _ _
        have c21_4_f_27 : aI f_27 (ad 21) 4 = aI f_20 (ad 21) 4 := by rw [ef_27]; exact hs_.aI_pU _ _
        have c21_5_f_27 : aI f_27 (ad 21) 5 = aI f_20 (ad 21) 5 := by rw [ef_27]; exact hs_.aI_pU _ _
        have c21_6_f_27 : aI f_27 (ad 21) 6 = aI f_20 (ad 21) 6 := by rw [ef_27]; exact hs_.aI_pU _ _
        have c21_7_f_27 : aI f_27 (ad 21) 7 = aI f_20 (ad 21) 7 := by rw [ef_27]; exact hs_.aI_pU _ _
        have c21_8_f_27 : aI f_27 (ad 21) 8 = aI f_20 (ad 21) 8 := by rw [ef_27]; exact hs_.aI_pU _ _
        have c21_9_f_27 : aI f_27 (ad 21) 9 = aI f_20 (ad 21) 9 := by rw [ef_27]; exact hs_.aI_pU _ _
        have p107 : PSr Tt nn f_27 a0 (sq FF (etF Tt nn ee (aI f0 (ad 21) 5))) (etE Tt nn ee) := (ps.wr (f1 := f_27) (x := 8 * tP Tt nn (tQ Tt nn ee) + 3) (by omega) (by omega) (by omega) (by omega)).to ((sq_0 z19).trans h8) rfl
        have v107 : RQ2 (sq FF (etF Tt nn ee (aI f0 (ad 21) 5))) f_27 (ad 21) (etU Tt nn ee) (etT Tt nn ee) := fun z => absurd (h8.symm.trans ((sq_0 z19).symm.trans z)) (by omega)
        refine lv_goto (tgt := 107) hx hb dX10_endTold_76 (by decide) ?_
        exact J107 L0 f_27 hs hE (by omega) (by exact p107) (by exact v107) (by omega) (by omega) (by omega) (by omega) (by omega) (by omega) (by omega) (by omega) _ _ _ hw (lv_sub hl [0] rfl)
