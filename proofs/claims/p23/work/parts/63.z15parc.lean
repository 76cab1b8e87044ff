/-! ===== dates of the text ===== -/
def daF (T : Int → Int) (n e : Int) : Int := if nS T n e 2000 2099 ≠ 0 then nS T n e 2000 2099 else if nS T n (tQn T n 1 e) 1 12 ≠ 0 then nS T n (tQn T n 1 e) 1 12 else nS T n (tQn T n 2 e) 1 (dI (vN T n e) (vN T n (tQn T n 1 e)))
def daV (T : Int → Int) (n e : Int) : Int := mst (vN T n e) (vN T n (tQn T n 1 e)) + vN T n (tQn T n 2 e) - 1
theorem daF_0 {T : Int → Int} {n e : Int} (h : nS T n e 2000 2099 ≠ 0) : daF T n e = nS T n e 2000 2099 := by unfold daF; rw [if_pos h]
theorem daF_1 {T : Int → Int} {n e : Int} (h : nS T n e 2000 2099 = 0) (g : nS T n (tQn T n 1 e) 1 12 ≠ 0) : daF T n e = nS T n (tQn T n 1 e) 1 12 := by unfold daF; rw [if_neg (by omega), if_pos g]
theorem daF_2 {T : Int → Int} {n e : Int} (h : nS T n e 2000 2099 = 0) (g : nS T n (tQn T n 1 e) 1 12 = 0) : daF T n e = nS T n (tQn T n 2 e) 1 (dI (vN T n e) (vN T n (tQn T n 1 e))) := by unfold daF; rw [if_neg (by omega), if_neg (by omega)]
/-- a Booking's fields but one -/
def KB (f g : Nat → va_E) (b j : Nat) : Prop := ∀ k : Nat, k ≠ j → fV g b k = fV f b k
theorem OB.putA {f g h : Nat → va_E} {a b k : Nat} {v : Value} (x : OB f g a b) (e : h = pU g a k v) : OB f h a b := by rw [e]; exact fun z q r => (pU_ne q).trans (x z q r)
theorem KB.of {f0 f g : Nat → va_E} {a b j : Nat} {v : Value} (o : OA f0 f a) (ne : b ≠ a) (e : g = pU f b j v) : KB f0 g b j := by
  intro k hk
  rw [e, fV_pU (Or.inr hk)]
  unfold fV
  rw [o b ne]
def nvq (k s v : Int) : Int := if k = 7 then s - cyS (mo s) + 1 else v
theorem stC_b {k n : Int} (h1 : 1 ≤ n) (h2 : n ≤ 999) : 1 ≤ stC k n ∧ stC k n ≤ 12000 := by unfold stC; split <;> omega
theorem mo_b {s : Int} (h0 : 0 ≤ s) (h1 : s ≤ 36524) : 0 ≤ mo s ∧ mo s ≤ 1199 ∧ 0 ≤ cyS (mo s) ∧ cyS (mo s) ≤ s := by
  obtain ⟨a, b, c⟩ := mo_in h0
  have d := mo_1199 h0 h1
  have e := cyS_b (M := mo s) a (by omega)
  exact ⟨a, d, e.1, b⟩
set_option maxHeartbeats 4000000 in
set_option maxRecDepth 100000 in
theorem c_X5_readDate_p {Z : Zt} (zo : Zok Z) (l : Launch) (D : va_G) (cy : Cy) (L0 : List Nat) (f0 : Nat → va_E) (a0 : Nat) (m_a0 : a0 ∈ L0) (o_a0 : Ob f0 a0 4) (hg : GI cy L0 f0) (Tt : Int → Int) (nn : Int) (tp : Nat) (rt : RT Tt nn f0 a0 tp) (ee : Int) (rs : RS Tt nn f0 a0 ee) (e0 : 0 ≤ ee) (e1 : ee ≤ nn) : Ci Z l yX5_readDate (Cond.code yX5_readDate cX5_readDate 4 (some .int) :: TB) ({ frames := 3, cells := 0, slots := 0, locals := 66 } : Room) 0 0 D (tq cy) [.ref a0] L0 f0 (fun (r : Int) (L1 : List Nat) (f1 : Nat → va_E) => L0 = L1 ∧ GI cy L0 f1 ∧ Ex cy f0 f1 ∧ ((daF Tt nn ee = 0 ∧ r = daV Tt nn ee ∧ 0 ≤ r ∧ r ≤ 36524 ∧ OA f0 f1 a0 ∧ K5 f0 f1 a0 ∧ RT Tt nn f1 a0 tp ∧ RS Tt nn f1 a0 (tQn Tt nn 3 ee)) ∨ (daF Tt nn ee ≠ 0 ∧ r = -1 ∧ OA f0 f1 a0 ∧ fI f1 a0 5 = daF Tt nn ee))) := by
  refine Ci.enter (cc := cX5_readDate) (n := 4) rfl (plainFor_of_name (by decide)) (Nat.le_of_ble_eq_true rfl) ?_
  intro p e s m below meth c ls A hx hb hr hts hown hlocks hnm hml hK hA hAe hw hZ hl
  have hown : s.vm.findClass RX5 = some m.cls := hown
  have hl : lv_has ls 4 [(0, .ref a0)] := hl
  have hN : ZN s := (zo.2.2.2.2 _ _ _ hZ).2
  have hE : Ex cy f0 f0 := Ex.refl cy f0
  have nb0 := rt.2.2.1
  have nb1 := rt.2.2.2.1
  have rs1 := rs.1
  have rs2 := rs.2.1
  have rs3 := rs.2.2
  have pb := tP_b (T := Tt) e1
  have qb := tQ_b (T := Tt) e1
  have oa := OA.refl f0 a0
  have k5 := K5.refl f0 a0
  have tb1 := tQn_b (T := Tt) e0 e1 1
  have tb2 := tQn_b (T := Tt) e0 e1 2
  have tb3 := tQn_b (T := Tt) e0 e1 3
  refine lv_aload_n hx hb dX5_readDate_0 rfl (lv_at hl 0 rfl) ?_
  refine q_sipush hx hb dX5_readDate_1 rfl ?_
  refine q_sipush hx hb dX5_readDate_4 rfl ?_
  refine q_call_i hA hK hw (va_runV (As := [.int (iI 2000), .int (iI 2099)]) (rest := []) ⟨hx, hb, hml, hown, hts⟩ (c_X5_takeNumber_q zo l D cy L0 f0 a0 2000 (by decide) (by decide) 2099 (by decide) (by decide) m_a0 o_a0 hg Tt nn tp rt ee rs (by omega) (by omega) _) (cwV 2 hts (gT (inV (mr10 _ (List.mem_of_getElem? (i := 10) rfl)) (mr10 _ (List.mem_of_getElem? (i := 11) rfl)) (mr10 _ (List.mem_of_getElem? (i := 12) rfl)) (mr5 _ (List.mem_of_getElem? (i := 18) rfl)) (mr10 _ (List.mem_of_getElem? (i := 13) rfl)))) rfl rfl rfl (by decide +kernel) ⟨Nat.le_of_ble_eq_true rfl, Nat.le_of_ble_eq_true rfl⟩) (Wd.preV zo hA hZ hw hK m_a0 o_a0 rfl) rfl rfl hl.1 rfl (lv_room (Nat.le_of_ble_eq_true rfl)) dX5_readDate_7 ⟨Nat.le_of_ble_eq_true rfl, Nat.le_of_ble_eq_true rfl⟩) (fun x_1 L1 f_2 H locs lx_1 ux_1 ex_1 hw => ?_)
  obtain ⟨rfl, hg, hX, ex_1⟩ := ex_1
  have hE := hE.trans hX
  have o_a0 := hX.1.1 _ _ o_a0
  have t7 := ex_1
  refine lv_istore_n (lv' := [(1, .int (iI x_1)), (0, .ref a0)]) hx hb dX5_readDate_10 rfl hl (by decide) rfl (fun ls hl => ?_)
  refine lv_iload_n hx hb dX5_readDate_11 rfl (lv_at hl 0 rfl) ?_
  refine q_iconst hx hb dX5_readDate_12 ?_
  refine q_icmp_ne (tgt := 18) hx hb dX5_readDate_13 (by decide) ⟨lx_1, ux_1⟩ ⟨by decide, by decide⟩ (fun c13 => ?_) (fun c13 => ?_)
  · obtain ⟨w7, q7, l7, u7, qo, qk, rt, rs⟩ := t7.resolve_right (by omega)
    have oa := oa.trans qo
    have k5 := k5.trans qk
    have rs1 := rs.1
    have rs2 := rs.2.1
    have rs3 := rs.2.2
    refine lv_aload_n hx hb dX5_readDate_18 rfl (lv_at hl 1 rfl) ?_
    refine q_iconst hx hb dX5_readDate_19 ?_
    refine q_bipush hx hb dX5_readDate_20 rfl ?_
    refine q_call_i hA hK hw (va_runV (As := [.int (iI 1), .int (iI 12)]) (rest := []) ⟨hx, hb, hml, hown, hts⟩ (c_X5_takeNumber_q zo l D cy L0 f_2 a0 1 (by decide) (by decide) 12 (by decide) (by decide) m_a0 o_a0 hg Tt nn tp rt (tQn Tt nn 1 ee) rs (by omega) (by omega) _) (cwV 2 hts (gT (inV (mr10 _ (List.mem_of_getElem? (i := 10) rfl)) (mr10 _ (List.mem_of_getElem? (i := 11) rfl)) (mr10 _ (List.mem_of_getElem? (i := 12) rfl)) (mr5 _ (List.mem_of_getElem? (i := 18) rfl)) (mr10 _ (List.mem_of_getElem? (i := 13) rfl)))) rfl rfl rfl (by decide +kernel) ⟨Nat.le_of_ble_eq_true rfl, Nat.le_of_ble_eq_true rfl⟩) (Wd.preV zo hA hZ hw hK m_a0 o_a0 rfl) rfl rfl hl.1 rfl (lv_room (Nat.le_of_ble_eq_true rfl)) dX5_readDate_22 ⟨Nat.le_of_ble_eq_true rfl, Nat.le_of_ble_eq_true rfl⟩) (fun x_3 L1 f_4 H locs lx_3 ux_3 ex_3 hw => ?_)
    obtain ⟨rfl, hg, hX, ex_3⟩ := ex_3
    have hE := hE.trans hX
    have o_a0 := hX.1.1 _ _ o_a0
    have t22 := ex_3
    refine lv_istore_n (lv' := [(2, .int (iI x_3)), (1, .int (iI x_1)), (0, .ref a0)]) hx hb dX5_readDate_25 rfl hl (by decide) rfl (fun ls hl => ?_)
    refine lv_iload_n hx hb dX5_readDate_26 rfl (lv_at hl 0 rfl) ?_
    refine q_iconst hx hb dX5_readDate_27 ?_
    refine q_icmp_ne (tgt := 33) hx hb dX5_readDate_28 (by decide) ⟨lx_3, ux_3⟩ ⟨by decide, by decide⟩ (fun c28 => ?_) (fun c28 => ?_)
    · obtain ⟨w22, q22, l22, u22, qo, qk, rt, rs⟩ := t22.resolve_right (by omega)
      have oa := oa.trans qo
      have k5 := k5.trans qk
      have rs1 := rs.1
      have rs2 := rs.2.1
      have rs3 := rs.2.2
      refine lv_aload_n hx hb dX5_readDate_33 rfl (lv_at hl 2 rfl) ?_
      refine q_iconst hx hb dX5_readDate_34 ?_
      refine lv_iload_n hx hb dX5_readDate_35 rfl (lv_at hl 1 rfl) ?_
      refine lv_iload_n hx hb dX5_readDate_36 rfl (lv_at hl 0 rfl) ?_
      refine q_call_i hA hK hw (va_runSN (As := [.int (iI x_1), .int (iI x_3)]) (rest := [.int (iI 1), .ref a0]) ⟨hx, hb, hml, hown, hts⟩ (c_X1_daysOfMonth_c zo l D cy L0 f_4 x_1 lx_1 ux_1 x_3 lx_3 ux_3 _) ⟨va_cnB 2 hts (gT (inC (mr11 _ (List.mem_of_getElem? (i := 21) rfl)))) rfl rfl rfl (hN _ (List.mem_of_getElem? (i := 1) rfl)) (hts _ (List.mem_cons_of_mem _ (mr11 _ (List.mem_of_getElem? (i := 20) rfl)))) (by decide +kernel) ⟨Nat.le_of_ble_eq_true rfl, Nat.le_of_ble_eq_true rfl⟩, (hts _ (List.mem_cons_of_mem _ (mr11 _ (List.mem_of_getElem? (i := 19) rfl)))), trivial⟩ (Wd.preS zo hA hZ hw hK) rfl rfl hl.1 rfl (lv_room (Nat.le_of_ble_eq_true rfl)) dX5_readDate_37 ⟨Nat.le_of_ble_eq_true rfl, Nat.le_of_ble_eq_true rfl⟩) (fun x_5 L1 f1 H locs lx_5 ux_5 ex_5 hw => ?_)
      obtain ⟨rfl, rfl, ex_5⟩ := ex_5
      have d37 : x_5 = dI (vN Tt nn ee) (vN Tt nn (tQn Tt nn 1 ee)) := by rcases ex_5 with q | q; (rw [q.2.2.2.2, ← q7, ← q22]); (exfalso; omega)
      have db := dI_b (vN Tt nn ee) (vN Tt nn (tQn Tt nn 1 ee))
      clear ex_5
      refine q_call_i hA hK hw (va_runV (As := [.int (iI 1), .int (iI x_5)]) (rest := []) ⟨hx, hb, hml, hown, hts⟩ (c_X5_takeNumber_q zo l D cy L0 f_4 a0 1 (by decide) (by decide) x_5 lx_5 ux_5 m_a0 o_a0 hg Tt nn tp rt (tQn Tt nn 2 ee) rs (by omega) (by omega) _) (cwV 2 hts (gT (inV (mr10 _ (List.mem_of_getElem? (i := 10) rfl)) (mr10 _ (List.mem_of_getElem? (i := 11) rfl)) (mr10 _ (List.mem_of_getElem? (i := 12) rfl)) (mr5 _ (List.mem_of_getElem? (i := 18) rfl)) (mr10 _ (List.mem_of_getElem? (i := 13) rfl)))) rfl rfl rfl (by decide +kernel) ⟨Nat.le_of_ble_eq_true rfl, Nat.le_of_ble_eq_true rfl⟩) (Wd.preV zo hA hZ hw hK m_a0 o_a0 rfl) rfl rfl hl.1 rfl (lv_room (Nat.le_of_ble_eq_true rfl)) dX5_readDate_40 ⟨Nat.le_of_ble_eq_true rfl, Nat.le_of_ble_eq_true rfl⟩) (fun x_6 L1 f_7 H locs lx_6 ux_6 ex_6 hw => ?_)
      obtain ⟨rfl, hg, hX, ex_6⟩ := ex_6
      have hE := hE.trans hX
      have o_a0 := hX.1.1 _ _ o_a0
      have t40 := ex_6
      rw [d37] at t40
      refine lv_istore_n (lv' := [(3, .int (iI x_6)), (2, .int (iI x_3)), (1, .int (iI x_1)), (0, .ref a0)]) hx hb dX5_readDate_43 rfl hl (by decide) rfl (fun ls hl => ?_)
      refine lv_iload_n hx hb dX5_readDate_44 rfl (lv_at hl 0 rfl) ?_
      refine q_iconst hx hb dX5_readDate_45 ?_
      refine q_icmp_ne (tgt := 51) hx hb dX5_readDate_46 (by decide) ⟨lx_6, ux_6⟩ ⟨by decide, by decide⟩ (fun c46 => ?_) (fun c46 => ?_)
      · obtain ⟨w40, q40, l40, u40, qo, qk, rt, rs⟩ := t40.resolve_right (by omega)
        have oa := oa.trans qo
        have k5 := k5.trans qk
        have rs1 := rs.1
        have rs2 := rs.2.1
        have rs3 := rs.2.2
        refine lv_iload_n hx hb dX5_readDate_51 rfl (lv_at hl 2 rfl) ?_
        refine lv_iload_n hx hb dX5_readDate_52 rfl (lv_at hl 1 rfl) ?_
        refine q_call_i hA hK hw (va_runSN (As := [.int (iI x_1), .int (iI x_3)]) (rest := []) ⟨hx, hb, hml, hown, hts⟩ (c_X1_monthNumber zo l D cy L0 f_7 x_1 lx_1 ux_1 x_3 lx_3 ux_3 _) ⟨va_cnB 2 hts (gT (inC (mr12 _ (List.mem_of_getElem? (i := 0) rfl)))) rfl rfl rfl (hN _ (List.mem_of_getElem? (i := 2) rfl)) (hts _ (List.mem_cons_of_mem _ (mr11 _ (List.mem_of_getElem? (i := 20) rfl)))) (by decide +kernel) ⟨Nat.le_of_ble_eq_true rfl, Nat.le_of_ble_eq_true rfl⟩, (hts _ (List.mem_cons_of_mem _ (mr11 _ (List.mem_of_getElem? (i := 23) rfl)))), trivial⟩ (Wd.preS zo hA hZ hw hK) rfl rfl hl.1 rfl (lv_room (Nat.le_of_ble_eq_true rfl)) dX5_readDate_53 ⟨Nat.le_of_ble_eq_true rfl, Nat.le_of_ble_eq_true rfl⟩) (fun x_8 L1 f1 H locs lx_8 ux_8 ex_8 hw => ?_)
        obtain ⟨rfl, rfl, ex_8⟩ := ex_8
        have n53 := ex_8 ⟨by omega, by omega, by omega, by omega⟩
        have mb := mst_b (y := x_1) (m := x_3) (by omega) (by omega) (by omega) (by omega)
        have db2 : dI x_1 x_3 = dI (vN Tt nn ee) (vN Tt nn (tQn Tt nn 1 ee)) := by rw [← q7, ← q22]
        clear ex_8
        refine q_call_i hA hK hw (va_runSN (As := [.int (iI x_8)]) (rest := []) ⟨hx, hb, hml, hown, hts⟩ (c_X1_monthStart zo l D cy L0 f_7 x_8 lx_8 ux_8 _) ⟨va_cnB 1 hts (gT (inC (mr12 _ (List.mem_of_getElem? (i := 3) rfl)))) rfl rfl rfl (hN _ (List.mem_of_getElem? (i := 3) rfl)) (hts _ (List.mem_cons_of_mem _ (mr11 _ (List.mem_of_getElem? (i := 20) rfl)))) (by decide +kernel) ⟨Nat.le_of_ble_eq_true rfl, Nat.le_of_ble_eq_true rfl⟩, (hts _ (List.mem_cons_of_mem _ (mr12 _ (List.mem_of_getElem? (i := 2) rfl)))), trivial⟩ (Wd.preS zo hA hZ hw hK) rfl rfl hl.1 rfl (lv_room (Nat.le_of_ble_eq_true rfl)) dX5_readDate_56 ⟨Nat.le_of_ble_eq_true rfl, Nat.le_of_ble_eq_true rfl⟩) (fun x_9 L1 f1 H locs lx_9 ux_9 ex_9 hw => ?_)
        obtain ⟨rfl, rfl, ex_9⟩ := ex_9
        have s56 : x_9 = mst x_1 x_3 := (ex_9.2 ⟨by omega, by omega⟩).trans (Eq.trans (show cyS x_8 = cyS ((x_1 - 2000) * 12 + x_3 - 1) by rw [show x_8 = (x_1 - 2000) * 12 + x_3 - 1 by omega]) (cyS_mst (by omega) (by omega) (by omega)))
        clear ex_9
        refine lv_iload_n hx hb dX5_readDate_59 rfl (lv_at hl 0 rfl) ?_
        first | refine q_iadd hx hb dX5_readDate_60 ⟨by omega, by omega⟩ (fun x_10 lx_10 ux_10 ex_10 => ?_) | refine q_iaddw hx hb dX5_readDate_60 (fun x_10 lx_10 ux_10 _ => ?_)
        refine q_iconst hx hb dX5_readDate_61 ?_
        first | refine q_isub hx hb dX5_readDate_62 ⟨by omega, by omega⟩ (fun x_11 lx_11 ux_11 ex_11 => ?_) | refine q_isubw hx hb dX5_readDate_62 (fun x_11 lx_11 ux_11 _ => ?_)
        exact q_ret_i hx hb hr hlocks hK hAe hw ⟨lx_11, ux_11⟩ (Nat.le_of_ble_eq_true rfl) (Nat.le_of_ble_eq_true rfl) dX5_readDate_63 (by exact ⟨rfl, hg, hE, Or.inl ⟨(daF_2 w7 w22).trans w40, by show _ = mst (vN Tt nn ee) (vN Tt nn (tQn Tt nn 1 ee)) + vN Tt nn (tQn Tt nn 2 ee) - 1; rw [← q7, ← q22, ← q40]; omega, by omega, by omega, oa, k5, rt, rs⟩⟩)
      · obtain ⟨w40, q40, qo, q5⟩ := t40.resolve_left (by omega)
        have oa := oa.trans qo
        refine q_iconst hx hb dX5_readDate_49 ?_
        exact q_ret_i hx hb hr hlocks hK hAe hw ⟨by decide, by decide⟩ (Nat.le_of_ble_eq_true rfl) (Nat.le_of_ble_eq_true rfl) dX5_readDate_50 (by (have z := daF_2 w7 w22; exact ⟨rfl, hg, hE, Or.inr ⟨by omega, by omega, oa, by omega⟩⟩))
    · obtain ⟨w22, q22, qo, q5⟩ := t22.resolve_left (by omega)
      have oa := oa.trans qo
      refine q_iconst hx hb dX5_readDate_31 ?_
      exact q_ret_i hx hb hr hlocks hK hAe hw ⟨by decide, by decide⟩ (Nat.le_of_ble_eq_true rfl) (Nat.le_of_ble_eq_true rfl) dX5_readDate_32 (by (have z := daF_1 w7 w22; exact ⟨rfl, hg, hE, Or.inr ⟨by omega, by omega, oa, by omega⟩⟩))
  · obtain ⟨w7, q7, qo, q5⟩ := t7.resolve_left (by omega)
    have oa := oa.trans qo
    refine q_iconst hx hb dX5_readDate_16 ?_
    exact q_ret_i hx hb hr hlocks hK hAe hw ⟨by decide, by decide⟩ (Nat.le_of_ble_eq_true rfl) (Nat.le_of_ble_eq_true rfl) dX5_readDate_17 (by (have z := daF_0 w7; exact ⟨rfl, hg, hE, Or.inr ⟨by omega, by omega, oa, by omega⟩⟩))
set_option maxHeartbeats 4000000 in
set_option maxRecDepth 100000 in
theorem c_X6_init_1p {Z : Zt} (zo : Zok Z) (l : Launch) (D : va_G) (cy : Cy) (L0 : List Nat) (f0 : Nat → va_E) (a0 : Nat) (x1 : Int) (lx1 : -2147483648 ≤ x1) (ux1 : x1 ≤ 2147483647) (x2 : Int) (lx2 : -2147483648 ≤ x2) (ux2 : x2 ≤ 2147483647) (x3 : Int) (lx3 : -2147483648 ≤ x3) (ux3 : x3 ≤ 2147483647) (m_a0 : a0 ∈ L0) (o_a0 : Ob f0 a0 1) (M : List Nat) (hM : ∀ x ∈ M, x ∈ L0) (hg : GI cy M f0) : Cv Z l yX6_init (Cond.code yX6_init cX6_init 4 none :: TB) ({ frames := 1, cells := 0, slots := 0, locals := 20 } : Room) 0 0 D (tq cy) [.ref a0, .int (iI x1), .int (iI x2), .int (iI x3)] L0 f0 (fun (L1 : List Nat) (f1 : Nat → va_E) => L0 = L1 ∧ GI cy M f1 ∧ Ex cy f0 f1 ∧ (∀ x ∈ L0, x ≠ a0 → f1 x = f0 x) ∧ (fI f1 a0 0 = x1 ∧ fI f1 a0 1 = x2 ∧ fI f1 a0 2 = x3)) := by
  refine Cv.enter (cc := cX6_init) (n := 4) rfl (plainFor_of_name (by decide)) (Nat.le_of_ble_eq_true rfl) ?_
  intro p e s m below meth c ls A hx hb hr hts hown hlocks hnm hml hK hA hAe hw hZ hl
  have hown : s.vm.findClass RX6 = some m.cls := hown
  have hl : lv_has ls 4 [(0, .ref a0), (1, .int (iI x1)), (2, .int (iI x2)), (3, .int (iI x3))] := hl
  have hN : ZN s := (zo.2.2.2.2 _ _ _ hZ).2
  have hO : ∀ x ∈ L0, x ≠ a0 → f0 x = f0 x := fun _ _ _ => rfl
  have hE : Ex cy f0 f0 := Ex.refl cy f0
  refine lv_aload_n hx hb dX6_init_0 rfl (lv_at hl 0 rfl) ?_
  refine W.objInit hx hb hown (hts _ (List.mem_cons_of_mem _ (mr2 _ (List.mem_of_getElem? (i := 17) rfl)))) (hts _ (List.mem_cons_of_mem _ (mr1 _ (List.mem_of_getElem? (i := 12) rfl)))) (hts _ (List.mem_cons_of_mem _ (mr1 _ (List.mem_of_getElem? (i := 13) rfl)))) rfl (by rw [hml]; exact hl.1) rfl dX6_init_1 (Nat.le_of_ble_eq_true rfl) (Nat.le_of_ble_eq_true rfl) ?_
  refine W.eq (g2 := F0 m 4 ls []) rfl ?_
  refine lv_aload_n hx hb dX6_init_4 rfl (lv_at hl 0 rfl) ?_
  refine lv_iload_n hx hb dX6_init_5 rfl (lv_at hl 1 rfl) ?_
  refine q_putFi (ci := 1) (C := RX2) (T := TX2) (N := 4) hx hb hts (fun w h => List.mem_cons_of_mem _ (mfX20 w h)) hown hK hw m_a0 o_a0 rfl 0 (by decide) (hts _ (List.mem_cons_of_mem _ (mr2 _ (List.mem_of_getElem? (i := 18) rfl)))) (fun _ h => h) tyX2 tyX2_ok nmX2 rfl hnm rfl (ty := .int) (by decide +kernel) rfl rfl dX6_init_6 (fun H locs hw => ?_)
  have oo := o_a0
  obtain ⟨f_1, ef_1⟩ : ∃ g : Nat → va_E, g = pU f0 a0 0 (.int (iI x1)) := ⟨_, rfl⟩
  have hX : Ex cy f0 f_1 := by rw [ef_1]; exact Ex_pU oo rfl rfl (by decide)
  have hg : GI cy M f_1 := by rw [ef_1]; exact hg.putI oo rfl ⟨lx1, ux1⟩ trivial
  rw [← ef_1] at hw
  have hO : ∀ x ∈ L0, x ≠ a0 → f_1 x = f0 x := fun x9 m9 h9 => Eq.trans (by rw [ef_1]; exact pU_ne h9) (hO x9 m9 h9)
  have hE := hE.trans hX
  have o_a0 := hX.1.1 _ _ o_a0
  have t_a0_1_f_1 : fI f_1 a0 1 = fI f0 a0 1 := by rw [ef_1]; exact fI_pU (Or.inr (by decide))
  have t_a0_2_f_1 : fI f_1 a0 2 = fI f0 a0 2 := by rw [ef_1]; exact fI_pU (Or.inr (by decide))
  have vf_1 : fI f_1 a0 0 = x1 := by rw [ef_1]; exact fI_pU_self oo rfl ⟨lx1, ux1⟩
  refine lv_aload_n hx hb dX6_init_9 rfl (lv_at hl 0 rfl) ?_
  refine lv_iload_n hx hb dX6_init_10 rfl (lv_at hl 2 rfl) ?_
  refine q_putFi (ci := 1) (C := RX2) (T := TX2) (N := 4) hx hb hts (fun w h => List.mem_cons_of_mem _ (mfX20 w h)) hown hK hw m_a0 o_a0 rfl 1 (by decide) (hts _ (List.mem_cons_of_mem _ (mr2 _ (List.mem_of_getElem? (i := 19) rfl)))) (fun _ h => h) tyX2 tyX2_ok nmX2 rfl hnm rfl (ty := .int) (by decide +kernel) rfl rfl dX6_init_11 (fun H locs hw => ?_)
  have oo := o_a0
  obtain ⟨f_2, ef_2⟩ : ∃ g : Nat → va_E, g = pU f_1 a0 1 (.int (iI x2)) := ⟨_, rfl⟩
  have hX : Ex cy f_1 f_2 := by rw [ef_2]; exact Ex_pU oo rfl rfl (by decide)
  have hg : GI cy M f_2 := by rw [ef_2]; exact hg.putI oo rfl ⟨lx2, ux2⟩ trivial
  rw [← ef_2] at hw
  have hO : ∀ x ∈ L0, x ≠ a0 → f_2 x = f0 x := fun x9 m9 h9 => Eq.trans (by rw [ef_2]; exact pU_ne h9) (hO x9 m9 h9)
  have hE := hE.trans hX
  have o_a0 := hX.1.1 _ _ o_a0
  have t_a0_0_f_2 : fI f_2 a0 0 = fI f_1 a0 0 := by rw [ef_2]; exact fI_pU (Or.inr (by decide))
  have t_a0_2_f_2 : fI f_2 a0 2 = fI f_1 a0 2 := by rw [ef_2]; exact fI_pU (Or.inr (by decide))
  have vf_2 : fI f_2 a0 1 = x2 := by rw [ef_2]; exact fI_pU_self oo rfl ⟨lx2, ux2⟩
  refine lv_aload_n hx hb dX6_init_14 rfl (lv_at hl 0 rfl) ?_
  refine lv_iload_n hx hb dX6_init_15 rfl (lv_at hl 3 rfl) ?_
  refine q_putFi (ci := 1) (C := RX2) (T := TX2) (N := 4) hx hb hts (fun w h => List.mem_cons_of_mem _ (mfX20 w h)) hown hK hw m_a0 o_a0 rfl 2 (by decide) (hts _ (List.mem_cons_of_mem _ (mr2 _ (List.mem_of_getElem? (i := 20) rfl)))) (fun _ h => h) tyX2 tyX2_ok nmX2 rfl hnm rfl (ty := .int) (by decide +kernel) rfl rfl dX6_init_16 (fun H locs hw => ?_)
  have oo := o_a0
  obtain ⟨f_3, ef_3⟩ : ∃ g : Nat → va_E, g = pU f_2 a0 2 (.int (iI x3)) := ⟨_, rfl⟩
  have hX : Ex cy f_2 f_3 := by rw [ef_3]; exact Ex_pU oo rfl rfl (by decide)
  have hg : GI cy M f_3 := by rw [ef_3]; exact hg.putI oo rfl ⟨lx3, ux3⟩ trivial
  rw [← ef_3] at hw
  have hO : ∀ x ∈ L0, x ≠ a0 → f_3 x = f0 x := fun x9 m9 h9 => Eq.trans (by rw [ef_3]; exact pU_ne h9) (hO x9 m9 h9)
  have hE := hE.trans hX
  have o_a0 := hX.1.1 _ _ o_a0
  have t_a0_0_f_3 : fI f_3 a0 0 = fI f_2 a0 0 := by rw [ef_3]; exact fI_pU (Or.inr (by decide))
  have t_a0_1_f_3 : fI f_3 a0 1 = fI f_2 a0 1 := by rw [ef_3]; exact fI_pU (Or.inr (by decide))
  have vf_3 : fI f_3 a0 2 = x3 := by rw [ef_3]; exact fI_pU_self oo rfl ⟨lx3, ux3⟩
  exact q_ret_v hx hb hr hlocks hK hAe hw (Nat.le_of_ble_eq_true rfl) (Nat.le_of_ble_eq_true rfl) dX6_init_19 (by exact ⟨rfl, hg, hE, hO, by first | trivial | omega⟩)
set_option maxHeartbeats 4000000 in
set_option maxRecDepth 100000 in
theorem c_X6_init_2p {Z : Zt} (zo : Zok Z) (l : Launch) (D : va_G) (cy : Cy) (L0 : List Nat) (f0 : Nat → va_E) (a0 : Nat) (x1 : Int) (lx1 : -2147483648 ≤ x1) (ux1 : x1 ≤ 2147483647) (x2 : Int) (lx2 : -2147483648 ≤ x2) (ux2 : x2 ≤ 2147483647) (x3 : Int) (lx3 : -2147483648 ≤ x3) (ux3 : x3 ≤ 2147483647) (m_a0 : a0 ∈ L0) (o_a0 : Ob f0 a0 2) (M : List Nat) (hM : ∀ x ∈ M, x ∈ L0) (hg : GI cy M f0) : Cv Z l yX6_init (Cond.code yX6_init cX6_init 4 none :: TB) ({ frames := 1, cells := 0, slots := 0, locals := 20 } : Room) 0 0 D (tq cy) [.ref a0, .int (iI x1), .int (iI x2), .int (iI x3)] L0 f0 (fun (L1 : List Nat) (f1 : Nat → va_E) => L0 = L1 ∧ GI cy M f1 ∧ Ex cy f0 f1 ∧ (∀ x ∈ L0, x ≠ a0 → f1 x = f0 x) ∧ (fI f1 a0 0 = x1 ∧ fI f1 a0 1 = x2 ∧ fI f1 a0 2 = x3)) := by
  refine Cv.enter (cc := cX6_init) (n := 4) rfl (plainFor_of_name (by decide)) (Nat.le_of_ble_eq_true rfl) ?_
  intro p e s m below meth c ls A hx hb hr hts hown hlocks hnm hml hK hA hAe hw hZ hl
  have hown : s.vm.findClass RX6 = some m.cls := hown
  have hl : lv_has ls 4 [(0, .ref a0), (1, .int (iI x1)), (2, .int (iI x2)), (3, .int (iI x3))] := hl
  have hN : ZN s := (zo.2.2.2.2 _ _ _ hZ).2
  have hO : ∀ x ∈ L0, x ≠ a0 → f0 x = f0 x := fun _ _ _ => rfl
  have hE : Ex cy f0 f0 := Ex.refl cy f0
  refine lv_aload_n hx hb dX6_init_0 rfl (lv_at hl 0 rfl) ?_
  refine W.objInit hx hb hown (hts _ (List.mem_cons_of_mem _ (mr2 _ (List.mem_of_getElem? (i := 17) rfl)))) (hts _ (List.mem_cons_of_mem _ (mr1 _ (List.mem_of_getElem? (i := 12) rfl)))) (hts _ (List.mem_cons_of_mem _ (mr1 _ (List.mem_of_getElem? (i := 13) rfl)))) rfl (by rw [hml]; exact hl.1) rfl dX6_init_1 (Nat.le_of_ble_eq_true rfl) (Nat.le_of_ble_eq_true rfl) ?_
  refine W.eq (g2 := F0 m 4 ls []) rfl ?_
  refine lv_aload_n hx hb dX6_init_4 rfl (lv_at hl 0 rfl) ?_
  refine lv_iload_n hx hb dX6_init_5 rfl (lv_at hl 1 rfl) ?_
  refine q_putFi (ci := 2) (C := RX3) (T := TX3) (N := 7) hx hb hts (fun w h => List.mem_cons_of_mem _ (mfX30 w h)) hown hK hw m_a0 o_a0 rfl 0 (by decide) (hts _ (List.mem_cons_of_mem _ (mr2 _ (List.mem_of_getElem? (i := 18) rfl)))) (fun _ h => h) tyX3 tyX3_ok nmX3 rfl hnm rfl (ty := .int) (by decide +kernel) rfl rfl dX6_init_6 (fun H locs hw => ?_)
  have oo := o_a0
  obtain ⟨f_1, ef_1⟩ : ∃ g : Nat → va_E, g = pU f0 a0 0 (.int (iI x1)) := ⟨_, rfl⟩
  have hX : Ex cy f0 f_1 := by rw [ef_1]; exact Ex_pU oo rfl rfl (by decide)
  have hg : GI cy M f_1 := by rw [ef_1]; exact hg.putI oo rfl ⟨lx1, ux1⟩ trivial
  rw [← ef_1] at hw
  have hO : ∀ x ∈ L0, x ≠ a0 → f_1 x = f0 x := fun x9 m9 h9 => Eq.trans (by rw [ef_1]; exact pU_ne h9) (hO x9 m9 h9)
  have hE := hE.trans hX
  have o_a0 := hX.1.1 _ _ o_a0
  have t_a0_1_f_1 : fI f_1 a0 1 = fI f0 a0 1 := by rw [ef_1]; exact fI_pU (Or.inr (by decide))
  have t_a0_2_f_1 : fI f_1 a0 2 = fI f0 a0 2 := by rw [ef_1]; exact fI_pU (Or.inr (by decide))
  have vf_1 : fI f_1 a0 0 = x1 := by rw [ef_1]; exact fI_pU_self oo rfl ⟨lx1, ux1⟩
  refine lv_aload_n hx hb dX6_init_9 rfl (lv_at hl 0 rfl) ?_
  refine lv_iload_n hx hb dX6_init_10 rfl (lv_at hl 2 rfl) ?_
  refine q_putFi (ci := 2) (C := RX3) (T := TX3) (N := 7) hx hb hts (fun w h => List.mem_cons_of_mem _ (mfX30 w h)) hown hK hw m_a0 o_a0 rfl 1 (by decide) (hts _ (List.mem_cons_of_mem _ (mr2 _ (List.mem_of_getElem? (i := 19) rfl)))) (fun _ h => h) tyX3 tyX3_ok nmX3 rfl hnm rfl (ty := .int) (by decide +kernel) rfl rfl dX6_init_11 (fun H locs hw => ?_)
  have oo := o_a0
  obtain ⟨f_2, ef_2⟩ : ∃ g : Nat → va_E, g = pU f_1 a0 1 (.int (iI x2)) := ⟨_, rfl⟩
  have hX : Ex cy f_1 f_2 := by rw [ef_2]; exact Ex_pU oo rfl rfl (by decide)
  have hg : GI cy M f_2 := by rw [ef_2]; exact hg.putI oo rfl ⟨lx2, ux2⟩ trivial
  rw [← ef_2] at hw
  have hO : ∀ x ∈ L0, x ≠ a0 → f_2 x = f0 x := fun x9 m9 h9 => Eq.trans (by rw [ef_2]; exact pU_ne h9) (hO x9 m9 h9)
  have hE := hE.trans hX
  have o_a0 := hX.1.1 _ _ o_a0
  have t_a0_0_f_2 : fI f_2 a0 0 = fI f_1 a0 0 := by rw [ef_2]; exact fI_pU (Or.inr (by decide))
  have t_a0_2_f_2 : fI f_2 a0 2 = fI f_1 a0 2 := by rw [ef_2]; exact fI_pU (Or.inr (by decide))
  have vf_2 : fI f_2 a0 1 = x2 := by rw [ef_2]; exact fI_pU_self oo rfl ⟨lx2, ux2⟩
  refine lv_aload_n hx hb dX6_init_14 rfl (lv_at hl 0 rfl) ?_
  refine lv_iload_n hx hb dX6_init_15 rfl (lv_at hl 3 rfl) ?_
  refine q_putFi (ci := 2) (C := RX3) (T := TX3) (N := 7) hx hb hts (fun w h => List.mem_cons_of_mem _ (mfX30 w h)) hown hK hw m_a0 o_a0 rfl 2 (by decide) (hts _ (List.mem_cons_of_mem _ (mr2 _ (List.mem_of_getElem? (i := 20) rfl)))) (fun _ h => h) tyX3 tyX3_ok nmX3 rfl hnm rfl (ty := .int) (by decide +kernel) rfl rfl dX6_init_16 (fun H locs hw => ?_)
  have oo := o_a0
  obtain ⟨f_3, ef_3⟩ : ∃ g : Nat → va_E, g = pU f_2 a0 2 (.int (iI x3)) := ⟨_, rfl⟩
  have hX : Ex cy f_2 f_3 := by rw [ef_3]; exact Ex_pU oo rfl rfl (by decide)
  have hg : GI cy M f_3 := by rw [ef_3]; exact hg.putI oo rfl ⟨lx3, ux3⟩ trivial
  rw [← ef_3] at hw
  have hO : ∀ x ∈ L0, x ≠ a0 → f_3 x = f0 x := fun x9 m9 h9 => Eq.trans (by rw [ef_3]; exact pU_ne h9) (hO x9 m9 h9)
  have hE := hE.trans hX
  have o_a0 := hX.1.1 _ _ o_a0
  have t_a0_0_f_3 : fI f_3 a0 0 = fI f_2 a0 0 := by rw [ef_3]; exact fI_pU (Or.inr (by decide))
  have t_a0_1_f_3 : fI f_3 a0 1 = fI f_2 a0 1 := by rw [ef_3]; exact fI_pU (Or.inr (by decide))
  have vf_3 : fI f_3 a0 2 = x3 := by rw [ef_3]; exact fI_pU_self oo rfl ⟨lx3, ux3⟩
  exact q_ret_v hx hb hr hlocks hK hAe hw (Nat.le_of_ble_eq_true rfl) (Nat.le_of_ble_eq_true rfl) dX6_init_19 (by exact ⟨rfl, hg, hE, hO, by first | trivial | omega⟩)
set_option maxHeartbeats 4000000 in
set_option maxRecDepth 100000 in
theorem c_X6_init_3p {Z : Zt} (zo : Zok Z) (l : Launch) (D : va_G) (cy : Cy) (L0 : List Nat) (f0 : Nat → va_E) (a0 : Nat) (x1 : Int) (lx1 : -2147483648 ≤ x1) (ux1 : x1 ≤ 2147483647) (x2 : Int) (lx2 : -2147483648 ≤ x2) (ux2 : x2 ≤ 2147483647) (x3 : Int) (lx3 : -2147483648 ≤ x3) (ux3 : x3 ≤ 2147483647) (m_a0 : a0 ∈ L0) (o_a0 : Ob f0 a0 3) (M : List Nat) (hM : ∀ x ∈ M, x ∈ L0) (hg : GI cy M f0) : Cv Z l yX6_init (Cond.code yX6_init cX6_init 4 none :: TB) ({ frames := 1, cells := 0, slots := 0, locals := 20 } : Room) 0 0 D (tq cy) [.ref a0, .int (iI x1), .int (iI x2), .int (iI x3)] L0 f0 (fun (L1 : List Nat) (f1 : Nat → va_E) => L0 = L1 ∧ GI cy M f1 ∧ Ex cy f0 f1 ∧ (∀ x ∈ L0, x ≠ a0 → f1 x = f0 x) ∧ (fI f1 a0 0 = x1 ∧ fI f1 a0 1 = x2 ∧ fI f1 a0 2 = x3)) := by
  refine Cv.enter (cc := cX6_init) (n := 4) rfl (plainFor_of_name (by decide)) (Nat.le_of_ble_eq_true rfl) ?_
  intro p e s m below meth c ls A hx hb hr hts hown hlocks hnm hml hK hA hAe hw hZ hl
  have hown : s.vm.findClass RX6 = some m.cls := hown
  have hl : lv_has ls 4 [(0, .ref a0), (1, .int (iI x1)), (2, .int (iI x2)), (3, .int (iI x3))] := hl
  have hN : ZN s := (zo.2.2.2.2 _ _ _ hZ).2
  have hO : ∀ x ∈ L0, x ≠ a0 → f0 x = f0 x := fun _ _ _ => rfl
  have hE : Ex cy f0 f0 := Ex.refl cy f0
  refine lv_aload_n hx hb dX6_init_0 rfl (lv_at hl 0 rfl) ?_
  refine W.objInit hx hb hown (hts _ (List.mem_cons_of_mem _ (mr2 _ (List.mem_of_getElem? (i := 17) rfl)))) (hts _ (List.mem_cons_of_mem _ (mr1 _ (List.mem_of_getElem? (i := 12) rfl)))) (hts _ (List.mem_cons_of_mem _ (mr1 _ (List.mem_of_getElem? (i := 13) rfl)))) rfl (by rw [hml]; exact hl.1) rfl dX6_init_1 (Nat.le_of_ble_eq_true rfl) (Nat.le_of_ble_eq_true rfl) ?_
  refine W.eq (g2 := F0 m 4 ls []) rfl ?_
  refine lv_aload_n hx hb dX6_init_4 rfl (lv_at hl 0 rfl) ?_
  refine lv_iload_n hx hb dX6_init_5 rfl (lv_at hl 1 rfl) ?_
  refine q_putFi (ci := 3) (C := RX4) (T := TX4) (N := 3) hx hb hts (fun w h => List.mem_cons_of_mem _ (mfX40 w h)) hown hK hw m_a0 o_a0 rfl 0 (by decide) (hts _ (List.mem_cons_of_mem _ (mr2 _ (List.mem_of_getElem? (i := 18) rfl)))) (fun _ h => h) tyX4 tyX4_ok nmX4 rfl hnm rfl (ty := .int) (by decide +kernel) rfl rfl dX6_init_6 (fun H locs hw => ?_)
  have oo := o_a0
  obtain ⟨f_1, ef_1⟩ : ∃ g : Nat → va_E, g = pU f0 a0 0 (.int (iI x1)) := ⟨_, rfl⟩
  have hX : Ex cy f0 f_1 := by rw [ef_1]; exact Ex_pU oo rfl rfl (by decide)
  have hg : GI cy M f_1 := by rw [ef_1]; exact hg.putI oo rfl ⟨lx1, ux1⟩ trivial
  rw [← ef_1] at hw
  have hO : ∀ x ∈ L0, x ≠ a0 → f_1 x = f0 x := fun x9 m9 h9 => Eq.trans (by rw [ef_1]; exact pU_ne h9) (hO x9 m9 h9)
  have hE := hE.trans hX
  have o_a0 := hX.1.1 _ _ o_a0
  have t_a0_1_f_1 : fI f_1 a0 1 = fI f0 a0 1 := by rw [ef_1]; exact fI_pU (Or.inr (by decide))
  have t_a0_2_f_1 : fI f_1 a0 2 = fI f0 a0 2 := by rw [ef_1]; exact fI_pU (Or.inr (by decide))
  have vf_1 : fI f_1 a0 0 = x1 := by rw [ef_1]; exact fI_pU_self oo rfl ⟨lx1, ux1⟩
  refine lv_aload_n hx hb dX6_init_9 rfl (lv_at hl 0 rfl) ?_
  refine lv_iload_n hx hb dX6_init_10 rfl (lv_at hl 2 rfl) ?_
  refine q_putFi (ci := 3) (C := RX4) (T := TX4) (N := 3) hx hb hts (fun w h => List.mem_cons_of_mem _ (mfX40 w h)) hown hK hw m_a0 o_a0 rfl 1 (by decide) (hts _ (List.mem_cons_of_mem _ (mr2 _ (List.mem_of_getElem? (i := 19) rfl)))) (fun _ h => h) tyX4 tyX4_ok nmX4 rfl hnm rfl (ty := .int) (by decide +kernel) rfl rfl dX6_init_11 (fun H locs hw => ?_)
  have oo := o_a0
  obtain ⟨f_2, ef_2⟩ : ∃ g : Nat → va_E, g = pU f_1 a0 1 (.int (iI x2)) := ⟨_, rfl⟩
  have hX : Ex cy f_1 f_2 := by rw [ef_2]; exact Ex_pU oo rfl rfl (by decide)
  have hg : GI cy M f_2 := by rw [ef_2]; exact hg.putI oo rfl ⟨lx2, ux2⟩ trivial
  rw [← ef_2] at hw
  have hO : ∀ x ∈ L0, x ≠ a0 → f_2 x = f0 x := fun x9 m9 h9 => Eq.trans (by rw [ef_2]; exact pU_ne h9) (hO x9 m9 h9)
  have hE := hE.trans hX
  have o_a0 := hX.1.1 _ _ o_a0
  have t_a0_0_f_2 : fI f_2 a0 0 = fI f_1 a0 0 := by rw [ef_2]; exact fI_pU (Or.inr (by decide))
  have t_a0_2_f_2 : fI f_2 a0 2 = fI f_1 a0 2 := by rw [ef_2]; exact fI_pU (Or.inr (by decide))
  have vf_2 : fI f_2 a0 1 = x2 := by rw [ef_2]; exact fI_pU_self oo rfl ⟨lx2, ux2⟩
  refine lv_aload_n hx hb dX6_init_14 rfl (lv_at hl 0 rfl) ?_
  refine lv_iload_n hx hb dX6_init_15 rfl (lv_at hl 3 rfl) ?_
  refine q_putFi (ci := 3) (C := RX4) (T := TX4) (N := 3) hx hb hts (fun w h => List.mem_cons_of_mem _ (mfX40 w h)) hown hK hw m_a0 o_a0 rfl 2 (by decide) (hts _ (List.mem_cons_of_mem _ (mr2 _ (List.mem_of_getElem? (i := 20) rfl)))) (fun _ h => h) tyX4 tyX4_ok nmX4 rfl hnm rfl (ty := .int) (by decide +kernel) rfl rfl dX6_init_16 (fun H locs hw => ?_)
  have oo := o_a0
  obtain ⟨f_3, ef_3⟩ : ∃ g : Nat → va_E, g = pU f_2 a0 2 (.int (iI x3)) := ⟨_, rfl⟩
  have hX : Ex cy f_2 f_3 := by rw [ef_3]; exact Ex_pU oo rfl rfl (by decide)
  have hg : GI cy M f_3 := by rw [ef_3]; exact hg.putI oo rfl ⟨lx3, ux3⟩ trivial
  rw [← ef_3] at hw
  have hO : ∀ x ∈ L0, x ≠ a0 → f_3 x = f0 x := fun x9 m9 h9 => Eq.trans (by rw [ef_3]; exact pU_ne h9) (hO x9 m9 h9)
  have hE := hE.trans hX
  have o_a0 := hX.1.1 _ _ o_a0
  have t_a0_0_f_3 : fI f_3 a0 0 = fI f_2 a0 0 := by rw [ef_3]; exact fI_pU (Or.inr (by decide))
  have t_a0_1_f_3 : fI f_3 a0 1 = fI f_2 a0 1 := by rw [ef_3]; exact fI_pU (Or.inr (by decide))
  have vf_3 : fI f_3 a0 2 = x3 := by rw [ef_3]; exact fI_pU_self oo rfl ⟨lx3, ux3⟩
  exact q_ret_v hx hb hr hlocks hK hAe hw (Nat.le_of_ble_eq_true rfl) (Nat.le_of_ble_eq_true rfl) dX6_init_19 (by exact ⟨rfl, hg, hE, hO, by first | trivial | omega⟩)
set_option maxHeartbeats 4000000 in
set_option maxRecDepth 100000 in
theorem c_X6_init_6p {Z : Zt} (zo : Zok Z) (l : Launch) (D : va_G) (cy : Cy) (L0 : List Nat) (f0 : Nat → va_E) (a0 : Nat) (x1 : Int) (lx1 : -2147483648 ≤ x1) (ux1 : x1 ≤ 2147483647) (x2 : Int) (lx2 : -2147483648 ≤ x2) (ux2 : x2 ≤ 2147483647) (x3 : Int) (lx3 : -2147483648 ≤ x3) (ux3 : x3 ≤ 2147483647) (m_a0 : a0 ∈ L0) (o_a0 : Ob f0 a0 6) (M : List Nat) (hM : ∀ x ∈ M, x ∈ L0) (hg : GI cy M f0) : Cv Z l yX6_init (Cond.code yX6_init cX6_init 4 none :: TB) ({ frames := 1, cells := 0, slots := 0, locals := 20 } : Room) 0 0 D (tq cy) [.ref a0, .int (iI x1), .int (iI x2), .int (iI x3)] L0 f0 (fun (L1 : List Nat) (f1 : Nat → va_E) => L0 = L1 ∧ GI cy M f1 ∧ Ex cy f0 f1 ∧ (∀ x ∈ L0, x ≠ a0 → f1 x = f0 x) ∧ (fI f1 a0 0 = x1 ∧ fI f1 a0 1 = x2 ∧ fI f1 a0 2 = x3)) := by
  refine Cv.enter (cc := cX6_init) (n := 4) rfl (plainFor_of_name (by decide)) (Nat.le_of_ble_eq_true rfl) ?_
  intro p e s m below meth c ls A hx hb hr hts hown hlocks hnm hml hK hA hAe hw hZ hl
  have hown : s.vm.findClass RX6 = some m.cls := hown
  have hl : lv_has ls 4 [(0, .ref a0), (1, .int (iI x1)), (2, .int (iI x2)), (3, .int (iI x3))] := hl
  have hN : ZN s := (zo.2.2.2.2 _ _ _ hZ).2
  have hO : ∀ x ∈ L0, x ≠ a0 → f0 x = f0 x := fun _ _ _ => rfl
  have hE : Ex cy f0 f0 := Ex.refl cy f0
  refine lv_aload_n hx hb dX6_init_0 rfl (lv_at hl 0 rfl) ?_
  refine W.objInit hx hb hown (hts _ (List.mem_cons_of_mem _ (mr2 _ (List.mem_of_getElem? (i := 17) rfl)))) (hts _ (List.mem_cons_of_mem _ (mr1 _ (List.mem_of_getElem? (i := 12) rfl)))) (hts _ (List.mem_cons_of_mem _ (mr1 _ (List.mem_of_getElem? (i := 13) rfl)))) rfl (by rw [hml]; exact hl.1) rfl dX6_init_1 (Nat.le_of_ble_eq_true rfl) (Nat.le_of_ble_eq_true rfl) ?_
  refine W.eq (g2 := F0 m 4 ls []) rfl ?_
  refine lv_aload_n hx hb dX6_init_4 rfl (lv_at hl 0 rfl) ?_
  refine lv_iload_n hx hb dX6_init_5 rfl (lv_at hl 1 rfl) ?_
  refine q_putFi (ci := 6) (C := RX8) (T := TX8) (N := 6) hx hb hts (fun w h => List.mem_cons_of_mem _ (mfX80 w h)) hown hK hw m_a0 o_a0 rfl 0 (by decide) (hts _ (List.mem_cons_of_mem _ (mr2 _ (List.mem_of_getElem? (i := 18) rfl)))) (fun _ h => h) tyX8 tyX8_ok nmX8 rfl hnm rfl (ty := .int) (by decide +kernel) rfl rfl dX6_init_6 (fun H locs hw => ?_)
  have oo := o_a0
  obtain ⟨f_1, ef_1⟩ : ∃ g : Nat → va_E, g = pU f0 a0 0 (.int (iI x1)) := ⟨_, rfl⟩
  have hX : Ex cy f0 f_1 := by rw [ef_1]; exact Ex_pU oo rfl rfl (by decide)
  have hg : GI cy M f_1 := by rw [ef_1]; exact hg.putI oo rfl ⟨lx1, ux1⟩ trivial
  rw [← ef_1] at hw
  have hO : ∀ x ∈ L0, x ≠ a0 → f_1 x = f0 x := fun x9 m9 h9 => Eq.trans (by rw [ef_1]; exact pU_ne h9) (hO x9 m9 h9)
  have hE := hE.trans hX
  have o_a0 := hX.1.1 _ _ o_a0
  have t_a0_1_f_1 : fI f_1 a0 1 = fI f0 a0 1 := by rw [ef_1]; exact fI_pU (Or.inr (by decide))
  have t_a0_2_f_1 : fI f_1 a0 2 = fI f0 a0 2 := by rw [ef_1]; exact fI_pU (Or.inr (by decide))
  have vf_1 : fI f_1 a0 0 = x1 := by rw [ef_1]; exact fI_pU_self oo rfl ⟨lx1, ux1⟩
  refine lv_aload_n hx hb dX6_init_9 rfl (lv_at hl 0 rfl) ?_
  refine lv_iload_n hx hb dX6_init_10 rfl (lv_at hl 2 rfl) ?_
  refine q_putFi (ci := 6) (C := RX8) (T := TX8) (N := 6) hx hb hts (fun w h => List.mem_cons_of_mem _ (mfX80 w h)) hown hK hw m_a0 o_a0 rfl 1 (by decide) (hts _ (List.mem_cons_of_mem _ (mr2 _ (List.mem_of_getElem? (i := 19) rfl)))) (fun _ h => h) tyX8 tyX8_ok nmX8 rfl hnm rfl (ty := .int) (by decide +kernel) rfl rfl dX6_init_11 (fun H locs hw => ?_)
  have oo := o_a0
  obtain ⟨f_2, ef_2⟩ : ∃ g : Nat → va_E, g = pU f_1 a0 1 (.int (iI x2)) := ⟨_, rfl⟩
  have hX : Ex cy f_1 f_2 := by rw [ef_2]; exact Ex_pU oo rfl rfl (by decide)
  have hg : GI cy M f_2 := by rw [ef_2]; exact hg.putI oo rfl ⟨lx2, ux2⟩ trivial
  rw [← ef_2] at hw
  have hO : ∀ x ∈ L0, x ≠ a0 → f_2 x = f0 x := fun x9 m9 h9 => Eq.trans (by rw [ef_2]; exact pU_ne h9) (hO x9 m9 h9)
  have hE := hE.trans hX
  have o_a0 := hX.1.1 _ _ o_a0
  have t_a0_0_f_2 : fI f_2 a0 0 = fI f_1 a0 0 := by rw [ef_2]; exact fI_pU (Or.inr (by decide))
  have t_a0_2_f_2 : fI f_2 a0 2 = fI f_1 a0 2 := by rw [ef_2]; exact fI_pU (Or.inr (by decide))
  have vf_2 : fI f_2 a0 1 = x2 := by rw [ef_2]; exact fI_pU_self oo rfl ⟨lx2, ux2⟩
  refine lv_aload_n hx hb dX6_init_14 rfl (lv_at hl 0 rfl) ?_
  refine lv_iload_n hx hb dX6_init_15 rfl (lv_at hl 3 rfl) ?_
  refine q_putFi (ci := 6) (C := RX8) (T := TX8) (N := 6) hx hb hts (fun w h => List.mem_cons_of_mem _ (mfX80 w h)) hown hK hw m_a0 o_a0 rfl 2 (by decide) (hts _ (List.mem_cons_of_mem _ (mr2 _ (List.mem_of_getElem? (i := 20) rfl)))) (fun _ h => h) tyX8 tyX8_ok nmX8 rfl hnm rfl (ty := .int) (by decide +kernel) rfl rfl dX6_init_16 (fun H locs hw => ?_)
  have oo := o_a0
  obtain ⟨f_3, ef_3⟩ : ∃ g : Nat → va_E, g = pU f_2 a0 2 (.int (iI x3)) := ⟨_, rfl⟩
  have hX : Ex cy f_2 f_3 := by rw [ef_3]; exact Ex_pU oo rfl rfl (by decide)
  have hg : GI cy M f_3 := by rw [ef_3]; exact hg.putI oo rfl ⟨lx3, ux3⟩ trivial
  rw [← ef_3] at hw
  have hO : ∀ x ∈ L0, x ≠ a0 → f_3 x = f0 x := fun x9 m9 h9 => Eq.trans (by rw [ef_3]; exact pU_ne h9) (hO x9 m9 h9)
  have hE := hE.trans hX
  have o_a0 := hX.1.1 _ _ o_a0
  have t_a0_0_f_3 : fI f_3 a0 0 = fI f_2 a0 0 := by rw [ef_3]; exact fI_pU (Or.inr (by decide))
  have t_a0_1_f_3 : fI f_3 a0 1 = fI f_2 a0 1 := by rw [ef_3]; exact fI_pU (Or.inr (by decide))
  have vf_3 : fI f_3 a0 2 = x3 := by rw [ef_3]; exact fI_pU_self oo rfl ⟨lx3, ux3⟩
  exact q_ret_v hx hb hr hlocks hK hAe hw (Nat.le_of_ble_eq_true rfl) (Nat.le_of_ble_eq_true rfl) dX6_init_19 (by exact ⟨rfl, hg, hE, hO, by first | trivial | omega⟩)
set_option maxHeartbeats 4000000 in
set_option maxRecDepth 100000 in
theorem c_X4_init_p {Z : Zt} (zo : Zok Z) (l : Launch) (D : va_G) (cy : Cy) (L0 : List Nat) (f0 : Nat → va_E) (a0 : Nat) (x1 : Int) (lx1 : -2147483648 ≤ x1) (ux1 : x1 ≤ 2147483647) (m_a0 : a0 ∈ L0) (o_a0 : Ob f0 a0 3) (M : List Nat) (hM : ∀ x ∈ M, x ∈ L0) (hg : GI cy M f0) : Cv Z l yX4_init (Cond.code yX4_init cX4_init 2 none :: TB) ({ frames := 2, cells := 0, slots := 0, locals := 43 } : Room) 0 0 D (tq cy) [.ref a0, .int (iI x1)] L0 f0 (fun (L1 : List Nat) (f1 : Nat → va_E) => L0 = L1 ∧ GI cy M f1 ∧ Ex cy f0 f1 ∧ (∀ x ∈ L0, x ≠ a0 → f1 x = f0 x) ∧ (fI f1 a0 0 = 0 ∧ fI f1 a0 1 = 0 ∧ fI f1 a0 2 = x1)) := by
  refine Cv.enter (cc := cX4_init) (n := 2) rfl (plainFor_of_name (by decide)) (Nat.le_of_ble_eq_true rfl) ?_
  intro p e s m below meth c ls A hx hb hr hts hown hlocks hnm hml hK hA hAe hw hZ hl
  have hown : s.vm.findClass RX4 = some m.cls := hown
  have hl : lv_has ls 2 [(0, .ref a0), (1, .int (iI x1))] := hl
  have hN : ZN s := (zo.2.2.2.2 _ _ _ hZ).2
  have hO : ∀ x ∈ L0, x ≠ a0 → f0 x = f0 x := fun _ _ _ => rfl
  have hE : Ex cy f0 f0 := Ex.refl cy f0
  refine lv_aload_n hx hb dX4_init_0 rfl (lv_at hl 0 rfl) ?_
  refine q_iconst hx hb dX4_init_1 ?_
  refine q_iconst hx hb dX4_init_2 ?_
  refine lv_iload_n hx hb dX4_init_3 rfl (lv_at hl 1 rfl) ?_
  refine q_call_v hA hK hw (va_runI (As := [.int (iI 0), .int (iI 0), .int (iI x1)]) (rest := []) ⟨hx, hb, hml, hown, hts⟩ (c_X6_init_3p zo l D cy L0 f0 a0 0 (by decide) (by decide) 0 (by decide) (by decide) x1 lx1 ux1 m_a0 o_a0 (M) hM hg _) (cwI 3 hts (gT (inC (mr2 _ (List.mem_of_getElem? (i := 16) rfl)))) rfl rfl rfl (hts _ (List.mem_cons_of_mem _ (mr2 _ (List.mem_of_getElem? (i := 15) rfl)))) (hts _ (List.mem_cons_of_mem _ (mr2 _ (List.mem_of_getElem? (i := 13) rfl)))) (hts _ (List.mem_cons_of_mem _ (mr2 _ (List.mem_of_getElem? (i := 14) rfl)))) rfl (by decide +kernel) ⟨Nat.le_of_ble_eq_true rfl, Nat.le_of_ble_eq_true rfl⟩) (Wd.preS zo hA hZ hw hK) rfl rfl hl.1 rfl (lv_room (Nat.le_of_ble_eq_true rfl)) dX4_init_4 ⟨Nat.le_of_ble_eq_true rfl, Nat.le_of_ble_eq_true rfl⟩) (fun L1 f_2 H locs ex_1 hw => ?_)
  obtain ⟨rfl, hg, hX, ex_1⟩ := ex_1
  have hE := hE.trans hX
  have o_a0 := hX.1.1 _ _ o_a0
  have hO : ∀ x ∈ L0, x ≠ a0 → f_2 x = f0 x := fun x9 m9 h9 => (ex_1.1 x9 m9 h9).trans (hO x9 m9 h9)
  have ex_1 := ex_1.2
  exact q_ret_v hx hb hr hlocks hK hAe hw (Nat.le_of_ble_eq_true rfl) (Nat.le_of_ble_eq_true rfl) dX4_init_7 (by exact ⟨rfl, hg, hE, hO, by first | trivial | omega⟩)
set_option maxHeartbeats 4000000 in
set_option maxRecDepth 100000 in
theorem c_X2_init_p {Z : Zt} (zo : Zok Z) (l : Launch) (D : va_G) (cy : Cy) (L0 : List Nat) (f0 : Nat → va_E) (a0 : Nat) (x1 : Int) (lx1 : -2147483648 ≤ x1) (ux1 : x1 ≤ 2147483647) (x2 : Int) (lx2 : -2147483648 ≤ x2) (ux2 : x2 ≤ 2147483647) (m_a0 : a0 ∈ L0) (o_a0 : Ob f0 a0 1) (M : List Nat) (hM : ∀ x ∈ M, x ∈ L0) (hg : GI cy M f0) (h0 : 1 ≤ x1) : Cv Z l yX2_init (Cond.code yX2_init cX2_init 3 none :: TB) ({ frames := 2, cells := 0, slots := 0, locals := 43 } : Room) 0 0 D (tq cy) [.ref a0, .int (iI x1), .int (iI x2)] L0 f0 (fun (L1 : List Nat) (f1 : Nat → va_E) => L0 = L1 ∧ GI cy M f1 ∧ Ex cy f0 f1 ∧ (∀ x ∈ L0, x ≠ a0 → f1 x = f0 x) ∧ (fI f1 a0 0 = 1 ∧ fI f1 a0 1 = x1 ∧ fI f1 a0 2 = x2 ∧ fI f1 a0 3 = x1)) := by
  refine Cv.enter (cc := cX2_init) (n := 3) rfl (plainFor_of_name (by decide)) (Nat.le_of_ble_eq_true rfl) ?_
  intro p e s m below meth c ls A hx hb hr hts hown hlocks hnm hml hK hA hAe hw hZ hl
  have hown : s.vm.findClass RX2 = some m.cls := hown
  have hl : lv_has ls 3 [(0, .ref a0), (1, .int (iI x1)), (2, .int (iI x2))] := hl
  have hN : ZN s := (zo.2.2.2.2 _ _ _ hZ).2
  have hO : ∀ x ∈ L0, x ≠ a0 → f0 x = f0 x := fun _ _ _ => rfl
  have hE : Ex cy f0 f0 := Ex.refl cy f0
  refine lv_aload_n hx hb dX2_init_0 rfl (lv_at hl 0 rfl) ?_
  refine q_iconst hx hb dX2_init_1 ?_
  refine lv_iload_n hx hb dX2_init_2 rfl (lv_at hl 1 rfl) ?_
  refine lv_iload_n hx hb dX2_init_3 rfl (lv_at hl 2 rfl) ?_
  refine q_call_v hA hK hw (va_runI (As := [.int (iI 1), .int (iI x1), .int (iI x2)]) (rest := []) ⟨hx, hb, hml, hown, hts⟩ (c_X6_init_1p zo l D cy L0 f0 a0 1 (by decide) (by decide) x1 lx1 ux1 x2 lx2 ux2 m_a0 o_a0 (M) hM hg _) (cwI 3 hts (gT (inC (mr2 _ (List.mem_of_getElem? (i := 16) rfl)))) rfl rfl rfl (hts _ (List.mem_cons_of_mem _ (mr2 _ (List.mem_of_getElem? (i := 15) rfl)))) (hts _ (List.mem_cons_of_mem _ (mr13 _ (List.mem_of_getElem? (i := 3) rfl)))) (hts _ (List.mem_cons_of_mem _ (mr2 _ (List.mem_of_getElem? (i := 14) rfl)))) rfl (by decide +kernel) ⟨Nat.le_of_ble_eq_true rfl, Nat.le_of_ble_eq_true rfl⟩) (Wd.preS zo hA hZ hw hK) rfl rfl hl.1 rfl (lv_room (Nat.le_of_ble_eq_true rfl)) dX2_init_4 ⟨Nat.le_of_ble_eq_true rfl, Nat.le_of_ble_eq_true rfl⟩) (fun L1 f_2 H locs ex_1 hw => ?_)
  obtain ⟨rfl, hg, hX, ex_1⟩ := ex_1
  have hE := hE.trans hX
  have o_a0 := hX.1.1 _ _ o_a0
  have hO : ∀ x ∈ L0, x ≠ a0 → f_2 x = f0 x := fun x9 m9 h9 => (ex_1.1 x9 m9 h9).trans (hO x9 m9 h9)
  have ex_1 := ex_1.2
  refine lv_aload_n hx hb dX2_init_7 rfl (lv_at hl 0 rfl) ?_
  refine lv_iload_n hx hb dX2_init_8 rfl (lv_at hl 1 rfl) ?_
  refine q_iconst hx hb dX2_init_9 ?_
  refine q_max hx hb (hml.trans hl.1.symm) hown (hts _ (List.mem_cons_of_mem _ (mr12 _ (List.mem_of_getElem? (i := 23) rfl)))) (hts _ (List.mem_cons_of_mem _ (mr13 _ (List.mem_of_getElem? (i := 0) rfl)))) (hts _ (List.mem_cons_of_mem _ (mr6 _ (List.mem_of_getElem? (i := 14) rfl)))) (hts _ (List.mem_cons_of_mem _ (mr13 _ (List.mem_of_getElem? (i := 1) rfl)))) (Nat.le_of_ble_eq_true rfl) (Nat.le_of_ble_eq_true rfl) (Nat.le_of_ble_eq_true rfl) (Nat.le_of_ble_eq_true rfl) ⟨lx1, ux1⟩ ⟨by decide, by decide⟩ dX2_init_10 (fun x_3 lx_3 ux_3 ex_3 => ?_)
  refine q_putFi (ci := 1) (C := RX2) (T := TX2) (N := 4) hx hb hts (fun w h => List.mem_cons_of_mem _ (mfX20 w h)) hown hK hw m_a0 o_a0 rfl 3 (by decide) (hts _ (List.mem_cons_of_mem _ (mr13 _ (List.mem_of_getElem? (i := 2) rfl)))) (fun _ h => h) tyX2 tyX2_ok nmX2 rfl hnm rfl (ty := .int) (by decide +kernel) rfl rfl dX2_init_13 (fun H locs hw => ?_)
  have oo := o_a0
  obtain ⟨f_4, ef_4⟩ : ∃ g : Nat → va_E, g = pU f_2 a0 3 (.int (iI x_3)) := ⟨_, rfl⟩
  have hX : Ex cy f_2 f_4 := by rw [ef_4]; exact Ex_pU oo rfl rfl (by decide)
  have hg : GI cy M f_4 := by rw [ef_4]; exact hg.putI oo rfl ⟨lx_3, ux_3⟩ (by show 1 ≤ x_3; omega)
  rw [← ef_4] at hw
  have hO : ∀ x ∈ L0, x ≠ a0 → f_4 x = f0 x := fun x9 m9 h9 => Eq.trans (by rw [ef_4]; exact pU_ne h9) (hO x9 m9 h9)
  have hE := hE.trans hX
  have o_a0 := hX.1.1 _ _ o_a0
  have t_a0_0_f_4 : fI f_4 a0 0 = fI f_2 a0 0 := by rw [ef_4]; exact fI_pU (Or.inr (by decide))
  have t_a0_1_f_4 : fI f_4 a0 1 = fI f_2 a0 1 := by rw [ef_4]; exact fI_pU (Or.inr (by decide))
  have t_a0_2_f_4 : fI f_4 a0 2 = fI f_2 a0 2 := by rw [ef_4]; exact fI_pU (Or.inr (by decide))
  have vf_4 : fI f_4 a0 3 = x_3 := by rw [ef_4]; exact fI_pU_self oo rfl ⟨lx_3, ux_3⟩
  exact q_ret_v hx hb hr hlocks hK hAe hw (Nat.le_of_ble_eq_true rfl) (Nat.le_of_ble_eq_true rfl) dX2_init_16 (by exact ⟨rfl, hg, hE, hO, by first | trivial | omega⟩)
set_option maxHeartbeats 4000000 in
set_option maxRecDepth 100000 in
theorem c_X8_init_p {Z : Zt} (zo : Zok Z) (l : Launch) (D : va_G) (cy : Cy) (L0 : List Nat) (f0 : Nat → va_E) (a0 : Nat) (x1 : Int) (lx1 : -2147483648 ≤ x1) (ux1 : x1 ≤ 2147483647) (x2 : Int) (lx2 : -2147483648 ≤ x2) (ux2 : x2 ≤ 2147483647) (x3 : Int) (lx3 : -2147483648 ≤ x3) (ux3 : x3 ≤ 2147483647) (m_a0 : a0 ∈ L0) (o_a0 : Ob f0 a0 6) (M : List Nat) (hM : ∀ x ∈ M, x ∈ L0) (hg : GI cy M f0) (h0 : 1 ≤ x1) (s0 : 0 ≤ x2) (s1 : x2 ≤ 36524) : Cv Z l yX8_init (Cond.code yX8_init cX8_init 4 none :: TB) ({ frames := 2, cells := 0, slots := 0, locals := 43 } : Room) 0 0 D (tq cy) [.ref a0, .int (iI x1), .int (iI x2), .int (iI x3)] L0 f0 (fun (L1 : List Nat) (f1 : Nat → va_E) => L0 = L1 ∧ GI cy M f1 ∧ Ex cy f0 f1 ∧ (∀ x ∈ L0, x ≠ a0 → f1 x = f0 x) ∧ (fI f1 a0 0 = 2 ∧ fI f1 a0 1 = x1 ∧ fI f1 a0 2 = x2 ∧ fI f1 a0 3 = x1 ∧ fI f1 a0 4 = x3 ∧ fI f1 a0 5 = x2 - wd x2)) := by
  refine Cv.enter (cc := cX8_init) (n := 4) rfl (plainFor_of_name (by decide)) (Nat.le_of_ble_eq_true rfl) ?_
  intro p e s m below meth c ls A hx hb hr hts hown hlocks hnm hml hK hA hAe hw hZ hl
  have hown : s.vm.findClass RX8 = some m.cls := hown
  have hl : lv_has ls 4 [(0, .ref a0), (1, .int (iI x1)), (2, .int (iI x2)), (3, .int (iI x3))] := hl
  have hN : ZN s := (zo.2.2.2.2 _ _ _ hZ).2
  have hO : ∀ x ∈ L0, x ≠ a0 → f0 x = f0 x := fun _ _ _ => rfl
  have hE : Ex cy f0 f0 := Ex.refl cy f0
  refine lv_aload_n hx hb dX8_init_0 rfl (lv_at hl 0 rfl) ?_
  refine q_iconst hx hb dX8_init_1 ?_
  refine lv_iload_n hx hb dX8_init_2 rfl (lv_at hl 1 rfl) ?_
  refine lv_iload_n hx hb dX8_init_3 rfl (lv_at hl 2 rfl) ?_
  refine q_call_v hA hK hw (va_runI (As := [.int (iI 2), .int (iI x1), .int (iI x2)]) (rest := []) ⟨hx, hb, hml, hown, hts⟩ (c_X6_init_6p zo l D cy L0 f0 a0 2 (by decide) (by decide) x1 lx1 ux1 x2 lx2 ux2 m_a0 o_a0 (M) hM hg _) (cwI 3 hts (gT (inC (mr2 _ (List.mem_of_getElem? (i := 16) rfl)))) rfl rfl rfl (hts _ (List.mem_cons_of_mem _ (mr2 _ (List.mem_of_getElem? (i := 15) rfl)))) (hts _ (List.mem_cons_of_mem _ (mr13 _ (List.mem_of_getElem? (i := 11) rfl)))) (hts _ (List.mem_cons_of_mem _ (mr2 _ (List.mem_of_getElem? (i := 14) rfl)))) rfl (by decide +kernel) ⟨Nat.le_of_ble_eq_true rfl, Nat.le_of_ble_eq_true rfl⟩) (Wd.preS zo hA hZ hw hK) rfl rfl hl.1 rfl (lv_room (Nat.le_of_ble_eq_true rfl)) dX8_init_4 ⟨Nat.le_of_ble_eq_true rfl, Nat.le_of_ble_eq_true rfl⟩) (fun L1 f_2 H locs ex_1 hw => ?_)
  obtain ⟨rfl, hg, hX, ex_1⟩ := ex_1
  have hE := hE.trans hX
  have o_a0 := hX.1.1 _ _ o_a0
  have hO : ∀ x ∈ L0, x ≠ a0 → f_2 x = f0 x := fun x9 m9 h9 => (ex_1.1 x9 m9 h9).trans (hO x9 m9 h9)
  have ex_1 := ex_1.2
  refine lv_aload_n hx hb dX8_init_7 rfl (lv_at hl 0 rfl) ?_
  refine lv_iload_n hx hb dX8_init_8 rfl (lv_at hl 1 rfl) ?_
  refine q_iconst hx hb dX8_init_9 ?_
  refine q_max hx hb (hml.trans hl.1.symm) hown (hts _ (List.mem_cons_of_mem _ (mr13 _ (List.mem_of_getElem? (i := 7) rfl)))) (hts _ (List.mem_cons_of_mem _ (mr13 _ (List.mem_of_getElem? (i := 0) rfl)))) (hts _ (List.mem_cons_of_mem _ (mr6 _ (List.mem_of_getElem? (i := 14) rfl)))) (hts _ (List.mem_cons_of_mem _ (mr13 _ (List.mem_of_getElem? (i := 1) rfl)))) (Nat.le_of_ble_eq_true rfl) (Nat.le_of_ble_eq_true rfl) (Nat.le_of_ble_eq_true rfl) (Nat.le_of_ble_eq_true rfl) ⟨lx1, ux1⟩ ⟨by decide, by decide⟩ dX8_init_10 (fun x_3 lx_3 ux_3 ex_3 => ?_)
  refine q_putFi (ci := 6) (C := RX8) (T := TX8) (N := 6) hx hb hts (fun w h => List.mem_cons_of_mem _ (mfX80 w h)) hown hK hw m_a0 o_a0 rfl 3 (by decide) (hts _ (List.mem_cons_of_mem _ (mr13 _ (List.mem_of_getElem? (i := 8) rfl)))) (fun _ h => h) tyX8 tyX8_ok nmX8 rfl hnm rfl (ty := .int) (by decide +kernel) rfl rfl dX8_init_13 (fun H locs hw => ?_)
  have oo := o_a0
  obtain ⟨f_4, ef_4⟩ : ∃ g : Nat → va_E, g = pU f_2 a0 3 (.int (iI x_3)) := ⟨_, rfl⟩
  have hX : Ex cy f_2 f_4 := by rw [ef_4]; exact Ex_pU oo rfl rfl (by decide)
  have hg : GI cy M f_4 := by rw [ef_4]; exact hg.putI oo rfl ⟨lx_3, ux_3⟩ (by show 1 ≤ x_3; omega)
  rw [← ef_4] at hw
  have hO : ∀ x ∈ L0, x ≠ a0 → f_4 x = f0 x := fun x9 m9 h9 => Eq.trans (by rw [ef_4]; exact pU_ne h9) (hO x9 m9 h9)
  have hE := hE.trans hX
  have o_a0 := hX.1.1 _ _ o_a0
  have t_a0_0_f_4 : fI f_4 a0 0 = fI f_2 a0 0 := by rw [ef_4]; exact fI_pU (Or.inr (by decide))
  have t_a0_1_f_4 : fI f_4 a0 1 = fI f_2 a0 1 := by rw [ef_4]; exact fI_pU (Or.inr (by decide))
  have t_a0_2_f_4 : fI f_4 a0 2 = fI f_2 a0 2 := by rw [ef_4]; exact fI_pU (Or.inr (by decide))
  have t_a0_4_f_4 : fI f_4 a0 4 = fI f_2 a0 4 := by rw [ef_4]; exact fI_pU (Or.inr (by decide))
  have t_a0_5_f_4 : fI f_4 a0 5 = fI f_2 a0 5 := by rw [ef_4]; exact fI_pU (Or.inr (by decide))
  have vf_4 : fI f_4 a0 3 = x_3 := by rw [ef_4]; exact fI_pU_self oo rfl ⟨lx_3, ux_3⟩
  refine lv_aload_n hx hb dX8_init_16 rfl (lv_at hl 0 rfl) ?_
  refine lv_iload_n hx hb dX8_init_17 rfl (lv_at hl 3 rfl) ?_
  refine q_putFi (ci := 6) (C := RX8) (T := TX8) (N := 6) hx hb hts (fun w h => List.mem_cons_of_mem _ (mfX80 w h)) hown hK hw m_a0 o_a0 rfl 4 (by decide) (hts _ (List.mem_cons_of_mem _ (mr13 _ (List.mem_of_getElem? (i := 9) rfl)))) (fun _ h => h) tyX8 tyX8_ok nmX8 rfl hnm rfl (ty := .int) (by decide +kernel) rfl rfl dX8_init_18 (fun H locs hw => ?_)
  have oo := o_a0
  obtain ⟨f_5, ef_5⟩ : ∃ g : Nat → va_E, g = pU f_4 a0 4 (.int (iI x3)) := ⟨_, rfl⟩
  have hX : Ex cy f_4 f_5 := by rw [ef_5]; exact Ex_pU oo rfl rfl (by decide)
  have hg : GI cy M f_5 := by rw [ef_5]; exact hg.putI oo rfl ⟨lx3, ux3⟩ trivial
  rw [← ef_5] at hw
  have hO : ∀ x ∈ L0, x ≠ a0 → f_5 x = f0 x := fun x9 m9 h9 => Eq.trans (by rw [ef_5]; exact pU_ne h9) (hO x9 m9 h9)
  have hE := hE.trans hX
  have o_a0 := hX.1.1 _ _ o_a0
  have t_a0_0_f_5 : fI f_5 a0 0 = fI f_4 a0 0 := by rw [ef_5]; exact fI_pU (Or.inr (by decide))
  have t_a0_1_f_5 : fI f_5 a0 1 = fI f_4 a0 1 := by rw [ef_5]; exact fI_pU (Or.inr (by decide))
  have t_a0_2_f_5 : fI f_5 a0 2 = fI f_4 a0 2 := by rw [ef_5]; exact fI_pU (Or.inr (by decide))
  have t_a0_3_f_5 : fI f_5 a0 3 = fI f_4 a0 3 := by rw [ef_5]; exact fI_pU (Or.inr (by decide))
  have t_a0_5_f_5 : fI f_5 a0 5 = fI f_4 a0 5 := by rw [ef_5]; exact fI_pU (Or.inr (by decide))
  have vf_5 : fI f_5 a0 4 = x3 := by rw [ef_5]; exact fI_pU_self oo rfl ⟨lx3, ux3⟩
  refine lv_aload_n hx hb dX8_init_21 rfl (lv_at hl 0 rfl) ?_
  refine lv_iload_n hx hb dX8_init_22 rfl (lv_at hl 2 rfl) ?_
  refine lv_iload_n hx hb dX8_init_23 rfl (lv_at hl 2 rfl) ?_
  refine q_call_i hA hK hw (va_runSN (As := [.int (iI x2)]) (rest := [.int (iI x2), .ref a0]) ⟨hx, hb, hml, hown, hts⟩ (c_X1_weekdayOf zo l D cy L0 f_5 x2 lx2 ux2 _) ⟨va_cnB 1 hts (gT (inC (mr13 _ (List.mem_of_getElem? (i := 13) rfl)))) rfl rfl rfl (hN _ (List.mem_of_getElem? (i := 4) rfl)) (hts _ (List.mem_cons_of_mem _ (mr11 _ (List.mem_of_getElem? (i := 20) rfl)))) (by decide +kernel) ⟨Nat.le_of_ble_eq_true rfl, Nat.le_of_ble_eq_true rfl⟩, (hts _ (List.mem_cons_of_mem _ (mr13 _ (List.mem_of_getElem? (i := 12) rfl)))), trivial⟩ (Wd.preS zo hA hZ hw hK) rfl rfl hl.1 rfl (lv_room (Nat.le_of_ble_eq_true rfl)) dX8_init_24 ⟨Nat.le_of_ble_eq_true rfl, Nat.le_of_ble_eq_true rfl⟩) (fun x_6 L1 f1 H locs lx_6 ux_6 ex_6 hw => ?_)
  obtain ⟨rfl, rfl, ex_6⟩ := ex_6
  have s24 : x_6 = wd x2 := ex_6.2.2 ⟨by omega, by omega⟩
  have w24 : 0 ≤ wd x2 ∧ wd x2 ≤ 6 := by unfold wd; omega
  clear ex_6
  first | refine q_isub hx hb dX8_init_27 ⟨by omega, by omega⟩ (fun x_7 lx_7 ux_7 ex_7 => ?_) | refine q_isubw hx hb dX8_init_27 (fun x_7 lx_7 ux_7 _ => ?_)
  refine q_putFi (ci := 6) (C := RX8) (T := TX8) (N := 6) hx hb hts (fun w h => List.mem_cons_of_mem _ (mfX80 w h)) hown hK hw m_a0 o_a0 rfl 5 (by decide) (hts _ (List.mem_cons_of_mem _ (mr13 _ (List.mem_of_getElem? (i := 10) rfl)))) (fun _ h => h) tyX8 tyX8_ok nmX8 rfl hnm rfl (ty := .int) (by decide +kernel) rfl rfl dX8_init_28 (fun H locs hw => ?_)
  have oo := o_a0
  obtain ⟨f_8, ef_8⟩ : ∃ g : Nat → va_E, g = pU f_5 a0 5 (.int (iI x_7)) := ⟨_, rfl⟩
  have hX : Ex cy f_5 f_8 := by rw [ef_8]; exact Ex_pU oo rfl rfl (by decide)
  have hg : GI cy M f_8 := by rw [ef_8]; exact hg.putI oo rfl ⟨lx_7, ux_7⟩ trivial
  rw [← ef_8] at hw
  have hO : ∀ x ∈ L0, x ≠ a0 → f_8 x = f0 x := fun x9 m9 h9 => Eq.trans (by rw [ef_8]; exact pU_ne h9) (hO x9 m9 h9)
  have hE := hE.trans hX
  have o_a0 := hX.1.1 _ _ o_a0
  have t_a0_0_f_8 : fI f_8 a0 0 = fI f_5 a0 0 := by rw [ef_8]; exact fI_pU (Or.inr (by decide))
  have t_a0_1_f_8 : fI f_8 a0 1 = fI f_5 a0 1 := by rw [ef_8]; exact fI_pU (Or.inr (by decide))
  have t_a0_2_f_8 : fI f_8 a0 2 = fI f_5 a0 2 := by rw [ef_8]; exact fI_pU (Or.inr (by decide))
  have t_a0_3_f_8 : fI f_8 a0 3 = fI f_5 a0 3 := by rw [ef_8]; exact fI_pU (Or.inr (by decide))
  have t_a0_4_f_8 : fI f_8 a0 4 = fI f_5 a0 4 := by rw [ef_8]; exact fI_pU (Or.inr (by decide))
  have vf_8 : fI f_8 a0 5 = x_7 := by rw [ef_8]; exact fI_pU_self oo rfl ⟨lx_7, ux_7⟩
  exact q_ret_v hx hb hr hlocks hK hAe hw (Nat.le_of_ble_eq_true rfl) (Nat.le_of_ble_eq_true rfl) dX8_init_31 (by exact ⟨rfl, hg, hE, hO, by first | trivial | omega⟩)
set_option maxHeartbeats 4000000 in
set_option maxRecDepth 100000 in
theorem c_X3_init_p {Z : Zt} (zo : Zok Z) (l : Launch) (D : va_G) (cy : Cy) (L0 : List Nat) (f0 : Nat → va_E) (a0 : Nat) (x1 : Int) (lx1 : -2147483648 ≤ x1) (ux1 : x1 ≤ 2147483647) (x2 : Int) (lx2 : -2147483648 ≤ x2) (ux2 : x2 ≤ 2147483647) (x3 : Int) (lx3 : -2147483648 ≤ x3) (ux3 : x3 ≤ 2147483647) (x4 : Int) (lx4 : -2147483648 ≤ x4) (ux4 : x4 ≤ 2147483647) (x5 : Int) (lx5 : -2147483648 ≤ x5) (ux5 : x5 ≤ 2147483647) (m_a0 : a0 ∈ L0) (o_a0 : Ob f0 a0 2) (M : List Nat) (hM : ∀ x ∈ M, x ∈ L0) (hg : GI cy M f0) (k3 : 3 ≤ x1) (k7 : x1 ≤ 7) (h0 : 1 ≤ x2) (h1 : x2 ≤ 999) (s0 : 0 ≤ x3) (s1 : x3 ≤ 36524) : Cv Z l yX3_init (Cond.code yX3_init cX3_init 6 none :: TB) ({ frames := 2, cells := 0, slots := 0, locals := 43 } : Room) 0 0 D (tq cy) [.ref a0, .int (iI x1), .int (iI x2), .int (iI x3), .int (iI x4), .int (iI x5)] L0 f0 (fun (L1 : List Nat) (f1 : Nat → va_E) => L0 = L1 ∧ GI cy M f1 ∧ Ex cy f0 f1 ∧ (∀ x ∈ L0, x ≠ a0 → f1 x = f0 x) ∧ (fI f1 a0 0 = x1 ∧ fI f1 a0 1 = x2 ∧ fI f1 a0 2 = x3 ∧ fI f1 a0 3 = stC x1 x2 ∧ fI f1 a0 4 = mo x3 ∧ fI f1 a0 5 = nvq x1 x3 x4 ∧ fI f1 a0 6 = x5)) := by
  refine Cv.enter (cc := cX3_init) (n := 6) rfl (plainFor_of_name (by decide)) (Nat.le_of_ble_eq_true rfl) ?_
  intro p e s m below meth c ls A hx hb hr hts hown hlocks hnm hml hK hA hAe hw hZ hl
  have hown : s.vm.findClass RX3 = some m.cls := hown
  have hl : lv_has ls 6 [(0, .ref a0), (1, .int (iI x1)), (2, .int (iI x2)), (3, .int (iI x3)), (4, .int (iI x4)), (5, .int (iI x5))] := hl
  have hN : ZN s := (zo.2.2.2.2 _ _ _ hZ).2
  have hO : ∀ x ∈ L0, x ≠ a0 → f0 x = f0 x := fun _ _ _ => rfl
  have hE : Ex cy f0 f0 := Ex.refl cy f0
  have sb := stC_b (k := x1) h0 h1
  have mb := mo_b s0 s1
  refine lv_aload_n hx hb dX3_init_0 rfl (lv_at hl 0 rfl) ?_
  refine lv_iload_n hx hb dX3_init_1 rfl (lv_at hl 1 rfl) ?_
  refine lv_iload_n hx hb dX3_init_2 rfl (lv_at hl 2 rfl) ?_
  refine lv_iload_n hx hb dX3_init_3 rfl (lv_at hl 3 rfl) ?_
  refine q_call_v hA hK hw (va_runI (As := [.int (iI x1), .int (iI x2), .int (iI x3)]) (rest := []) ⟨hx, hb, hml, hown, hts⟩ (c_X6_init_2p zo l D cy L0 f0 a0 x1 lx1 ux1 x2 lx2 ux2 x3 lx3 ux3 m_a0 o_a0 (M) hM hg _) (cwI 3 hts (gT (inC (mr2 _ (List.mem_of_getElem? (i := 16) rfl)))) rfl rfl rfl (hts _ (List.mem_cons_of_mem _ (mr2 _ (List.mem_of_getElem? (i := 15) rfl)))) (hts _ (List.mem_cons_of_mem _ (mr13 _ (List.mem_of_getElem? (i := 22) rfl)))) (hts _ (List.mem_cons_of_mem _ (mr2 _ (List.mem_of_getElem? (i := 14) rfl)))) rfl (by decide +kernel) ⟨Nat.le_of_ble_eq_true rfl, Nat.le_of_ble_eq_true rfl⟩) (Wd.preS zo hA hZ hw hK) rfl rfl hl.1 rfl (lv_room (Nat.le_of_ble_eq_true rfl)) dX3_init_4 ⟨Nat.le_of_ble_eq_true rfl, Nat.le_of_ble_eq_true rfl⟩) (fun L1 f_2 H locs ex_1 hw => ?_)
  obtain ⟨rfl, hg, hX, ex_1⟩ := ex_1
  have hE := hE.trans hX
  have o_a0 := hX.1.1 _ _ o_a0
  have hO : ∀ x ∈ L0, x ≠ a0 → f_2 x = f0 x := fun x9 m9 h9 => (ex_1.1 x9 m9 h9).trans (hO x9 m9 h9)
  have ex_1 := ex_1.2
  refine lv_aload_n hx hb dX3_init_7 rfl (lv_at hl 0 rfl) ?_
  refine lv_iload_n hx hb dX3_init_8 rfl (lv_at hl 1 rfl) ?_
  refine q_bipush hx hb dX3_init_9 rfl ?_
  have J22 : ∀ (w0_22 : Int) (lw0_22 : -2147483648 ≤ w0_22) (uw0_22 : w0_22 ≤ 2147483647) (i1 : w0_22 = stC x1 x2) (H : Heap) (locs : List Loc) (ls : Array Slot) (hw : Wd D A s.heap L0 f_2 H locs) (hl : lv_has ls 6 [(0, .ref a0), (1, .int (iI x1)), (3, .int (iI x3)), (4, .int (iI x4)), (5, .int (iI x5))]), W p l e ({ frames := 2, cells := 0, slots := 0, locals := 43 } : Room) s m ([.ref a0, .int (iI x1), .int (iI x2), .int (iI x3), .int (iI x4), .int (iI x5)] : List Value).toArray below meth c H locs (0 + 0) (0 + 0) (MQ below (Qv D (tq cy) L0 f0 s.heap.size (fun (L1 : List Nat) (f1 : Nat → va_E) => L0 = L1 ∧ GI cy M f1 ∧ Ex cy f0 f1 ∧ (∀ x ∈ L0, x ≠ a0 → f1 x = f0 x) ∧ (fI f1 a0 0 = x1 ∧ fI f1 a0 1 = x2 ∧ fI f1 a0 2 = x3 ∧ fI f1 a0 3 = stC x1 x2 ∧ fI f1 a0 4 = mo x3 ∧ fI f1 a0 5 = nvq x1 x3 x4 ∧ fI f1 a0 6 = x5))) ([.ref a0, .int (iI x1), .int (iI x2), .int (iI x3), .int (iI x4), .int (iI x5)] : List Value).toArray s 0 0 A) (F0 m 22 ls [.int (iI w0_22), .ref a0]) := by
    intro w0_22 lw0_22 uw0_22 i1 H locs ls hw hl
    refine q_iconst hx hb dX3_init_22 ?_
    refine q_max hx hb (hml.trans hl.1.symm) hown (hts _ (List.mem_cons_of_mem _ (mr13 _ (List.mem_of_getElem? (i := 17) rfl)))) (hts _ (List.mem_cons_of_mem _ (mr13 _ (List.mem_of_getElem? (i := 0) rfl)))) (hts _ (List.mem_cons_of_mem _ (mr6 _ (List.mem_of_getElem? (i := 14) rfl)))) (hts _ (List.mem_cons_of_mem _ (mr13 _ (List.mem_of_getElem? (i := 1) rfl)))) (Nat.le_of_ble_eq_true rfl) (Nat.le_of_ble_eq_true rfl) (Nat.le_of_ble_eq_true rfl) (Nat.le_of_ble_eq_true rfl) ⟨lw0_22, uw0_22⟩ ⟨by decide, by decide⟩ dX3_init_23 (fun x_3 lx_3 ux_3 ex_3 => ?_)
    refine q_putFi (ci := 2) (C := RX3) (T := TX3) (N := 7) hx hb hts (fun w h => List.mem_cons_of_mem _ (mfX30 w h)) hown hK hw m_a0 o_a0 rfl 3 (by decide) (hts _ (List.mem_cons_of_mem _ (mr13 _ (List.mem_of_getElem? (i := 18) rfl)))) (fun _ h => h) tyX3 tyX3_ok nmX3 rfl hnm rfl (ty := .int) (by decide +kernel) rfl rfl dX3_init_26 (fun H locs hw => ?_)
    have oo := o_a0
    obtain ⟨f_4, ef_4⟩ : ∃ g : Nat → va_E, g = pU f_2 a0 3 (.int (iI x_3)) := ⟨_, rfl⟩
    have hX : Ex cy f_2 f_4 := by rw [ef_4]; exact Ex_pU oo rfl rfl (by decide)
    have hg : GI cy M f_4 := by rw [ef_4]; exact hg.putI oo rfl ⟨lx_3, ux_3⟩ (by show 1 ≤ x_3 ∧ x_3 ≤ 12000; omega)
    rw [← ef_4] at hw
    have hO : ∀ x ∈ L0, x ≠ a0 → f_4 x = f0 x := fun x9 m9 h9 => Eq.trans (by rw [ef_4]; exact pU_ne h9) (hO x9 m9 h9)
    have hE := hE.trans hX
    have o_a0 := hX.1.1 _ _ o_a0
    have t_a0_0_f_4 : fI f_4 a0 0 = fI f_2 a0 0 := by rw [ef_4]; exact fI_pU (Or.inr (by decide))
    have t_a0_1_f_4 : fI f_4 a0 1 = fI f_2 a0 1 := by rw [ef_4]; exact fI_pU (Or.inr (by decide))
    have t_a0_2_f_4 : fI f_4 a0 2 = fI f_2 a0 2 := by rw [ef_4]; exact fI_pU (Or.inr (by decide))
    have t_a0_4_f_4 : fI f_4 a0 4 = fI f_2 a0 4 := by rw [ef_4]; exact fI_pU (Or.inr (by decide))
    have t_a0_5_f_4 : fI f_4 a0 5 = fI f_2 a0 5 := by rw [ef_4]; exact fI_pU (Or.inr (by decide))
    have t_a0_6_f_4 : fI f_4 a0 6 = fI f_2 a0 6 := by rw [ef_4]; exact fI_pU (Or.inr (by decide))
    have vf_4 : fI f_4 a0 3 = x_3 := by rw [ef_4]; exact fI_pU_self oo rfl ⟨lx_3, ux_3⟩
    refine lv_aload_n hx hb dX3_init_29 rfl (lv_at hl 0 rfl) ?_
    refine lv_iload_n hx hb dX3_init_30 rfl (lv_at hl 2 rfl) ?_
    refine q_call_i hA hK hw (va_runSN (As := [.int (iI x3)]) (rest := [.ref a0]) ⟨hx, hb, hml, hown, hts⟩ (c_X1_monthOf_m zo l D cy L0 f_4 x3 lx3 ux3 _) ⟨va_cnB 1 hts (gT (inC (mr14 _ (List.mem_of_getElem? (i := 0) rfl)))) rfl rfl rfl (hN _ (List.mem_of_getElem? (i := 5) rfl)) (hts _ (List.mem_cons_of_mem _ (mr11 _ (List.mem_of_getElem? (i := 20) rfl)))) (by decide +kernel) ⟨Nat.le_of_ble_eq_true rfl, Nat.le_of_ble_eq_true rfl⟩, (hts _ (List.mem_cons_of_mem _ (mr13 _ (List.mem_of_getElem? (i := 23) rfl)))), trivial⟩ (Wd.preS zo hA hZ hw hK) rfl rfl hl.1 rfl (lv_room (Nat.le_of_ble_eq_true rfl)) dX3_init_31 ⟨Nat.le_of_ble_eq_true rfl, Nat.le_of_ble_eq_true rfl⟩) (fun x_5 L1 f1 H locs lx_5 ux_5 ex_5 hw => ?_)
    obtain ⟨rfl, rfl, ex_5⟩ := ex_5
    have s31 : x_5 = mo x3 := ex_5.2.2 (by omega)
    clear ex_5
    refine q_putFi (ci := 2) (C := RX3) (T := TX3) (N := 7) hx hb hts (fun w h => List.mem_cons_of_mem _ (mfX30 w h)) hown hK hw m_a0 o_a0 rfl 4 (by decide) (hts _ (List.mem_cons_of_mem _ (mr13 _ (List.mem_of_getElem? (i := 19) rfl)))) (fun _ h => h) tyX3 tyX3_ok nmX3 rfl hnm rfl (ty := .int) (by decide +kernel) rfl rfl dX3_init_34 (fun H locs hw => ?_)
    have oo := o_a0
    obtain ⟨f_6, ef_6⟩ : ∃ g : Nat → va_E, g = pU f_4 a0 4 (.int (iI x_5)) := ⟨_, rfl⟩
    have hX : Ex cy f_4 f_6 := by rw [ef_6]; exact Ex_pU oo rfl rfl (by decide)
    have hg : GI cy M f_6 := by rw [ef_6]; exact hg.putI oo rfl ⟨lx_5, ux_5⟩ (by show 0 ≤ x_5 ∧ x_5 ≤ 100000000; omega)
    rw [← ef_6] at hw
    have hO : ∀ x ∈ L0, x ≠ a0 → f_6 x = f0 x := fun x9 m9 h9 => Eq.trans (by rw [ef_6]; exact pU_ne h9) (hO x9 m9 h9)
    have hE := hE.trans hX
    have o_a0 := hX.1.1 _ _ o_a0
    have t_a0_0_f_6 : fI f_6 a0 0 = fI f_4 a0 0 := by rw [ef_6]; exact fI_pU (Or.inr (by decide))
    have t_a0_1_f_6 : fI f_6 a0 1 = fI f_4 a0 1 := by rw [ef_6]; exact fI_pU (Or.inr (by decide))
    have t_a0_2_f_6 : fI f_6 a0 2 = fI f_4 a0 2 := by rw [ef_6]; exact fI_pU (Or.inr (by decide))
    have t_a0_3_f_6 : fI f_6 a0 3 = fI f_4 a0 3 := by rw [ef_6]; exact fI_pU (Or.inr (by decide))
    have t_a0_5_f_6 : fI f_6 a0 5 = fI f_4 a0 5 := by rw [ef_6]; exact fI_pU (Or.inr (by decide))
    have t_a0_6_f_6 : fI f_6 a0 6 = fI f_4 a0 6 := by rw [ef_6]; exact fI_pU (Or.inr (by decide))
    have vf_6 : fI f_6 a0 4 = x_5 := by rw [ef_6]; exact fI_pU_self oo rfl ⟨lx_5, ux_5⟩
    refine lv_aload_n hx hb dX3_init_37 rfl (lv_at hl 0 rfl) ?_
    refine lv_iload_n hx hb dX3_init_38 rfl (lv_at hl 1 rfl) ?_
    refine q_bipush hx hb dX3_init_39 rfl ?_
    refine q_icmp_ne (tgt := 58) hx hb dX3_init_41 (by decide) ⟨lx1, ux1⟩ ⟨by decide, by decide⟩ (fun c41 => ?_) (fun c41 => ?_)
    · refine lv_iload hx hb dX3_init_58 (lv_at hl 3 rfl) ?_
      refine q_putFi (ci := 2) (C := RX3) (T := TX3) (N := 7) hx hb hts (fun w h => List.mem_cons_of_mem _ (mfX30 w h)) hown hK hw m_a0 o_a0 rfl 5 (by decide) (hts _ (List.mem_cons_of_mem _ (mr13 _ (List.mem_of_getElem? (i := 20) rfl)))) (fun _ h => h) tyX3 tyX3_ok nmX3 rfl hnm rfl (ty := .int) (by decide +kernel) rfl rfl dX3_init_60 (fun H locs hw => ?_)
      have oo := o_a0
      obtain ⟨f_7, ef_7⟩ : ∃ g : Nat → va_E, g = pU f_6 a0 5 (.int (iI x4)) := ⟨_, rfl⟩
      have hX : Ex cy f_6 f_7 := by rw [ef_7]; exact Ex_pU oo rfl rfl (by decide)
      have hg : GI cy M f_7 := by rw [ef_7]; exact hg.putI oo rfl ⟨lx4, ux4⟩ trivial
      rw [← ef_7] at hw
      have hO : ∀ x ∈ L0, x ≠ a0 → f_7 x = f0 x := fun x9 m9 h9 => Eq.trans (by rw [ef_7]; exact pU_ne h9) (hO x9 m9 h9)
      have hE := hE.trans hX
      have o_a0 := hX.1.1 _ _ o_a0
      have t_a0_0_f_7 : fI f_7 a0 0 = fI f_6 a0 0 := by rw [ef_7]; exact fI_pU (Or.inr (by decide))
      have t_a0_1_f_7 : fI f_7 a0 1 = fI f_6 a0 1 := by rw [ef_7]; exact fI_pU (Or.inr (by decide))
      have t_a0_2_f_7 : fI f_7 a0 2 = fI f_6 a0 2 := by rw [ef_7]; exact fI_pU (Or.inr (by decide))
      have t_a0_3_f_7 : fI f_7 a0 3 = fI f_6 a0 3 := by rw [ef_7]; exact fI_pU (Or.inr (by decide))
      have t_a0_4_f_7 : fI f_7 a0 4 = fI f_6 a0 4 := by rw [ef_7]; exact fI_pU (Or.inr (by decide))
      have t_a0_6_f_7 : fI f_7 a0 6 = fI f_6 a0 6 := by rw [ef_7]; exact fI_pU (Or.inr (by decide))
      have vf_7 : fI f_7 a0 5 = x4 := by rw [ef_7]; exact fI_pU_self oo rfl ⟨lx4, ux4⟩
      refine lv_aload_n hx hb dX3_init_63 rfl (lv_at hl 0 rfl) ?_
      refine lv_iload hx hb dX3_init_64 (lv_at hl 4 rfl) ?_
      refine q_putFi (ci := 2) (C := RX3) (T := TX3) (N := 7) hx hb hts (fun w h => List.mem_cons_of_mem _ (mfX30 w h)) hown hK hw m_a0 o_a0 rfl 6 (by decide) (hts _ (List.mem_cons_of_mem _ (mr13 _ (List.mem_of_getElem? (i := 21) rfl)))) (fun _ h => h) tyX3 tyX3_ok nmX3 rfl hnm rfl (ty := .int) (by decide +kernel) rfl rfl dX3_init_66 (fun H locs hw => ?_)
      have oo := o_a0
      obtain ⟨f_8, ef_8⟩ : ∃ g : Nat → va_E, g = pU f_7 a0 6 (.int (iI x5)) := ⟨_, rfl⟩
      have hX : Ex cy f_7 f_8 := by rw [ef_8]; exact Ex_pU oo rfl rfl (by decide)
      have hg : GI cy M f_8 := by rw [ef_8]; exact hg.putI oo rfl ⟨lx5, ux5⟩ trivial
      rw [← ef_8] at hw
      have hO : ∀ x ∈ L0, x ≠ a0 → f_8 x = f0 x := fun x9 m9 h9 => Eq.trans (by rw [ef_8]; exact pU_ne h9) (hO x9 m9 h9)
      have hE := hE.trans hX
      have o_a0 := hX.1.1 _ _ o_a0
      have t_a0_0_f_8 : fI f_8 a0 0 = fI f_7 a0 0 := by rw [ef_8]; exact fI_pU (Or.inr (by decide))
      have t_a0_1_f_8 : fI f_8 a0 1 = fI f_7 a0 1 := by rw [ef_8]; exact fI_pU (Or.inr (by decide))
      have t_a0_2_f_8 : fI f_8 a0 2 = fI f_7 a0 2 := by rw [ef_8]; exact fI_pU (Or.inr (by decide))
      have t_a0_3_f_8 : fI f_8 a0 3 = fI f_7 a0 3 := by rw [ef_8]; exact fI_pU (Or.inr (by decide))
      have t_a0_4_f_8 : fI f_8 a0 4 = fI f_7 a0 4 := by rw [ef_8]; exact fI_pU (Or.inr (by decide))
      have t_a0_5_f_8 : fI f_8 a0 5 = fI f_7 a0 5 := by rw [ef_8]; exact fI_pU (Or.inr (by decide))
      have vf_8 : fI f_8 a0 6 = x5 := by rw [ef_8]; exact fI_pU_self oo rfl ⟨lx5, ux5⟩
      exact q_ret_v hx hb hr hlocks hK hAe hw (Nat.le_of_ble_eq_true rfl) (Nat.le_of_ble_eq_true rfl) dX3_init_69 (by exact ⟨rfl, hg, hE, hO, by omega, by omega, by omega, by omega, by omega, by unfold nvq; split <;> omega, by omega⟩)
    · refine lv_iload_n hx hb dX3_init_44 rfl (lv_at hl 2 rfl) ?_
      refine lv_aload_n hx hb dX3_init_45 rfl (lv_at hl 0 rfl) ?_
      refine q_geti (ci := 2) (C := RX3) (T := TX3) (N := 7) hx hb hts (fun w h => List.mem_cons_of_mem _ (mfX30 w h)) hown hK hw m_a0 o_a0 rfl 4 (by decide) (hts _ (List.mem_cons_of_mem _ (mr13 _ (List.mem_of_getElem? (i := 19) rfl)))) (fun _ h => h) rfl dX3_init_46 (fun x_9 lx_9 ux_9 ex_9 => ?_)
      refine q_call_i hA hK hw (va_runSN (As := [.int (iI x_9)]) (rest := [.int (iI x3), .ref a0]) ⟨hx, hb, hml, hown, hts⟩ (c_X1_monthStart zo l D cy L0 f_6 x_9 lx_9 ux_9 _) ⟨va_cnB 1 hts (gT (inC (mr12 _ (List.mem_of_getElem? (i := 3) rfl)))) rfl rfl rfl (hN _ (List.mem_of_getElem? (i := 6) rfl)) (hts _ (List.mem_cons_of_mem _ (mr11 _ (List.mem_of_getElem? (i := 20) rfl)))) (by decide +kernel) ⟨Nat.le_of_ble_eq_true rfl, Nat.le_of_ble_eq_true rfl⟩, (hts _ (List.mem_cons_of_mem _ (mr12 _ (List.mem_of_getElem? (i := 2) rfl)))), trivial⟩ (Wd.preS zo hA hZ hw hK) rfl rfl hl.1 rfl (lv_room (Nat.le_of_ble_eq_true rfl)) dX3_init_49 ⟨Nat.le_of_ble_eq_true rfl, Nat.le_of_ble_eq_true rfl⟩) (fun x_10 L1 f1 H locs lx_10 ux_10 ex_10 hw => ?_)
      obtain ⟨rfl, rfl, ex_10⟩ := ex_10
      have s49 : x_10 = cyS (mo x3) := (ex_10.2 ⟨by omega, by omega⟩).trans (show cyS x_9 = _ by rw [show x_9 = mo x3 by omega])
      clear ex_10
      first | refine q_isub hx hb dX3_init_52 ⟨by omega, by omega⟩ (fun x_11 lx_11 ux_11 ex_11 => ?_) | refine q_isubw hx hb dX3_init_52 (fun x_11 lx_11 ux_11 _ => ?_)
      refine q_iconst hx hb dX3_init_53 ?_
      first | refine q_iadd hx hb dX3_init_54 ⟨by omega, by omega⟩ (fun x_12 lx_12 ux_12 ex_12 => ?_) | refine q_iaddw hx hb dX3_init_54 (fun x_12 lx_12 ux_12 _ => ?_)
      refine lv_goto (tgt := 60) hx hb dX3_init_55 (by decide) ?_
      refine q_putFi (ci := 2) (C := RX3) (T := TX3) (N := 7) hx hb hts (fun w h => List.mem_cons_of_mem _ (mfX30 w h)) hown hK hw m_a0 o_a0 rfl 5 (by decide) (hts _ (List.mem_cons_of_mem _ (mr13 _ (List.mem_of_getElem? (i := 20) rfl)))) (fun _ h => h) tyX3 tyX3_ok nmX3 rfl hnm rfl (ty := .int) (by decide +kernel) rfl rfl dX3_init_60 (fun H locs hw => ?_)
      have oo := o_a0
      obtain ⟨f_13, ef_13⟩ : ∃ g : Nat → va_E, g = pU f_6 a0 5 (.int (iI x_12)) := ⟨_, rfl⟩
      have hX : Ex cy f_6 f_13 := by rw [ef_13]; exact Ex_pU oo rfl rfl (by decide)
      have hg : GI cy M f_13 := by rw [ef_13]; exact hg.putI oo rfl ⟨lx_12, ux_12⟩ trivial
      rw [← ef_13] at hw
      have hO : ∀ x ∈ L0, x ≠ a0 → f_13 x = f0 x := fun x9 m9 h9 => Eq.trans (by rw [ef_13]; exact pU_ne h9) (hO x9 m9 h9)
      have hE := hE.trans hX
      have o_a0 := hX.1.1 _ _ o_a0
      have t_a0_0_f_13 : fI f_13 a0 0 = fI f_6 a0 0 := by rw [ef_13]; exact fI_pU (Or.inr (by decide))
      have t_a0_1_f_13 : fI f_13 a0 1 = fI f_6 a0 1 := by rw [ef_13]; exact fI_pU (Or.inr (by decide))
      have t_a0_2_f_13 : fI f_13 a0 2 = fI f_6 a0 2 := by rw [ef_13]; exact fI_pU (Or.inr (by decide))
      have t_a0_3_f_13 : fI f_13 a0 3 = fI f_6 a0 3 := by rw [ef_13]; exact fI_pU (Or.inr (by decide))
      have t_a0_4_f_13 : fI f_13 a0 4 = fI f_6 a0 4 := by rw [ef_13]; exact fI_pU (Or.inr (by decide))
      have t_a0_6_f_13 : fI f_13 a0 6 = fI f_6 a0 6 := by rw [ef_13]; exact fI_pU (Or.inr (by decide))
      have vf_13 : fI f_13 a0 5 = x_12 := by rw [ef_13]; exact fI_pU_self oo rfl ⟨lx_12, ux_12⟩
      refine lv_aload_n hx hb dX3_init_63 rfl (lv_at hl 0 rfl) ?_
      refine lv_iload hx hb dX3_init_64 (lv_at hl 4 rfl) ?_
      refine q_putFi (ci := 2) (C := RX3) (T := TX3) (N := 7) hx hb hts (fun w h => List.mem_cons_of_mem _ (mfX30 w h)) hown hK hw m_a0 o_a0 rfl 6 (by decide) (hts _ (List.mem_cons_of_mem _ (mr13 _ (List.mem_of_getElem? (i := 21) rfl)))) (fun _ h => h) tyX3 tyX3_ok nmX3 rfl hnm rfl (ty := .int) (by decide +kernel) rfl rfl dX3_init_66 (fun H locs hw => ?_)
      have oo := o_a0
      obtain ⟨f_14, ef_14⟩ : ∃ g : Nat → va_E, g = pU f_13 a0 6 (.int (iI x5)) := ⟨_, rfl⟩
      have hX : Ex cy f_13 f_14 := by rw [ef_14]; exact Ex_pU oo rfl rfl (by decide)
      have hg : GI cy M f_14 := by rw [ef_14]; exact hg.putI oo rfl ⟨lx5, ux5⟩ trivial
      rw [← ef_14] at hw
      have hO : ∀ x ∈ L0, x ≠ a0 → f_14 x = f0 x := fun x9 m9 h9 => Eq.trans (by rw [ef_14]; exact pU_ne h9) (hO x9 m9 h9)
      have hE := hE.trans hX
      have o_a0 := hX.1.1 _ _ o_a0
      have t_a0_0_f_14 : fI f_14 a0 0 = fI f_13 a0 0 := by rw [ef_14]; exact fI_pU (Or.inr (by decide))
      have t_a0_1_f_14 : fI f_14 a0 1 = fI f_13 a0 1 := by rw [ef_14]; exact fI_pU (Or.inr (by decide))
      have t_a0_2_f_14 : fI f_14 a0 2 = fI f_13 a0 2 := by rw [ef_14]; exact fI_pU (Or.inr (by decide))
      have t_a0_3_f_14 : fI f_14 a0 3 = fI f_13 a0 3 := by rw [ef_14]; exact fI_pU (Or.inr (by decide))
      have t_a0_4_f_14 : fI f_14 a0 4 = fI f_13 a0 4 := by rw [ef_14]; exact fI_pU (Or.inr (by decide))
      have t_a0_5_f_14 : fI f_14 a0 5 = fI f_13 a0 5 := by rw [ef_14]; exact fI_pU (Or.inr (by decide))
      have vf_14 : fI f_14 a0 6 = x5 := by rw [ef_14]; exact fI_pU_self oo rfl ⟨lx5, ux5⟩
      exact q_ret_v hx hb hr hlocks hK hAe hw (Nat.le_of_ble_eq_true rfl) (Nat.le_of_ble_eq_true rfl) dX3_init_69 (by exact ⟨rfl, hg, hE, hO, by omega, by omega, by omega, by omega, by omega, by unfold nvq; split <;> omega, by omega⟩)
  refine q_icmp_ne (tgt := 21) hx hb dX3_init_11 (by decide) ⟨lx1, ux1⟩ ⟨by decide, by decide⟩ (fun c11 => ?_) (fun c11 => ?_)
  · refine lv_iload_n hx hb dX3_init_21 rfl (lv_at hl 2 rfl) ?_
    exact J22 x2 lx2 ux2 (by unfold stC; split <;> omega) _ _ _ hw (lv_sub hl [0, 1, 3, 4, 5] rfl)
  · refine q_bipush hx hb dX3_init_14 rfl ?_
    refine lv_iload_n hx hb dX3_init_16 rfl (lv_at hl 2 rfl) ?_
    first | refine q_imul hx hb dX3_init_17 ⟨by omega, by omega⟩ (fun x_15 lx_15 ux_15 ex_15 => ?_) | refine q_imulw hx hb dX3_init_17 (fun x_15 lx_15 ux_15 _ => ?_)
    refine lv_goto (tgt := 22) hx hb dX3_init_18 (by decide) ?_
    exact J22 x_15 lx_15 ux_15 (by unfold stC; split <;> omega) _ _ _ hw (lv_sub hl [0, 1, 3, 4, 5] rfl)
/-! ===== a rule is made ===== -/
def okP (k n v w : Int) : Prop := (k = 0 ∧ n = 0 ∧ v = 0 ∧ w = 0) ∨ (k = 1 ∧ 1 ≤ n ∧ n ≤ 999 ∧ v = 0 ∧ w = 0) ∨ (k = 2 ∧ 1 ≤ n ∧ n ≤ 999 ∧ 1 ≤ v ∧ v ≤ 127 ∧ w = 0) ∨ (1 ≤ n ∧ n ≤ 999 ∧ ((k = 3 ∧ 1 ≤ v ∧ v ≤ 31 ∧ w = 0) ∨ (k = 4 ∧ 1 ≤ v ∧ v ≤ 28 ∧ w = 0) ∨ (k = 5 ∧ 1 ≤ v ∧ v ≤ 5 ∧ 0 ≤ w ∧ w ≤ 6) ∨ (k = 6 ∧ v = 0 ∧ 0 ≤ w ∧ w ≤ 6) ∨ (k = 7 ∧ v = 0 ∧ w = 0)))
theorem okP.o {k n v w : Int} (h : okP k n v w) (e : k = 0) : n = 0 ∧ v = 0 ∧ w = 0 := by unfold okP at h; omega
theorem okP.d {k n v w : Int} (h : okP k n v w) (e : k = 1) : 1 ≤ n ∧ n ≤ 999 ∧ v = 0 ∧ w = 0 := by unfold okP at h; omega
theorem okP.w {k n v w : Int} (h : okP k n v w) (e : k = 2) : 1 ≤ n ∧ n ≤ 999 ∧ 1 ≤ v ∧ v ≤ 127 ∧ w = 0 := by unfold okP at h; omega
theorem okP.m {k n v w : Int} (h : okP k n v w) (e : k < 0 ∨ 2 < k) : 3 ≤ k ∧ k ≤ 7 ∧ 1 ≤ n ∧ n ≤ 999 := by unfold okP at h; omega
def rfV (k v w : Int) : Int := if k = 6 then w else v
def rfW (k w : Int) : Int := if k = 5 then w else -1
theorem ruk_once {f : Nat → va_E} {r : Nat} {k n v w s : Int} (o : Ob f r 3) (e : fI f r 0 = 0 ∧ fI f r 1 = 0 ∧ fI f r 2 = s) (hk : k = 0) (z : n = 0 ∧ v = 0 ∧ w = 0) (s0 : 0 ≤ s) (s1 : s ≤ 36524) : RuK f r k n s (rfV k v w) (rfW k w) := by
  obtain ⟨rfl, rfl, rfl⟩ := z
  subst hk
  exact ⟨⟨e.1, e.2.1, e.2.2, s0, s1⟩, Or.inl ⟨o, rfl, rfl, rfl, rfl⟩⟩
theorem ruk_days {f : Nat → va_E} {r : Nat} {k n v w s : Int} (o : Ob f r 1) (e : fI f r 0 = 1 ∧ fI f r 1 = n ∧ fI f r 2 = s ∧ fI f r 3 = n) (hk : k = 1) (z : 1 ≤ n ∧ n ≤ 999 ∧ v = 0 ∧ w = 0) (s0 : 0 ≤ s) (s1 : s ≤ 36524) : RuK f r k n s (rfV k v w) (rfW k w) := by
  obtain ⟨z1, z2, rfl, rfl⟩ := z
  subst hk
  exact ⟨⟨e.1, e.2.1, e.2.2.1, s0, s1⟩, Or.inr (Or.inl ⟨o, rfl, z1, z2, rfl, rfl, e.2.2.2⟩)⟩
theorem ruk_weeks {f : Nat → va_E} {r : Nat} {k n v w s : Int} (o : Ob f r 6) (e : fI f r 0 = 2 ∧ fI f r 1 = n ∧ fI f r 2 = s ∧ fI f r 3 = n ∧ fI f r 4 = v ∧ fI f r 5 = s - wd s) (hk : k = 2) (z : 1 ≤ n ∧ n ≤ 999 ∧ 1 ≤ v ∧ v ≤ 127 ∧ w = 0) (s0 : 0 ≤ s) (s1 : s ≤ 36524) : RuK f r k n s (rfV k v w) (rfW k w) := by
  obtain ⟨z1, z2, z3, z4, rfl⟩ := z
  subst hk
  exact ⟨⟨e.1, e.2.1, e.2.2.1, s0, s1⟩, Or.inr (Or.inr (Or.inl ⟨o, rfl, z1, z2, z3, z4, rfl, e.2.2.2.1, e.2.2.2.2.1, e.2.2.2.2.2⟩))⟩
theorem ruk_months {f : Nat → va_E} {r : Nat} {k n v w s : Int} (o : Ob f r 2) (e : fI f r 0 = k ∧ fI f r 1 = n ∧ fI f r 2 = s ∧ fI f r 3 = stC k n ∧ fI f r 4 = mo s ∧ fI f r 5 = nvq k s v ∧ fI f r 6 = w) (ok : okP k n v w) (hk : k < 0 ∨ 2 < k) (s0 : 0 ≤ s) (s1 : s ≤ 36524) : RuK f r k n s (rfV k v w) (rfW k w) := by
  obtain ⟨e0, e1, e2, e3, e4, e5, e6⟩ := e
  have m := ok.m hk
  unfold okP at ok
  have q : okK k (rfV k v w) (rfW k w) ∧ nvq k s v = nvC k s (rfV k v w) ∧ w = nwC k (rfV k v w) (rfW k w) := by
    unfold okK nvq nvC nwC rfV rfW
    rcases (show k = 3 ∨ k = 4 ∨ k = 5 ∨ k = 6 ∨ k = 7 by omega) with h | h | h | h | h <;> subst h <;> simp <;> omega
  exact ⟨⟨e0, e1, e2, s0, s1⟩, Or.inr (Or.inr (Or.inr ⟨o, q.1, m.2.2.1, m.2.2.2, e3, e4, e5.trans q.2.1, e6.trans q.2.2⟩))⟩
theorem mk_cg {f : Nat → va_E} {r : Nat} {k n v w s k' n' v' w' : Int} (e : fI f r 0 = k ∧ fI f r 1 = n ∧ fI f r 2 = s ∧ fI f r 3 = stC k n ∧ fI f r 4 = mo s ∧ fI f r 5 = nvq k s v ∧ fI f r 6 = w) (ek : k = k') (en : n = n') (ev : v = v') (ew : w = w') : fI f r 0 = k' ∧ fI f r 1 = n' ∧ fI f r 2 = s ∧ fI f r 3 = stC k' n' ∧ fI f r 4 = mo s ∧ fI f r 5 = nvq k' s v' ∧ fI f r 6 = w' := by
  subst ek en ev ew; exact e
set_option maxHeartbeats 4000000 in
set_option maxRecDepth 100000 in
theorem c_X5_makeRule_p {Z : Zt} (zo : Zok Z) (l : Launch) (D : va_G) (cy : Cy) (L0 : List Nat) (f0 : Nat → va_E) (a0 : Nat) (x1 : Int) (lx1 : -2147483648 ≤ x1) (ux1 : x1 ≤ 2147483647) (m_a0 : a0 ∈ L0) (o_a0 : Ob f0 a0 4) (hg : GI cy L0 f0) (Fq : Int) (k0 : Int) (n0 : Int) (v0 : Int) (w0 : Int) (kx : K69 f0 a0 Fq k0 n0 v0 w0) (okp : okP k0 n0 v0 w0) (s0 : 0 ≤ x1) (s1 : x1 ≤ 36524) : Cr Z l yX5_makeRule (Cond.code yX5_makeRule cX5_makeRule 2 (some (.object "BookIndex$Rule")) :: TB) ({ frames := 3, cells := 1, slots := 7, locals := 68 } : Room) 1 7 D (tq cy) [.ref a0, .int (iI x1)] L0 f0 (fun (r : Nat) (L1 : List Nat) (f1 : Nat → va_E) => (∀ x ∈ L0, x ∈ L1) ∧ GI cy L1 f1 ∧ Al cy L0 f0 f1 ∧ (r ∈ L1 ∧ Rl f1 r ∧ ((∀ y ∈ L0, f1 y = f0 y) ∧ r ∉ L0 ∧ RuK f1 r k0 n0 x1 (rfV k0 v0 w0) (rfW k0 w0)))) := by
  refine Cr.enter (cc := cX5_makeRule) (n := 2) rfl (plainFor_of_name (by decide)) (Nat.le_of_ble_eq_true rfl) ?_
  intro p e s m below meth c ls A hx hb hr hts hown hlocks hnm hml hK hA hAe hw hZ hl
  have hown : s.vm.findClass RX5 = some m.cls := hown
  have hl : lv_has ls 2 [(0, .ref a0), (1, .int (iI x1))] := hl
  have hN : ZN s := (zo.2.2.2.2 _ _ _ hZ).2
  have hs : ∀ x ∈ L0, x ∈ L0 := fun _ h => h
  have hE : Al cy L0 f0 f0 := Al.refl cy L0 f0
  have hold : ∀ x ∈ L0, f0 x = f0 x := fun _ _ => rfl
  have ma0 := m_a0
  have kk0 := kx.2.1
  refine lv_aload_n hx hb dX5_makeRule_0 rfl (lv_at hl 0 rfl) ?_
  refine q_geti (ci := 4) (C := RX5) (T := TX5) (N := 10) hx hb hts (fun w h => List.mem_cons_of_mem _ (mfX50 w h)) hown hK hw m_a0 o_a0 rfl 6 (by decide) (hts _ (List.mem_cons_of_mem _ (mr6 _ (List.mem_of_getElem? (i := 7) rfl)))) (fun _ h => h) rfl dX5_makeRule_1 (fun x_1 lx_1 ux_1 ex_1 => ?_)
  have t4 : (iI x_1).toInt = x_1 := iI_toInt ⟨lx_1, ux_1⟩
  rcases (show (x_1 < 0 ∨ 2 < x_1) ∨ (x_1 = 0) ∨ (x_1 = 1) ∨ (x_1 = 2) by omega) with k4 | k4 | k4 | k4
  · refine lv_tableOut (tgt := 71) hx hb dX5_makeRule_4 (by rw [t4]; omega) (by decide) ?_
    refine q_new (ci := 2) (C := RX3) (T := TX3) (N := 7) (fs := [.int 0, .int 0, .int 0, .int 0, .int 0, .int 0, .int 0]) hx hb hts (fun w h => List.mem_cons_of_mem _ (mfX30 w h)) tyX3 tyX3_ok hown (hts _ (List.mem_cons_of_mem _ (mr12 _ (List.mem_of_getElem? (i := 16) rfl)))) (hts _ (List.mem_cons_of_mem _ (mr12 _ (List.mem_of_getElem? (i := 17) rfl)))) (hts _ (List.mem_cons_of_mem _ (mr12 _ (List.mem_of_getElem? (i := 18) rfl)))) hK hw hA rfl (by decide) (Nat.le_of_ble_eq_true rfl) (Nat.le_of_ble_eq_true rfl) dX5_makeRule_71 (fun q_2 H n_q_2 hw => ?_)
    obtain ⟨f_3, ef_3⟩ : ∃ g : Nat → va_E, g = va_up f0 q_2 (.inr (2, [.int 0, .int 0, .int 0, .int 0, .int 0, .int 0, .int 0])) := ⟨_, rfl⟩
    rw [← ef_3] at hw
    have hX : Al cy L0 f0 f_3 := by rw [ef_3]; exact Al.push n_q_2
    have hg : GI cy L0 f_3 := by rw [ef_3]; exact hg.push n_q_2
    have hM : ∀ x ∈ L0, x ∈ L0 ++ [q_2] := fun x h => List.mem_append_left _ h
    have hs0 := hs
    have hold : ∀ x ∈ L0, f_3 x = f0 x := fun x h => Eq.trans (by rw [ef_3]; exact va_up_ne _ _ (fun z => n_q_2 (z ▸ hs0 x h))) (hold x h)
    have hE := hE.trans hs (hX)
    have o_a0 := hX.1 _ m_a0 _ o_a0
    have mg_a0 := m_a0
    have m_a0 := hM _ m_a0
    have hs : ∀ x ∈ L0, x ∈ L0 ++ [q_2] := fun x h => hM x (hs x h)
    have m_q_2 : q_2 ∈ L0 ++ [q_2] := List.mem_append_right _ (List.mem_singleton.mpr rfl)
    have o_q_2 : Ob f_3 q_2 2 := by rw [ef_3]; exact ⟨_, va_up_self _ _ _, rfl⟩
    refine lv_dup hx hb dX5_makeRule_74 rfl ?_
    have oz := okp.m (by omega)
    have sb9 := stC_b (k := k0) (n := n0) (by omega) (by omega)
    have mb9 := mo_b s0 s1
    refine lv_aload_n hx hb dX5_makeRule_75 rfl (lv_at hl 0 rfl) ?_
    refine q_geti (ci := 4) (C := RX5) (T := TX5) (N := 10) hx hb hts (fun w h => List.mem_cons_of_mem _ (mfX50 w h)) hown hK hw m_a0 o_a0 rfl 6 (by decide) (hts _ (List.mem_cons_of_mem _ (mr6 _ (List.mem_of_getElem? (i := 7) rfl)))) (fun _ h => h) rfl dX5_makeRule_76 (fun x_4 lx_4 ux_4 ex_4 => ?_)
    have vx_4 : x_4 = k0 := ex_4.trans ((fI_of (hold a0 ma0)).trans kx.2.1)
    refine lv_aload_n hx hb dX5_makeRule_79 rfl (lv_at hl 0 rfl) ?_
    refine q_geti (ci := 4) (C := RX5) (T := TX5) (N := 10) hx hb hts (fun w h => List.mem_cons_of_mem _ (mfX50 w h)) hown hK hw m_a0 o_a0 rfl 7 (by decide) (hts _ (List.mem_cons_of_mem _ (mr6 _ (List.mem_of_getElem? (i := 8) rfl)))) (fun _ h => h) rfl dX5_makeRule_80 (fun x_5 lx_5 ux_5 ex_5 => ?_)
    have bx_5 : -1 ≤ x_5 ∧ x_5 ≤ 999 := by rw [ex_5]; exact hg.1 _ mg_a0 4 7 o_a0
    have vx_5 : x_5 = n0 := ex_5.trans ((fI_of (hold a0 ma0)).trans kx.2.2.1)
    refine lv_iload_n hx hb dX5_makeRule_83 rfl (lv_at hl 1 rfl) ?_
    refine lv_aload_n hx hb dX5_makeRule_84 rfl (lv_at hl 0 rfl) ?_
    refine q_geti (ci := 4) (C := RX5) (T := TX5) (N := 10) hx hb hts (fun w h => List.mem_cons_of_mem _ (mfX50 w h)) hown hK hw m_a0 o_a0 rfl 8 (by decide) (hts _ (List.mem_cons_of_mem _ (mr6 _ (List.mem_of_getElem? (i := 9) rfl)))) (fun _ h => h) rfl dX5_makeRule_85 (fun x_6 lx_6 ux_6 ex_6 => ?_)
    have vx_6 : x_6 = v0 := ex_6.trans ((fI_of (hold a0 ma0)).trans kx.2.2.2.1)
    refine lv_aload_n hx hb dX5_makeRule_88 rfl (lv_at hl 0 rfl) ?_
    refine q_geti (ci := 4) (C := RX5) (T := TX5) (N := 10) hx hb hts (fun w h => List.mem_cons_of_mem _ (mfX50 w h)) hown hK hw m_a0 o_a0 rfl 9 (by decide) (hts _ (List.mem_cons_of_mem _ (mr6 _ (List.mem_of_getElem? (i := 10) rfl)))) (fun _ h => h) rfl dX5_makeRule_89 (fun x_7 lx_7 ux_7 ex_7 => ?_)
    have vx_7 : x_7 = w0 := ex_7.trans ((fI_of (hold a0 ma0)).trans kx.2.2.2.2)
    refine q_call_v hA hK hw (va_runI (As := [.int (iI x_4), .int (iI x_5), .int (iI x1), .int (iI x_6), .int (iI x_7)]) (rest := [.ref q_2]) ⟨hx, hb, hml, hown, hts⟩ (c_X3_init_p zo l D cy (L0 ++ [q_2]) f_3 q_2 x_4 lx_4 ux_4 x_5 lx_5 ux_5 x1 lx1 ux1 x_6 lx_6 ux_6 x_7 lx_7 ux_7 m_q_2 o_q_2 (L0) hM hg (by omega) (by omega) (by omega) (by omega) (by omega) (by omega) _) (cwI 5 hts (gT (inC (mr13 _ (List.mem_of_getElem? (i := 16) rfl)))) rfl rfl rfl (hts _ (List.mem_cons_of_mem _ (mr12 _ (List.mem_of_getElem? (i := 18) rfl)))) (hts _ (List.mem_cons_of_mem _ (mr13 _ (List.mem_of_getElem? (i := 14) rfl)))) (hts _ (List.mem_cons_of_mem _ (mr13 _ (List.mem_of_getElem? (i := 15) rfl)))) rfl (by decide +kernel) ⟨Nat.le_of_ble_eq_true rfl, Nat.le_of_ble_eq_true rfl⟩) (Wd.preS zo hA hZ hw hK) rfl rfl hl.1 rfl (lv_room (Nat.le_of_ble_eq_true rfl)) dX5_makeRule_92 ⟨Nat.le_of_ble_eq_true rfl, Nat.le_of_ble_eq_true rfl⟩) (fun L1 f_9 H locs ex_8 hw => ?_)
    obtain ⟨rfl, hg, hX, ex_8⟩ := ex_8
    have hE := hE.trans hs (hX.ey.al _)
    have o_a0 := hX.1.1 _ _ o_a0
    have o_q_2 := hX.1.1 _ _ o_q_2
    have hold : ∀ x ∈ L0, f_9 x = f0 x := fun x h => (ex_8.1 x (hs x h) (fun z => n_q_2 (z ▸ hs0 x h))).trans (hold x h)
    have nq0 : q_2 ∉ L0 := fun h => n_q_2 (hs0 _ h)
    have ex_8 := ex_8.2
    have einit := ex_8
    have hg := hg.addOb o_q_2 (fcond_2 (by have sb8 := stC_b (k := x_4) (n := x_5) (by omega) (by omega); refine ⟨?_, ?_, ?_, ?_⟩ <;> omega)) rcond_2
    exact q_ret_r hx hb hr hlocks hK hAe hw (Nat.le_of_ble_eq_true rfl) (Nat.le_of_ble_eq_true rfl) dX5_makeRule_95 (by exact ⟨hs, hg, hE, m_q_2, Or.inr (Or.inl o_q_2), hold, nq0, ruk_months o_q_2 (mk_cg einit (by omega) (by omega) (by omega) (by omega)) okp (by omega) s0 s1⟩)
  · refine lv_tableIn (tgt := 32) (off := 28) hx hb dX5_makeRule_4 (by rw [t4]; omega) (by rw [t4]; omega) (by rw [t4, k4]; rfl) (by decide) ?_
    refine q_new (ci := 3) (C := RX4) (T := TX4) (N := 3) (fs := [.int 0, .int 0, .int 0]) hx hb hts (fun w h => List.mem_cons_of_mem _ (mfX40 w h)) tyX4 tyX4_ok hown (hts _ (List.mem_cons_of_mem _ (mr12 _ (List.mem_of_getElem? (i := 9) rfl)))) (hts _ (List.mem_cons_of_mem _ (mr2 _ (List.mem_of_getElem? (i := 6) rfl)))) (hts _ (List.mem_cons_of_mem _ (mr2 _ (List.mem_of_getElem? (i := 7) rfl)))) hK hw hA rfl (by decide) (Nat.le_of_ble_eq_true rfl) (Nat.le_of_ble_eq_true rfl) dX5_makeRule_32 (fun q_10 H n_q_10 hw => ?_)
    obtain ⟨f_11, ef_11⟩ : ∃ g : Nat → va_E, g = va_up f0 q_10 (.inr (3, [.int 0, .int 0, .int 0])) := ⟨_, rfl⟩
    rw [← ef_11] at hw
    have hX : Al cy L0 f0 f_11 := by rw [ef_11]; exact Al.push n_q_10
    have hg : GI cy L0 f_11 := by rw [ef_11]; exact hg.push n_q_10
    have hM : ∀ x ∈ L0, x ∈ L0 ++ [q_10] := fun x h => List.mem_append_left _ h
    have hs0 := hs
    have hold : ∀ x ∈ L0, f_11 x = f0 x := fun x h => Eq.trans (by rw [ef_11]; exact va_up_ne _ _ (fun z => n_q_10 (z ▸ hs0 x h))) (hold x h)
    have hE := hE.trans hs (hX)
    have o_a0 := hX.1 _ m_a0 _ o_a0
    have mg_a0 := m_a0
    have m_a0 := hM _ m_a0
    have hs : ∀ x ∈ L0, x ∈ L0 ++ [q_10] := fun x h => hM x (hs x h)
    have m_q_10 : q_10 ∈ L0 ++ [q_10] := List.mem_append_right _ (List.mem_singleton.mpr rfl)
    have o_q_10 : Ob f_11 q_10 3 := by rw [ef_11]; exact ⟨_, va_up_self _ _ _, rfl⟩
    refine lv_dup hx hb dX5_makeRule_35 rfl ?_
    have oz := okp.o (by omega)
    refine lv_iload_n hx hb dX5_makeRule_36 rfl (lv_at hl 1 rfl) ?_
    refine q_call_v hA hK hw (va_runI (As := [.int (iI x1)]) (rest := [.ref q_10]) ⟨hx, hb, hml, hown, hts⟩ (c_X4_init_p zo l D cy (L0 ++ [q_10]) f_11 q_10 x1 lx1 ux1 m_q_10 o_q_10 (L0) hM hg _) (cwI 1 hts (gT (inC (mr2 _ (List.mem_of_getElem? (i := 12) rfl)))) rfl rfl rfl (hts _ (List.mem_cons_of_mem _ (mr2 _ (List.mem_of_getElem? (i := 7) rfl)))) (hts _ (List.mem_cons_of_mem _ (mr12 _ (List.mem_of_getElem? (i := 19) rfl)))) (hts _ (List.mem_cons_of_mem _ (mr2 _ (List.mem_of_getElem? (i := 11) rfl)))) rfl (by decide +kernel) ⟨Nat.le_of_ble_eq_true rfl, Nat.le_of_ble_eq_true rfl⟩) (Wd.preS zo hA hZ hw hK) rfl rfl hl.1 rfl (lv_room (Nat.le_of_ble_eq_true rfl)) dX5_makeRule_37 ⟨Nat.le_of_ble_eq_true rfl, Nat.le_of_ble_eq_true rfl⟩) (fun L1 f_13 H locs ex_12 hw => ?_)
    obtain ⟨rfl, hg, hX, ex_12⟩ := ex_12
    have hE := hE.trans hs (hX.ey.al _)
    have o_a0 := hX.1.1 _ _ o_a0
    have o_q_10 := hX.1.1 _ _ o_q_10
    have hold : ∀ x ∈ L0, f_13 x = f0 x := fun x h => (ex_12.1 x (hs x h) (fun z => n_q_10 (z ▸ hs0 x h))).trans (hold x h)
    have nq0 : q_10 ∉ L0 := fun h => n_q_10 (hs0 _ h)
    have ex_12 := ex_12.2
    have einit := ex_12
    have hg := hg.addOb o_q_10 fcond_3 rcond_3
    exact q_ret_r hx hb hr hlocks hK hAe hw (Nat.le_of_ble_eq_true rfl) (Nat.le_of_ble_eq_true rfl) dX5_makeRule_40 (by exact ⟨hs, hg, hE, m_q_10, Or.inr (Or.inr (Or.inl o_q_10)), hold, nq0, ruk_once o_q_10 einit (by omega) oz s0 s1⟩)
  · refine lv_tableIn (tgt := 41) (off := 37) hx hb dX5_makeRule_4 (by rw [t4]; omega) (by rw [t4]; omega) (by rw [t4, k4]; rfl) (by decide) ?_
    refine q_new (ci := 1) (C := RX2) (T := TX2) (N := 4) (fs := [.int 0, .int 0, .int 0, .int 0]) hx hb hts (fun w h => List.mem_cons_of_mem _ (mfX20 w h)) tyX2 tyX2_ok hown (hts _ (List.mem_cons_of_mem _ (mr12 _ (List.mem_of_getElem? (i := 10) rfl)))) (hts _ (List.mem_cons_of_mem _ (mr12 _ (List.mem_of_getElem? (i := 11) rfl)))) (hts _ (List.mem_cons_of_mem _ (mr12 _ (List.mem_of_getElem? (i := 12) rfl)))) hK hw hA rfl (by decide) (Nat.le_of_ble_eq_true rfl) (Nat.le_of_ble_eq_true rfl) dX5_makeRule_41 (fun q_14 H n_q_14 hw => ?_)
    obtain ⟨f_15, ef_15⟩ : ∃ g : Nat → va_E, g = va_up f0 q_14 (.inr (1, [.int 0, .int 0, .int 0, .int 0])) := ⟨_, rfl⟩
    rw [← ef_15] at hw
    have hX : Al cy L0 f0 f_15 := by rw [ef_15]; exact Al.push n_q_14
    have hg : GI cy L0 f_15 := by rw [ef_15]; exact hg.push n_q_14
    have hM : ∀ x ∈ L0, x ∈ L0 ++ [q_14] := fun x h => List.mem_append_left _ h
    have hs0 := hs
    have hold : ∀ x ∈ L0, f_15 x = f0 x := fun x h => Eq.trans (by rw [ef_15]; exact va_up_ne _ _ (fun z => n_q_14 (z ▸ hs0 x h))) (hold x h)
    have hE := hE.trans hs (hX)
    have o_a0 := hX.1 _ m_a0 _ o_a0
    have mg_a0 := m_a0
    have m_a0 := hM _ m_a0
    have hs : ∀ x ∈ L0, x ∈ L0 ++ [q_14] := fun x h => hM x (hs x h)
    have m_q_14 : q_14 ∈ L0 ++ [q_14] := List.mem_append_right _ (List.mem_singleton.mpr rfl)
    have o_q_14 : Ob f_15 q_14 1 := by rw [ef_15]; exact ⟨_, va_up_self _ _ _, rfl⟩
    refine lv_dup hx hb dX5_makeRule_44 rfl ?_
    have oz := okp.d (by omega)
    refine lv_aload_n hx hb dX5_makeRule_45 rfl (lv_at hl 0 rfl) ?_
    refine q_geti (ci := 4) (C := RX5) (T := TX5) (N := 10) hx hb hts (fun w h => List.mem_cons_of_mem _ (mfX50 w h)) hown hK hw m_a0 o_a0 rfl 7 (by decide) (hts _ (List.mem_cons_of_mem _ (mr6 _ (List.mem_of_getElem? (i := 8) rfl)))) (fun _ h => h) rfl dX5_makeRule_46 (fun x_16 lx_16 ux_16 ex_16 => ?_)
    have bx_16 : -1 ≤ x_16 ∧ x_16 ≤ 999 := by rw [ex_16]; exact hg.1 _ mg_a0 4 7 o_a0
    have vx_16 : x_16 = n0 := ex_16.trans ((fI_of (hold a0 ma0)).trans kx.2.2.1)
    refine lv_iload_n hx hb dX5_makeRule_49 rfl (lv_at hl 1 rfl) ?_
    refine q_call_v hA hK hw (va_runI (As := [.int (iI x_16), .int (iI x1)]) (rest := [.ref q_14]) ⟨hx, hb, hml, hown, hts⟩ (c_X2_init_p zo l D cy (L0 ++ [q_14]) f_15 q_14 x_16 lx_16 ux_16 x1 lx1 ux1 m_q_14 o_q_14 (L0) hM hg (by omega) _) (cwI 2 hts (gT (inC (mr12 _ (List.mem_of_getElem? (i := 22) rfl)))) rfl rfl rfl (hts _ (List.mem_cons_of_mem _ (mr12 _ (List.mem_of_getElem? (i := 12) rfl)))) (hts _ (List.mem_cons_of_mem _ (mr12 _ (List.mem_of_getElem? (i := 20) rfl)))) (hts _ (List.mem_cons_of_mem _ (mr12 _ (List.mem_of_getElem? (i := 21) rfl)))) rfl (by decide +kernel) ⟨Nat.le_of_ble_eq_true rfl, Nat.le_of_ble_eq_true rfl⟩) (Wd.preS zo hA hZ hw hK) rfl rfl hl.1 rfl (lv_room (Nat.le_of_ble_eq_true rfl)) dX5_makeRule_50 ⟨Nat.le_of_ble_eq_true rfl, Nat.le_of_ble_eq_true rfl⟩) (fun L1 f_18 H locs ex_17 hw => ?_)
    obtain ⟨rfl, hg, hX, ex_17⟩ := ex_17
    have hE := hE.trans hs (hX.ey.al _)
    have o_a0 := hX.1.1 _ _ o_a0
    have o_q_14 := hX.1.1 _ _ o_q_14
    have hold : ∀ x ∈ L0, f_18 x = f0 x := fun x h => (ex_17.1 x (hs x h) (fun z => n_q_14 (z ▸ hs0 x h))).trans (hold x h)
    have nq0 : q_14 ∉ L0 := fun h => n_q_14 (hs0 _ h)
    have ex_17 := ex_17.2
    have einit := ex_17
    have hg := hg.addOb o_q_14 (fcond_1 (by omega)) rcond_1
    exact q_ret_r hx hb hr hlocks hK hAe hw (Nat.le_of_ble_eq_true rfl) (Nat.le_of_ble_eq_true rfl) dX5_makeRule_53 (by exact ⟨hs, hg, hE, m_q_14, Or.inl o_q_14, hold, nq0, ruk_days o_q_14 (by refine ⟨?_, ?_, ?_, ?_⟩ <;> omega) (by omega) oz s0 s1⟩)
  · refine lv_tableIn (tgt := 54) (off := 50) hx hb dX5_makeRule_4 (by rw [t4]; omega) (by rw [t4]; omega) (by rw [t4, k4]; rfl) (by decide) ?_
    refine q_new (ci := 6) (C := RX8) (T := TX8) (N := 6) (fs := [.int 0, .int 0, .int 0, .int 0, .int 0, .int 0]) hx hb hts (fun w h => List.mem_cons_of_mem _ (mfX80 w h)) tyX8 tyX8_ok hown (hts _ (List.mem_cons_of_mem _ (mr12 _ (List.mem_of_getElem? (i := 13) rfl)))) (hts _ (List.mem_cons_of_mem _ (mr12 _ (List.mem_of_getElem? (i := 14) rfl)))) (hts _ (List.mem_cons_of_mem _ (mr12 _ (List.mem_of_getElem? (i := 15) rfl)))) hK hw hA rfl (by decide) (Nat.le_of_ble_eq_true rfl) (Nat.le_of_ble_eq_true rfl) dX5_makeRule_54 (fun q_19 H n_q_19 hw => ?_)
    obtain ⟨f_20, ef_20⟩ : ∃ g : Nat → va_E, g = va_up f0 q_19 (.inr (6, [.int 0, .int 0, .int 0, .int 0, .int 0, .int 0])) := ⟨_, rfl⟩
    rw [← ef_20] at hw
    have hX : Al cy L0 f0 f_20 := by rw [ef_20]; exact Al.push n_q_19
    have hg : GI cy L0 f_20 := by rw [ef_20]; exact hg.push n_q_19
    have hM : ∀ x ∈ L0, x ∈ L0 ++ [q_19] := fun x h => List.mem_append_left _ h
    have hs0 := hs
    have hold : ∀ x ∈ L0, f_20 x = f0 x := fun x h => Eq.trans (by rw [ef_20]; exact va_up_ne _ _ (fun z => n_q_19 (z ▸ hs0 x h))) (hold x h)
    have hE := hE.trans hs (hX)
    have o_a0 := hX.1 _ m_a0 _ o_a0
    have mg_a0 := m_a0
    have m_a0 := hM _ m_a0
    have hs : ∀ x ∈ L0, x ∈ L0 ++ [q_19] := fun x h => hM x (hs x h)
    have m_q_19 : q_19 ∈ L0 ++ [q_19] := List.mem_append_right _ (List.mem_singleton.mpr rfl)
    have o_q_19 : Ob f_20 q_19 6 := by rw [ef_20]; exact ⟨_, va_up_self _ _ _, rfl⟩
    refine lv_dup hx hb dX5_makeRule_57 rfl ?_
    have oz := okp.w (by omega)
    refine lv_aload_n hx hb dX5_makeRule_58 rfl (lv_at hl 0 rfl) ?_
    refine q_geti (ci := 4) (C := RX5) (T := TX5) (N := 10) hx hb hts (fun w h => List.mem_cons_of_mem _ (mfX50 w h)) hown hK hw m_a0 o_a0 rfl 7 (by decide) (hts _ (List.mem_cons_of_mem _ (mr6 _ (List.mem_of_getElem? (i := 8) rfl)))) (fun _ h => h) rfl dX5_makeRule_59 (fun x_21 lx_21 ux_21 ex_21 => ?_)
    have bx_21 : -1 ≤ x_21 ∧ x_21 ≤ 999 := by rw [ex_21]; exact hg.1 _ mg_a0 4 7 o_a0
    have vx_21 : x_21 = n0 := ex_21.trans ((fI_of (hold a0 ma0)).trans kx.2.2.1)
    refine lv_iload_n hx hb dX5_makeRule_62 rfl (lv_at hl 1 rfl) ?_
    refine lv_aload_n hx hb dX5_makeRule_63 rfl (lv_at hl 0 rfl) ?_
    refine q_geti (ci := 4) (C := RX5) (T := TX5) (N := 10) hx hb hts (fun w h => List.mem_cons_of_mem _ (mfX50 w h)) hown hK hw m_a0 o_a0 rfl 8 (by decide) (hts _ (List.mem_cons_of_mem _ (mr6 _ (List.mem_of_getElem? (i := 9) rfl)))) (fun _ h => h) rfl dX5_makeRule_64 (fun x_22 lx_22 ux_22 ex_22 => ?_)
    have vx_22 : x_22 = v0 := ex_22.trans ((fI_of (hold a0 ma0)).trans kx.2.2.2.1)
    refine q_call_v hA hK hw (va_runI (As := [.int (iI x_21), .int (iI x1), .int (iI x_22)]) (rest := [.ref q_19]) ⟨hx, hb, hml, hown, hts⟩ (c_X8_init_p zo l D cy (L0 ++ [q_19]) f_20 q_19 x_21 lx_21 ux_21 x1 lx1 ux1 x_22 lx_22 ux_22 m_q_19 o_q_19 (L0) hM hg (by omega) (by omega) (by omega) _) (cwI 3 hts (gT (inC (mr13 _ (List.mem_of_getElem? (i := 6) rfl)))) rfl rfl rfl (hts _ (List.mem_cons_of_mem _ (mr12 _ (List.mem_of_getElem? (i := 15) rfl)))) (hts _ (List.mem_cons_of_mem _ (mr13 _ (List.mem_of_getElem? (i := 4) rfl)))) (hts _ (List.mem_cons_of_mem _ (mr13 _ (List.mem_of_getElem? (i := 5) rfl)))) rfl (by decide +kernel) ⟨Nat.le_of_ble_eq_true rfl, Nat.le_of_ble_eq_true rfl⟩) (Wd.preS zo hA hZ hw hK) rfl rfl hl.1 rfl (lv_room (Nat.le_of_ble_eq_true rfl)) dX5_makeRule_67 ⟨Nat.le_of_ble_eq_true rfl, Nat.le_of_ble_eq_true rfl⟩) (fun L1 f_24 H locs ex_23 hw => ?_)
    obtain ⟨rfl, hg, hX, ex_23⟩ := ex_23
    have hE := hE.trans hs (hX.ey.al _)
    have o_a0 := hX.1.1 _ _ o_a0
    have o_q_19 := hX.1.1 _ _ o_q_19
    have hold : ∀ x ∈ L0, f_24 x = f0 x := fun x h => (ex_23.1 x (hs x h) (fun z => n_q_19 (z ▸ hs0 x h))).trans (hold x h)
    have nq0 : q_19 ∉ L0 := fun h => n_q_19 (hs0 _ h)
    have ex_23 := ex_23.2
    have einit := ex_23
    have hg := hg.addOb o_q_19 (fcond_6 (by omega)) rcond_6
    exact q_ret_r hx hb hr hlocks hK hAe hw (Nat.le_of_ble_eq_true rfl) (Nat.le_of_ble_eq_true rfl) dX5_makeRule_70 (by exact ⟨hs, hg, hE, m_q_19, Or.inr (Or.inr (Or.inr o_q_19)), hold, nq0, ruk_weeks o_q_19 (by refine ⟨?_, ?_, ?_, ?_, ?_, ?_⟩ <;> omega) (by omega) oz s0 s1⟩)
