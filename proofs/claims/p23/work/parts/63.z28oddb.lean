/-! ===== the reference's rows of odds ===== -/
theorem om_set {g g' : Int → Int} {p i k t : Int} {O : Int → Int} (om : OM g p O) (i0 : 0 ≤ i) (i1 : i < g (p + 11)) (ek : g (p + 12 + 2 * i) = k) (t0 : -1 ≤ t) (m : g' (p + 12 + 2 * i) = k) (v : g' (p + 13 + 2 * i) = t) (n : ∀ x : Int, 0 ≤ x → x ≠ p + 12 + 2 * i → x ≠ p + 13 + 2 * i → g' x = g x) (p0 : 0 ≤ p) : OM g' p (upO O k t) ∧ g' (p + 11) = g (p + 11) := by
  have e11 : g' (p + 11) = g (p + 11) := n _ (by omega) (by omega) (by omega)
  refine ⟨OdR.set om i0 i1 ek t0 e11 (fun j j0 j1 => ?_) (fun j j0 j1 ji => ?_) v, e11⟩
  · show g' (p + 12 + 2 * j) = g (p + 12 + 2 * j)
    by_cases q : j = i
    · rw [q, m, ek]
    · exact n _ (by omega) (by omega) (by omega)
  · exact n _ (by omega) (by omega) (by omega)
theorem om_add {g g' : Int → Int} {p k t : Int} {O : Int → Int} (om : OM g p O) (n0 : 0 ≤ g (p + 11)) (ok : O k = -2) (t0 : -1 ≤ t) (m11 : g' (p + 11) = g (p + 11) + 1) (m : g' (p + 12 + 2 * g (p + 11)) = k) (v : g' (p + 13 + 2 * g (p + 11)) = t) (n : ∀ x : Int, 0 ≤ x → x ≠ p + 11 → x ≠ p + 12 + 2 * g (p + 11) → x ≠ p + 13 + 2 * g (p + 11) → g' x = g x) (p0 : 0 ≤ p) : OM g' p (upO O k t) :=
  OdR.add om n0 ok t0 m11 (fun j j0 j1 => n _ (by omega) (by omega) (by omega) (by omega)) (fun j j0 j1 => n _ (by omega) (by omega) (by omega) (by omega)) m v
theorem om_del {g g' : Int → Int} {p i : Int} {O : Int → Int} (om : OM g p O) (i0 : 0 ≤ i) (i1 : i < g (p + 11)) (m11 : g' (p + 11) = g (p + 11) - 1) (lo : ∀ x : Int, 0 ≤ x → x ≠ p + 11 → x < p + 12 + 2 * i → g' x = g x) (hi : ∀ x : Int, p + 12 + 2 * i ≤ x → x < p + 12 + 2 * (g (p + 11) - 1) → g' x = g (x + 2)) (p0 : 0 ≤ p) : OM g' p (upO O (g (p + 12 + 2 * i)) (-2)) := by
  refine OdR.shift om i0 i1 rfl m11 (fun j j0 j1 => ⟨lo _ (by omega) (by omega) (by omega), lo _ (by omega) (by omega) (by omega)⟩) (fun j j0 j1 => ⟨?_, ?_⟩)
  · show g' (p + 12 + 2 * j) = g (p + 12 + 2 * (j + 1))
    rw [hi _ (by omega) (by omega)]; congr 1; omega
  · show g' (p + 13 + 2 * j) = g (p + 13 + 2 * (j + 1))
    rw [hi _ (by omega) (by omega)]; congr 1; omega
theorem om_key {g : Int → Int} {p : Int} {O : Int → Int} {k k' : Int} (h : OM g p (upO O k (-2))) (e : k = k') : OM g p (upO O k' (-2)) := by rw [← e]; exact h
theorem nk_split {A B C D : Prop} {p q : Int → Prop} {x : Int} (h : ¬ (A ∧ B ∧ C ∧ D ∧ q x)) (e : A ∧ B → p = q) : ¬ (A ∧ B) ∨ ¬ (C ∧ D ∧ p x) := by
  rcases Classical.em (A ∧ B) with z | z
  · refine Or.inr (fun w => h ⟨z.1, z.2, w.1, w.2.1, ?_⟩)
    rw [← e z]; exact w.2.2
  · exact Or.inl z
theorem om_at {g : Int → Int} {p i k : Int} {O : Int → Int} (om : OM g p O) (i0 : 0 ≤ i) (i1 : i < g (p + 11)) (e : g (p + 12 + 2 * i) = k) : g (p + 13 + 2 * i) = O k ∧ O k ≠ -2 ∧ -1 ≤ O k := by
  have h : OdR (fun i => g (p + 12 + 2 * i)) (fun i => g (p + 13 + 2 * i)) (g (p + 11)) O := om
  exact h.at (k := k) i0 i1 e
theorem om_no {g : Int → Int} {p k : Int} {O : Int → Int} (om : OM g p O) (e : ∀ i : Int, 0 ≤ i → i < g (p + 11) → g (p + 12 + 2 * i) ≠ k) : O k = -2 := by
  have h : OdR (fun i => g (p + 12 + 2 * i)) (fun i => g (p + 13 + 2 * i)) (g (p + 11)) O := om
  exact h.no e
set_option maxHeartbeats 4000000 in
set_option maxRecDepth 100000 in
theorem c_X10_tellsOdd_o {Z : Zt} (zo : Zok Z) (l : Launch) (D : va_G) (cy : Cy) (L0 : List Nat) (f0 : Nat → va_E) (a0 : Nat) (x1 : Int) (lx1 : -2147483648 ≤ x1) (ux1 : x1 ≤ 2147483647) (x2 : Int) (lx2 : -2147483648 ≤ x2) (ux2 : x2 ≤ 2147483647) (x3 : Int) (lx3 : -2147483648 ≤ x3) (ux3 : x3 ≤ 2147483647) (ad : Nat → Nat) (hs : MS cy L0 f0 a0 ad) (hv : MV f0 a0 ad) (b1 : 0 ≤ x1) (b2 : x1 < fI f0 a0 5) (k1 : aI f0 (ad 4) (44 * x1 + 10) ≤ x2) (k2 : x2 ≤ UN (aI f0 (ad 4)) (44 * x1)) (t1 : -1 ≤ x3) (t2 : x3 ≤ 52595999) (O : Int → Int) (om : OM (aI f0 (ad 4)) (44 * x1) O) : Ci Z l yX10_tellsOdd (Cond.code yX10_tellsOdd cX10_tellsOdd 5 (some .boolean) :: TB) ({ frames := 2, cells := 0, slots := 0, locals := 45 } : Room) 0 0 D (tq cy) [.ref a0, .int (iI x1), .int (iI x2), .int (iI x3)] L0 f0 (fun (r : Int) (L1 : List Nat) (f1 : Nat → va_E) => L0 = L1 ∧ MS cy L0 f1 a0 ad ∧ Kp a0 ad [4] [] f0 f1 ∧ (MV f1 a0 ad ∧ ((r = 0 ∧ O x2 = -2 ∧ 16 ≤ aI f0 (ad 4) (44 * x1 + 11) ∧ (∀ x : Int, aI f1 (ad 4) x = aI f0 (ad 4) x)) ∨ (r = 1 ∧ OM (aI f1 (ad 4)) (44 * x1) (upO O x2 x3) ∧ ((O x2 ≠ -2 ∧ aI f1 (ad 4) (44 * x1 + 11) = aI f0 (ad 4) (44 * x1 + 11)) ∨ (O x2 = -2 ∧ aI f0 (ad 4) (44 * x1 + 11) < 16 ∧ aI f1 (ad 4) (44 * x1 + 11) = aI f0 (ad 4) (44 * x1 + 11) + 1)) ∧ (∀ x : Int, 0 ≤ x → (x < 44 * x1 + 11 ∨ 44 * x1 + 43 < x) → aI f1 (ad 4) x = aI f0 (ad 4) x))))) := by
  refine Ci.enter (cc := cX10_tellsOdd) (n := 5) rfl (plainFor_of_name (by decide)) (Nat.le_of_ble_eq_true rfl) ?_
  intro p e s m below meth c ls A hx hb hr hts hown hlocks hnm hml hK hA hAe hw hZ hl
  have hown : s.vm.findClass RX10 = some m.cls := hown
  have hl : lv_has ls 5 [(0, .ref a0), (1, .int (iI x1)), (2, .int (iI x2)), (3, .int (iI x3))] := hl
  have hN : ZN s := (zo.2.2.2.2 _ _ _ hZ).2
  have hE : Kp a0 ad [4] [] f0 f0 := Kp.refl _ _ _ _ _
  have rv := hv.row x1 b1 b2
  have ro := hv.at b1 b2
  refine lv_aload_n hx hb dX10_tellsOdd_0 rfl (lv_at hl 0 rfl) ?_
  refine lv_iload_n hx hb dX10_tellsOdd_1 rfl (lv_at hl 1 rfl) ?_
  refine lv_iload_n hx hb dX10_tellsOdd_2 rfl (lv_at hl 2 rfl) ?_
  refine q_call_i hA hK hw (va_runV (As := [.int (iI x1), .int (iI x2)]) (rest := []) ⟨hx, hb, hml, hown, hts⟩ (c_X10_oddOf_2 zo l D cy L0 f0 a0 x1 lx1 ux1 x2 lx2 ux2 ad hs (by omega) (by omega) (by omega) (by omega) _) (cwV 2 hts (gT (inV (mr27 _ (List.mem_of_getElem? (i := 7) rfl)) (mr27 _ (List.mem_of_getElem? (i := 8) rfl)) (mr27 _ (List.mem_of_getElem? (i := 9) rfl)) (mr1 _ (List.mem_of_getElem? (i := 5) rfl)) (mr27 _ (List.mem_of_getElem? (i := 10) rfl)))) rfl rfl rfl (by decide +kernel) ⟨Nat.le_of_ble_eq_true rfl, Nat.le_of_ble_eq_true rfl⟩) (Wd.preV zo hA hZ hw hK hs.1 hs.2.1 rfl) rfl rfl hl.1 rfl (lv_room (Nat.le_of_ble_eq_true rfl)) dX10_tellsOdd_3 ⟨Nat.le_of_ble_eq_true rfl, Nat.le_of_ble_eq_true rfl⟩) (fun x_1 L1 f1 H locs lx_1 ux_1 ex_1 hw => ?_)
  obtain ⟨rfl, rfl, ex_1⟩ := ex_1
  have oR : -1 ≤ x_1 ∧ x_1 < aI f0 (ad 4) (44 * x1 + 11) := by rcases ex_1 with h | h <;> omega
  have oA : 0 ≤ x_1 → aI f0 (ad 4) (44 * x1 + 12 + 2 * x_1) = x2 := fun q => ex_1.elim (fun h => absurd h.1 (by omega)) (fun h => h.2.2)
  have oB : x_1 < 0 → ∀ i : Int, 0 ≤ i → i < aI f0 (ad 4) (44 * x1 + 11) → aI f0 (ad 4) (44 * x1 + 12 + 2 * i) ≠ x2 := fun q => ex_1.elim (fun h => h.2) (fun h => absurd h.1 (by omega))
  clear ex_1
  refine lv_istore (lv' := [(4, .int (iI x_1)), (0, .ref a0), (1, .int (iI x1)), (2, .int (iI x2)), (3, .int (iI x3))]) hx hb dX10_tellsOdd_6 hl (by decide) rfl (fun ls hl => ?_)
  refine lv_iload hx hb dX10_tellsOdd_8 (lv_at hl 0 rfl) ?_
  have J27 : ∀ (k27 : 0 ≤ x_1 ∨ aI f0 (ad 4) (44 * x1 + 11) ≤ 15) (H : Heap) (locs : List Loc) (ls : Array Slot) (hw : Wd D A s.heap L0 f0 H locs) (hl : lv_has ls 5 [(0, .ref a0), (1, .int (iI x1)), (2, .int (iI x2)), (3, .int (iI x3)), (4, .int (iI x_1))]), W p l e ({ frames := 2, cells := 0, slots := 0, locals := 45 } : Room) s m ([.ref a0, .int (iI x1), .int (iI x2), .int (iI x3)] : List Value).toArray below meth c H locs (0 + 0) (0 + 0) (MQ below (Qi D (tq cy) L0 f0 s.heap.size (fun (r : Int) (L1 : List Nat) (f1 : Nat → va_E) => L0 = L1 ∧ MS cy L0 f1 a0 ad ∧ Kp a0 ad [4] [] f0 f1 ∧ (MV f1 a0 ad ∧ ((r = 0 ∧ O x2 = -2 ∧ 16 ≤ aI f0 (ad 4) (44 * x1 + 11) ∧ (∀ x : Int, aI f1 (ad 4) x = aI f0 (ad 4) x)) ∨ (r = 1 ∧ OM (aI f1 (ad 4)) (44 * x1) (upO O x2 x3) ∧ ((O x2 ≠ -2 ∧ aI f1 (ad 4) (44 * x1 + 11) = aI f0 (ad 4) (44 * x1 + 11)) ∨ (O x2 = -2 ∧ aI f0 (ad 4) (44 * x1 + 11) < 16 ∧ aI f1 (ad 4) (44 * x1 + 11) = aI f0 (ad 4) (44 * x1 + 11) + 1)) ∧ (∀ x : Int, 0 ≤ x → (x < 44 * x1 + 11 ∨ 44 * x1 + 43 < x) → aI f1 (ad 4) x = aI f0 (ad 4) x)))))) ([.ref a0, .int (iI x1), .int (iI x2), .int (iI x3)] : List Value).toArray s 0 0 A) (F0 m 27 ls []) := by
    intro k27 H locs ls hw hl
    refine lv_iload hx hb dX10_tellsOdd_27 (lv_at hl 4 rfl) ?_
    refine q_if_ge (tgt := 57) hx hb dX10_tellsOdd_29 (by decide) ⟨lx_1, ux_1⟩ (fun c29 => ?_) (fun c29 => ?_)
    · refine lv_aload_n hx hb dX10_tellsOdd_57 rfl (lv_at hl 0 rfl) ?_
      refine q_getr (ci := 8) (C := RX10) (T := TX10) (N := 26) hx hb hts (fun w h => List.mem_cons_of_mem _ (mfX100 w h)) hown hK hw hs.1 hs.2.1 rfl 4 (by decide) (hts _ (List.mem_cons_of_mem _ (mr3 _ (List.mem_of_getElem? (i := 14) rfl)))) (fun _ h => h) rfl (hs.2.2.1 4 rfl).1 dX10_tellsOdd_58 ?_
      refine q_bipush hx hb dX10_tellsOdd_61 rfl ?_
      refine lv_iload_n hx hb dX10_tellsOdd_63 rfl (lv_at hl 1 rfl) ?_
      first | refine q_imul hx hb dX10_tellsOdd_64 ⟨by omega, by omega⟩ (fun x_2 lx_2 ux_2 ex_2 => ?_) | refine q_imulw hx hb dX10_tellsOdd_64 (fun x_2 lx_2 ux_2 ex_2 => ?_)
      refine q_bipush hx hb dX10_tellsOdd_65 rfl ?_
      first | refine q_iadd hx hb dX10_tellsOdd_67 ⟨by omega, by omega⟩ (fun x_3 lx_3 ux_3 ex_3 => ?_) | refine q_iaddw hx hb dX10_tellsOdd_67 (fun x_3 lx_3 ux_3 ex_3 => ?_)
      refine q_iconst hx hb dX10_tellsOdd_68 ?_
      refine lv_iload hx hb dX10_tellsOdd_69 (lv_at hl 4 rfl) ?_
      first | refine q_imul hx hb dX10_tellsOdd_71 ⟨by omega, by omega⟩ (fun x_4 lx_4 ux_4 ex_4 => ?_) | refine q_imulw hx hb dX10_tellsOdd_71 (fun x_4 lx_4 ux_4 ex_4 => ?_)
      first | refine q_iadd hx hb dX10_tellsOdd_72 ⟨by omega, by omega⟩ (fun x_5 lx_5 ux_5 ex_5 => ?_) | refine q_iaddw hx hb dX10_tellsOdd_72 (fun x_5 lx_5 ux_5 ex_5 => ?_)
      refine lv_iload_n hx hb dX10_tellsOdd_73 rfl (lv_at hl 2 rfl) ?_
      refine q_iast hx hb hK hw (hs.2.2.1 4 rfl).2.1 1 (hs.2.2.1 4 rfl).2.2 rfl ⟨lx_5, ux_5⟩ (by omega) (by show _ < ((528 : Nat) : Int); omega) dX10_tellsOdd_74 (fun H locs hw => ?_)
      obtain ⟨f_6, ef_6⟩ : ∃ g : Nat → va_E, g = aU f0 (ad 4) x_5 (iI x2) := ⟨_, rfl⟩
      have t5_f_6 : fI f_6 a0 5 = fI f0 a0 5 := by rw [ef_6]; exact hs.fI_aU rfl _ _
      have hE := hE.trans (show Kp a0 ad [4] [] f0 f_6 by rw [ef_6]; exact Kp_aU hs rfl (by decide))
      have hs_ := hs
      have hs : MS cy L0 f_6 a0 ad := by rw [ef_6]; exact MS_aU hs rfl
      rw [← ef_6] at hw
      have k74 : aI f_6 (ad 4) (44 * x1 + 12 + 2 * x_1) = x2 := (aI_cg (show 44 * x1 + 12 + 2 * x_1 = x_5 by omega)).trans (by rw [ef_6]; exact hs_.aI_self rfl ⟨by omega, by omega⟩)
      have n74 : ∀ x : Int, 0 ≤ x → x ≠ 44 * x1 + 12 + 2 * x_1 → aI f_6 (ad 4) x = aI f0 (ad 4) x := fun x q0 q1 => by rw [ef_6]; exact hs_.aI_nj rfl (by omega) q0 (by omega)
      refine lv_aload_n hx hb dX10_tellsOdd_75 rfl (lv_at hl 0 rfl) ?_
      refine q_getr (ci := 8) (C := RX10) (T := TX10) (N := 26) hx hb hts (fun w h => List.mem_cons_of_mem _ (mfX100 w h)) hown hK hw hs.1 hs.2.1 rfl 4 (by decide) (hts _ (List.mem_cons_of_mem _ (mr3 _ (List.mem_of_getElem? (i := 14) rfl)))) (fun _ h => h) rfl (hs.2.2.1 4 rfl).1 dX10_tellsOdd_76 ?_
      refine q_bipush hx hb dX10_tellsOdd_79 rfl ?_
      refine lv_iload_n hx hb dX10_tellsOdd_81 rfl (lv_at hl 1 rfl) ?_
      first | refine q_imul hx hb dX10_tellsOdd_82 ⟨by omega, by omega⟩ (fun x_7 lx_7 ux_7 ex_7 => ?_) | refine q_imulw hx hb dX10_tellsOdd_82 (fun x_7 lx_7 ux_7 ex_7 => ?_)
      refine q_bipush hx hb dX10_tellsOdd_83 rfl ?_
      first | refine q_iadd hx hb dX10_tellsOdd_85 ⟨by omega, by omega⟩ (fun x_8 lx_8 ux_8 ex_8 => ?_) | refine q_iaddw hx hb dX10_tellsOdd_85 (fun x_8 lx_8 ux_8 ex_8 => ?_)
      refine q_iconst hx hb dX10_tellsOdd_86 ?_
      refine lv_iload hx hb dX10_tellsOdd_87 (lv_at hl 4 rfl) ?_
      first | refine q_imul hx hb dX10_tellsOdd_89 ⟨by omega, by omega⟩ (fun x_9 lx_9 ux_9 ex_9 => ?_) | refine q_imulw hx hb dX10_tellsOdd_89 (fun x_9 lx_9 ux_9 ex_9 => ?_)
      first | refine q_iadd hx hb dX10_tellsOdd_90 ⟨by omega, by omega⟩ (fun x_10 lx_10 ux_10 ex_10 => ?_) | refine q_iaddw hx hb dX10_tellsOdd_90 (fun x_10 lx_10 ux_10 ex_10 => ?_)
      refine q_iconst hx hb dX10_tellsOdd_91 ?_
      first | refine q_iadd hx hb dX10_tellsOdd_92 ⟨by omega, by omega⟩ (fun x_11 lx_11 ux_11 ex_11 => ?_) | refine q_iaddw hx hb dX10_tellsOdd_92 (fun x_11 lx_11 ux_11 ex_11 => ?_)
      refine lv_iload_n hx hb dX10_tellsOdd_93 rfl (lv_at hl 3 rfl) ?_
      refine q_iast hx hb hK hw (hs.2.2.1 4 rfl).2.1 1 (hs.2.2.1 4 rfl).2.2 rfl ⟨lx_11, ux_11⟩ (by omega) (by show _ < ((528 : Nat) : Int); omega) dX10_tellsOdd_94 (fun H locs hw => ?_)
      obtain ⟨f_12, ef_12⟩ : ∃ g : Nat → va_E, g = aU f_6 (ad 4) x_11 (iI x3) := ⟨_, rfl⟩
      have t5_f_12 : fI f_12 a0 5 = fI f_6 a0 5 := by rw [ef_12]; exact hs.fI_aU rfl _ _
      have hE := hE.trans (show Kp a0 ad [4] [] f_6 f_12 by rw [ef_12]; exact Kp_aU hs rfl (by decide))
      have hs_ := hs
      have hs : MS cy L0 f_12 a0 ad := by rw [ef_12]; exact MS_aU hs rfl
      rw [← ef_12] at hw
      have k94 : aI f_12 (ad 4) (44 * x1 + 13 + 2 * x_1) = x3 := (aI_cg (show 44 * x1 + 13 + 2 * x_1 = x_11 by omega)).trans (by rw [ef_12]; exact hs_.aI_self rfl ⟨by omega, by omega⟩)
      have n94 : ∀ x : Int, 0 ≤ x → x ≠ 44 * x1 + 13 + 2 * x_1 → aI f_12 (ad 4) x = aI f_6 (ad 4) x := fun x q0 q1 => by rw [ef_12]; exact hs_.aI_nj rfl (by omega) q0 (by omega)
      have m94 : aI f_12 (ad 4) (44 * x1 + 12 + 2 * x_1) = x2 := (n94 _ (by omega) (by omega)).trans k74
      refine q_iconst hx hb dX10_tellsOdd_95 ?_
      exact q_ret_z hx hb hr hlocks hK hAe hw (by omega) (Nat.le_of_ble_eq_true rfl) (Nat.le_of_ble_eq_true rfl) dX10_tellsOdd_96 (by first | exact ⟨rfl, hs, hE, hv.one (c := x1) (by omega) (fun x q0 q1 => (n94 x q0 (by omega)).trans (n74 x q0 (by omega))) (ro.setOdd (k := x_1) (key := x2) (t := x3) (by omega) (by omega) (oA (by omega)) (by omega) (by omega) m94 k94 (fun x q0 q1 q2 q3 => (n94 x (by omega) q3).trans (n74 x (by omega) q2))), Or.inr ⟨by omega, (om_set om (by omega) (by omega) (oA (by omega)) t1 m94 k94 (fun x q0 q1 q2 => (n94 x q0 q2).trans (n74 x q0 q1)) (by omega)).1, Or.inl ⟨(OdR.at om (by omega) (by omega) (oA (by omega))).2.1, (om_set om (by omega) (by omega) (oA (by omega)) t1 m94 k94 (fun x q0 q1 q2 => (n94 x q0 q2).trans (n74 x q0 q1)) (by omega)).2⟩, fun x q0 q1 => (n94 x q0 (by omega)).trans (n74 x q0 (by omega))⟩⟩ | exact ⟨rfl, hs, hE, hv.one (c := x1) (by omega) (fun x q0 q1 => (n94 x q0 (by omega)).trans ((n74 x q0 (by omega)).trans (n56 x q0 (by omega)))) (ro.addOdd (key := x2) (t := x3) (by omega) (oB (by omega)) (by omega) (by omega) (by omega) (by omega) ((n94 _ (by omega) (by omega)).trans ((n74 _ (by omega) (by omega)).trans k56)) (by rw [← e36]; exact m94) (by rw [← e36]; exact k94) (fun x q0 q1 q2 q3 q4 => (n94 x (by omega) (by omega)).trans ((n74 x (by omega) (by omega)).trans (n56 x (by omega) q2)))), Or.inr ⟨by omega, om_add om (by omega) (OdR.no om (oB (by omega))) t1 ((n94 _ (by omega) (by omega)).trans ((n74 _ (by omega) (by omega)).trans k56)) (by rw [← e36]; exact m94) (by rw [← e36]; exact k94) (fun x q0 q1 q2 q3 => (n94 x q0 (by rw [e36]; exact q3)).trans ((n74 x q0 (by rw [e36]; exact q2)).trans (n56 x q0 q1))) (by omega), Or.inr ⟨OdR.no om (oB (by omega)), by omega, ((n94 _ (by omega) (by omega)).trans ((n74 _ (by omega) (by omega)).trans k56))⟩, fun x q0 q1 => (n94 x q0 (by omega)).trans ((n74 x q0 (by omega)).trans (n56 x q0 (by omega)))⟩⟩ | fail "none")
    · refine lv_aload_n hx hb dX10_tellsOdd_32 rfl (lv_at hl 0 rfl) ?_
      refine lv_iload_n hx hb dX10_tellsOdd_33 rfl (lv_at hl 1 rfl) ?_
      refine q_bipush hx hb dX10_tellsOdd_34 rfl ?_
      refine q_call_i hA hK hw (va_runV (As := [.int (iI x1), .int (iI 11)]) (rest := []) ⟨hx, hb, hml, hown, hts⟩ (c_X10_get zo l D cy L0 f0 a0 x1 lx1 ux1 11 (by decide) (by decide) ad hs (by omega) (by omega) (by omega) (by omega) _) (cwV 2 hts (gT (inV (mr25 _ (List.mem_of_getElem? (i := 0) rfl)) (mr25 _ (List.mem_of_getElem? (i := 1) rfl)) (mr25 _ (List.mem_of_getElem? (i := 2) rfl)) (mr1 _ (List.mem_of_getElem? (i := 5) rfl)) (mr25 _ (List.mem_of_getElem? (i := 3) rfl)))) rfl rfl rfl (by decide +kernel) ⟨Nat.le_of_ble_eq_true rfl, Nat.le_of_ble_eq_true rfl⟩) (Wd.preV zo hA hZ hw hK hs.1 hs.2.1 rfl) rfl rfl hl.1 rfl (lv_room (Nat.le_of_ble_eq_true rfl)) dX10_tellsOdd_36 ⟨Nat.le_of_ble_eq_true rfl, Nat.le_of_ble_eq_true rfl⟩) (fun x_13 L1 f1 H locs lx_13 ux_13 ex_13 hw => ?_)
      obtain ⟨rfl, rfl, ex_13⟩ := ex_13
      have e36 : x_13 = aI f0 (ad 4) (44 * x1 + 11) := ex_13
      refine lv_istore (lv' := [(4, .int (iI x_13)), (0, .ref a0), (1, .int (iI x1)), (2, .int (iI x2)), (3, .int (iI x3))]) hx hb dX10_tellsOdd_39 hl (by decide) rfl (fun ls hl => ?_)
      refine lv_aload_n hx hb dX10_tellsOdd_41 rfl (lv_at hl 1 rfl) ?_
      refine q_getr (ci := 8) (C := RX10) (T := TX10) (N := 26) hx hb hts (fun w h => List.mem_cons_of_mem _ (mfX100 w h)) hown hK hw hs.1 hs.2.1 rfl 4 (by decide) (hts _ (List.mem_cons_of_mem _ (mr3 _ (List.mem_of_getElem? (i := 14) rfl)))) (fun _ h => h) rfl (hs.2.2.1 4 rfl).1 dX10_tellsOdd_42 ?_
      refine q_bipush hx hb dX10_tellsOdd_45 rfl ?_
      refine lv_iload_n hx hb dX10_tellsOdd_47 rfl (lv_at hl 2 rfl) ?_
      first | refine q_imul hx hb dX10_tellsOdd_48 ⟨by omega, by omega⟩ (fun x_14 lx_14 ux_14 ex_14 => ?_) | refine q_imulw hx hb dX10_tellsOdd_48 (fun x_14 lx_14 ux_14 ex_14 => ?_)
      refine q_bipush hx hb dX10_tellsOdd_49 rfl ?_
      first | refine q_iadd hx hb dX10_tellsOdd_51 ⟨by omega, by omega⟩ (fun x_15 lx_15 ux_15 ex_15 => ?_) | refine q_iaddw hx hb dX10_tellsOdd_51 (fun x_15 lx_15 ux_15 ex_15 => ?_)
      refine lv_dup2_11 hx hb dX10_tellsOdd_52 rfl rfl ?_
      refine q_iald hx hb hK hw (hs.2.2.1 4 rfl).2.1 1 (hs.2.2.1 4 rfl).2.2 rfl ⟨lx_15, ux_15⟩ (by omega) (by show _ < ((528 : Nat) : Int); omega) dX10_tellsOdd_53 (fun x_16 lx_16 ux_16 ex_16 => ?_)
      refine q_iconst hx hb dX10_tellsOdd_54 ?_
      first | refine q_iadd hx hb dX10_tellsOdd_55 ⟨by omega, by omega⟩ (fun x_17 lx_17 ux_17 ex_17 => ?_) | refine q_iaddw hx hb dX10_tellsOdd_55 (fun x_17 lx_17 ux_17 ex_17 => ?_)
      refine q_iast hx hb hK hw (hs.2.2.1 4 rfl).2.1 1 (hs.2.2.1 4 rfl).2.2 rfl ⟨lx_15, ux_15⟩ (by omega) (by show _ < ((528 : Nat) : Int); omega) dX10_tellsOdd_56 (fun H locs hw => ?_)
      obtain ⟨f_18, ef_18⟩ : ∃ g : Nat → va_E, g = aU f0 (ad 4) x_15 (iI x_17) := ⟨_, rfl⟩
      have t5_f_18 : fI f_18 a0 5 = fI f0 a0 5 := by rw [ef_18]; exact hs.fI_aU rfl _ _
      have hE := hE.trans (show Kp a0 ad [4] [] f0 f_18 by rw [ef_18]; exact Kp_aU hs rfl (by decide))
      have hs_ := hs
      have hs : MS cy L0 f_18 a0 ad := by rw [ef_18]; exact MS_aU hs rfl
      rw [← ef_18] at hw
      have ga : aI f0 (ad 4) x_15 = aI f0 (ad 4) (44 * x1 + 11) := aI_cg (by omega)
      have k56 : aI f_18 (ad 4) (44 * x1 + 11) = aI f0 (ad 4) (44 * x1 + 11) + 1 := (aI_cg (show 44 * x1 + 11 = x_15 by omega)).trans (Eq.trans (by rw [ef_18]; exact hs_.aI_self rfl ⟨by omega, by omega⟩) (show x_17 = aI f0 (ad 4) (44 * x1 + 11) + 1 by omega))
      have n56 : ∀ x : Int, 0 ≤ x → x ≠ 44 * x1 + 11 → aI f_18 (ad 4) x = aI f0 (ad 4) x := fun x q0 q1 => by rw [ef_18]; exact hs_.aI_nj rfl (by omega) q0 (by omega)
      refine lv_aload_n hx hb dX10_tellsOdd_57 rfl (lv_at hl 1 rfl) ?_
      refine q_getr (ci := 8) (C := RX10) (T := TX10) (N := 26) hx hb hts (fun w h => List.mem_cons_of_mem _ (mfX100 w h)) hown hK hw hs.1 hs.2.1 rfl 4 (by decide) (hts _ (List.mem_cons_of_mem _ (mr3 _ (List.mem_of_getElem? (i := 14) rfl)))) (fun _ h => h) rfl (hs.2.2.1 4 rfl).1 dX10_tellsOdd_58 ?_
      refine q_bipush hx hb dX10_tellsOdd_61 rfl ?_
      refine lv_iload_n hx hb dX10_tellsOdd_63 rfl (lv_at hl 2 rfl) ?_
      first | refine q_imul hx hb dX10_tellsOdd_64 ⟨by omega, by omega⟩ (fun x_19 lx_19 ux_19 ex_19 => ?_) | refine q_imulw hx hb dX10_tellsOdd_64 (fun x_19 lx_19 ux_19 ex_19 => ?_)
      refine q_bipush hx hb dX10_tellsOdd_65 rfl ?_
      first | refine q_iadd hx hb dX10_tellsOdd_67 ⟨by omega, by omega⟩ (fun x_20 lx_20 ux_20 ex_20 => ?_) | refine q_iaddw hx hb dX10_tellsOdd_67 (fun x_20 lx_20 ux_20 ex_20 => ?_)
      refine q_iconst hx hb dX10_tellsOdd_68 ?_
      refine lv_iload hx hb dX10_tellsOdd_69 (lv_at hl 0 rfl) ?_
      first | refine q_imul hx hb dX10_tellsOdd_71 ⟨by omega, by omega⟩ (fun x_21 lx_21 ux_21 ex_21 => ?_) | refine q_imulw hx hb dX10_tellsOdd_71 (fun x_21 lx_21 ux_21 ex_21 => ?_)
      first | refine q_iadd hx hb dX10_tellsOdd_72 ⟨by omega, by omega⟩ (fun x_22 lx_22 ux_22 ex_22 => ?_) | refine q_iaddw hx hb dX10_tellsOdd_72 (fun x_22 lx_22 ux_22 ex_22 => ?_)
      refine lv_iload_n hx hb dX10_tellsOdd_73 rfl (lv_at hl 3 rfl) ?_
      refine q_iast hx hb hK hw (hs.2.2.1 4 rfl).2.1 1 (hs.2.2.1 4 rfl).2.2 rfl ⟨lx_22, ux_22⟩ (by omega) (by show _ < ((528 : Nat) : Int); omega) dX10_tellsOdd_74 (fun H locs hw => ?_)
      obtain ⟨f_23, ef_23⟩ : ∃ g : Nat → va_E, g = aU f_18 (ad 4) x_22 (iI x2) := ⟨_, rfl⟩
      have t5_f_23 : fI f_23 a0 5 = fI f_18 a0 5 := by rw [ef_23]; exact hs.fI_aU rfl _ _
      have hE := hE.trans (show Kp a0 ad [4] [] f_18 f_23 by rw [ef_23]; exact Kp_aU hs rfl (by decide))
      have hs_ := hs
      have hs : MS cy L0 f_23 a0 ad := by rw [ef_23]; exact MS_aU hs rfl
      rw [← ef_23] at hw
      have k74 : aI f_23 (ad 4) (44 * x1 + 12 + 2 * x_13) = x2 := (aI_cg (show 44 * x1 + 12 + 2 * x_13 = x_22 by omega)).trans (by rw [ef_23]; exact hs_.aI_self rfl ⟨by omega, by omega⟩)
      have n74 : ∀ x : Int, 0 ≤ x → x ≠ 44 * x1 + 12 + 2 * x_13 → aI f_23 (ad 4) x = aI f_18 (ad 4) x := fun x q0 q1 => by rw [ef_23]; exact hs_.aI_nj rfl (by omega) q0 (by omega)
      refine lv_aload_n hx hb dX10_tellsOdd_75 rfl (lv_at hl 1 rfl) ?_
      refine q_getr (ci := 8) (C := RX10) (T := TX10) (N := 26) hx hb hts (fun w h => List.mem_cons_of_mem _ (mfX100 w h)) hown hK hw hs.1 hs.2.1 rfl 4 (by decide) (hts _ (List.mem_cons_of_mem _ (mr3 _ (List.mem_of_getElem? (i := 14) rfl)))) (fun _ h => h) rfl (hs.2.2.1 4 rfl).1 dX10_tellsOdd_76 ?_
      refine q_bipush hx hb dX10_tellsOdd_79 rfl ?_
      refine lv_iload_n hx hb dX10_tellsOdd_81 rfl (lv_at hl 2 rfl) ?_
      first | refine q_imul hx hb dX10_tellsOdd_82 ⟨by omega, by omega⟩ (fun x_24 lx_24 ux_24 ex_24 => ?_) | refine q_imulw hx hb dX10_tellsOdd_82 (fun x_24 lx_24 ux_24 ex_24 => ?_)
      refine q_bipush hx hb dX10_tellsOdd_83 rfl ?_
      first | refine q_iadd hx hb dX10_tellsOdd_85 ⟨by omega, by omega⟩ (fun x_25 lx_25 ux_25 ex_25 => ?_) | refine q_iaddw hx hb dX10_tellsOdd_85 (fun x_25 lx_25 ux_25 ex_25 => ?_)
      refine q_iconst hx hb dX10_tellsOdd_86 ?_
      refine lv_iload hx hb dX10_tellsOdd_87 (lv_at hl 0 rfl) ?_
      first | refine q_imul hx hb dX10_tellsOdd_89 ⟨by omega, by omega⟩ (fun x_26 lx_26 ux_26 ex_26 => ?_) | refine q_imulw hx hb dX10_tellsOdd_89 (fun x_26 lx_26 ux_26 ex_26 => ?_)
      first | refine q_iadd hx hb dX10_tellsOdd_90 ⟨by omega, by omega⟩ (fun x_27 lx_27 ux_27 ex_27 => ?_) | refine q_iaddw hx hb dX10_tellsOdd_90 (fun x_27 lx_27 ux_27 ex_27 => ?_)
      refine q_iconst hx hb dX10_tellsOdd_91 ?_
      first | refine q_iadd hx hb dX10_tellsOdd_92 ⟨by omega, by omega⟩ (fun x_28 lx_28 ux_28 ex_28 => ?_) | refine q_iaddw hx hb dX10_tellsOdd_92 (fun x_28 lx_28 ux_28 ex_28 => ?_)
      refine lv_iload_n hx hb dX10_tellsOdd_93 rfl (lv_at hl 4 rfl) ?_
      refine q_iast hx hb hK hw (hs.2.2.1 4 rfl).2.1 1 (hs.2.2.1 4 rfl).2.2 rfl ⟨lx_28, ux_28⟩ (by omega) (by show _ < ((528 : Nat) : Int); omega) dX10_tellsOdd_94 (fun H locs hw => ?_)
      obtain ⟨f_29, ef_29⟩ : ∃ g : Nat → va_E, g = aU f_23 (ad 4) x_28 (iI x3) := ⟨_, rfl⟩
      have t5_f_29 : fI f_29 a0 5 = fI f_23 a0 5 := by rw [ef_29]; exact hs.fI_aU rfl _ _
      have hE := hE.trans (show Kp a0 ad [4] [] f_23 f_29 by rw [ef_29]; exact Kp_aU hs rfl (by decide))
      have hs_ := hs
      have hs : MS cy L0 f_29 a0 ad := by rw [ef_29]; exact MS_aU hs rfl
      rw [← ef_29] at hw
      have k94 : aI f_29 (ad 4) (44 * x1 + 13 + 2 * x_13) = x3 := (aI_cg (show 44 * x1 + 13 + 2 * x_13 = x_28 by omega)).trans (by rw [ef_29]; exact hs_.aI_self rfl ⟨by omega, by omega⟩)
      have n94 : ∀ x : Int, 0 ≤ x → x ≠ 44 * x1 + 13 + 2 * x_13 → aI f_29 (ad 4) x = aI f_23 (ad 4) x := fun x q0 q1 => by rw [ef_29]; exact hs_.aI_nj rfl (by omega) q0 (by omega)
      have m94 : aI f_29 (ad 4) (44 * x1 + 12 + 2 * x_13) = x2 := (n94 _ (by omega) (by omega)).trans k74
      refine q_iconst hx hb dX10_tellsOdd_95 ?_
      exact q_ret_z hx hb hr hlocks hK hAe hw (by omega) (Nat.le_of_ble_eq_true rfl) (Nat.le_of_ble_eq_true rfl) dX10_tellsOdd_96 (by first | exact ⟨rfl, hs, hE, hv.one (c := x1) (by omega) (fun x q0 q1 => (n94 x q0 (by omega)).trans (n74 x q0 (by omega))) (ro.setOdd (k := x_13) (key := x2) (t := x3) (by omega) (by omega) (oA (by omega)) (by omega) (by omega) m94 k94 (fun x q0 q1 q2 q3 => (n94 x (by omega) q3).trans (n74 x (by omega) q2))), Or.inr ⟨by omega, (om_set om (by omega) (by omega) (oA (by omega)) t1 m94 k94 (fun x q0 q1 q2 => (n94 x q0 q2).trans (n74 x q0 q1)) (by omega)).1, Or.inl ⟨(OdR.at om (by omega) (by omega) (oA (by omega))).2.1, (om_set om (by omega) (by omega) (oA (by omega)) t1 m94 k94 (fun x q0 q1 q2 => (n94 x q0 q2).trans (n74 x q0 q1)) (by omega)).2⟩, fun x q0 q1 => (n94 x q0 (by omega)).trans (n74 x q0 (by omega))⟩⟩ | exact ⟨rfl, hs, hE, hv.one (c := x1) (by omega) (fun x q0 q1 => (n94 x q0 (by omega)).trans ((n74 x q0 (by omega)).trans (n56 x q0 (by omega)))) (ro.addOdd (key := x2) (t := x3) (by omega) (oB (by omega)) (by omega) (by omega) (by omega) (by omega) ((n94 _ (by omega) (by omega)).trans ((n74 _ (by omega) (by omega)).trans k56)) (by rw [← e36]; exact m94) (by rw [← e36]; exact k94) (fun x q0 q1 q2 q3 q4 => (n94 x (by omega) (by omega)).trans ((n74 x (by omega) (by omega)).trans (n56 x (by omega) q2)))), Or.inr ⟨by omega, om_add om (by omega) (OdR.no om (oB (by omega))) t1 ((n94 _ (by omega) (by omega)).trans ((n74 _ (by omega) (by omega)).trans k56)) (by rw [← e36]; exact m94) (by rw [← e36]; exact k94) (fun x q0 q1 q2 q3 => (n94 x q0 (by rw [e36]; exact q3)).trans ((n74 x q0 (by rw [e36]; exact q2)).trans (n56 x q0 q1))) (by omega), Or.inr ⟨OdR.no om (oB (by omega)), by omega, ((n94 _ (by omega) (by omega)).trans ((n74 _ (by omega) (by omega)).trans k56))⟩, fun x q0 q1 => (n94 x q0 (by omega)).trans ((n74 x q0 (by omega)).trans (n56 x q0 (by omega)))⟩⟩ | fail "none")
  refine q_if_ge (tgt := 27) hx hb dX10_tellsOdd_10 (by decide) ⟨lx_1, ux_1⟩ (fun c10 => ?_) (fun c10 => ?_)
  · exact J27 (by omega) _ _ _ hw (lv_sub hl [1, 2, 3, 4, 0] rfl)
  · refine lv_aload_n hx hb dX10_tellsOdd_13 rfl (lv_at hl 1 rfl) ?_
    refine lv_iload_n hx hb dX10_tellsOdd_14 rfl (lv_at hl 2 rfl) ?_
    refine q_bipush hx hb dX10_tellsOdd_15 rfl ?_
    refine q_call_i hA hK hw (va_runV (As := [.int (iI x1), .int (iI 11)]) (rest := []) ⟨hx, hb, hml, hown, hts⟩ (c_X10_get zo l D cy L0 f0 a0 x1 lx1 ux1 11 (by decide) (by decide) ad hs (by omega) (by omega) (by omega) (by omega) _) (cwV 2 hts (gT (inV (mr25 _ (List.mem_of_getElem? (i := 0) rfl)) (mr25 _ (List.mem_of_getElem? (i := 1) rfl)) (mr25 _ (List.mem_of_getElem? (i := 2) rfl)) (mr1 _ (List.mem_of_getElem? (i := 5) rfl)) (mr25 _ (List.mem_of_getElem? (i := 3) rfl)))) rfl rfl rfl (by decide +kernel) ⟨Nat.le_of_ble_eq_true rfl, Nat.le_of_ble_eq_true rfl⟩) (Wd.preV zo hA hZ hw hK hs.1 hs.2.1 rfl) rfl rfl hl.1 rfl (lv_room (Nat.le_of_ble_eq_true rfl)) dX10_tellsOdd_17 ⟨Nat.le_of_ble_eq_true rfl, Nat.le_of_ble_eq_true rfl⟩) (fun x_30 L1 f1 H locs lx_30 ux_30 ex_30 hw => ?_)
    obtain ⟨rfl, rfl, ex_30⟩ := ex_30
    refine q_bipush hx hb dX10_tellsOdd_20 rfl ?_
    refine q_icmp_ne (tgt := 27) hx hb dX10_tellsOdd_22 (by decide) ⟨lx_30, ux_30⟩ ⟨by decide, by decide⟩ (fun c22 => ?_) (fun c22 => ?_)
    · exact J27 (by omega) _ _ _ hw (lv_sub hl [1, 2, 3, 4, 0] rfl)
    · refine q_iconst hx hb dX10_tellsOdd_25 ?_
      exact q_ret_z hx hb hr hlocks hK hAe hw (by omega) (Nat.le_of_ble_eq_true rfl) (Nat.le_of_ble_eq_true rfl) dX10_tellsOdd_26 (by exact ⟨rfl, hs, hE, hv, Or.inl ⟨by omega, OdR.no om (oB (by omega)), by omega, fun _ => rfl⟩⟩)
set_option maxHeartbeats 4000000 in
set_option maxRecDepth 100000 in
theorem c_X10_drop_o {Z : Zt} (zo : Zok Z) (l : Launch) (D : va_G) (cy : Cy) (L0 : List Nat) (f0 : Nat → va_E) (a0 : Nat) (x1 : Int) (lx1 : -2147483648 ≤ x1) (ux1 : x1 ≤ 2147483647) (x2 : Int) (lx2 : -2147483648 ≤ x2) (ux2 : x2 ≤ 2147483647) (ad : Nat → Nat) (hs : MS cy L0 f0 a0 ad) (hv : MV f0 a0 ad) (hd : DT f0 ad 36525) (mo : MOk f0 a0 ad) (O : Int → Int) (om : (0 ≤ x1 ∧ x1 < fI f0 a0 5) → OM (aI f0 (ad 4)) (44 * x1) O) : Ci Z l yX10_drop (Cond.code yX10_drop cX10_drop 4 (some .boolean) :: TB) ({ frames := 4, cells := 0, slots := 0, locals := 98 } : Room) 0 0 D (tq cy) [.ref a0, .int (iI x1), .int (iI x2)] L0 f0 (fun (r : Int) (L1 : List Nat) (f1 : Nat → va_E) => L0 = L1 ∧ MS cy L0 f1 a0 ad ∧ Kp a0 ad [4, 12, 13] [10] f0 f1 ∧ (MV f1 a0 ad ∧ ((r = 0 ∧ (¬ (0 ≤ x1 ∧ x1 < fI f0 a0 5) ∨ ¬ (0 ≤ x2 ∧ x2 ≤ 36524 ∧ KG (aI f0 (ad 4)) (44 * x1) x2) ∨ O x2 = -1 ∨ (O x2 = -2 ∧ 16 ≤ aI f0 (ad 4) (44 * x1 + 11))) ∧ (∀ x : Int, aI f1 (ad 4) x = aI f0 (ad 4) x)) ∨ (r = 1 ∧ (0 ≤ x1 ∧ x1 < fI f0 a0 5) ∧ (0 ≤ x2 ∧ x2 ≤ 36524 ∧ KG (aI f0 (ad 4)) (44 * x1) x2) ∧ O x2 ≠ -1 ∧ OM (aI f1 (ad 4)) (44 * x1) (upO O x2 (-1)) ∧ ((O x2 ≠ -2 ∧ aI f1 (ad 4) (44 * x1 + 11) = aI f0 (ad 4) (44 * x1 + 11)) ∨ (O x2 = -2 ∧ aI f0 (ad 4) (44 * x1 + 11) < 16 ∧ aI f1 (ad 4) (44 * x1 + 11) = aI f0 (ad 4) (44 * x1 + 11) + 1)) ∧ (∀ x : Int, 0 ≤ x → (x < 44 * x1 + 11 ∨ 44 * x1 + 43 < x) → aI f1 (ad 4) x = aI f0 (ad 4) x))))) := by
  refine Ci.enter (cc := cX10_drop) (n := 4) rfl (plainFor_of_name (by decide)) (Nat.le_of_ble_eq_true rfl) ?_
  intro p e s m below meth c ls A hx hb hr hts hown hlocks hnm hml hK hA hAe hw hZ hl
  have hown : s.vm.findClass RX10 = some m.cls := hown
  have hl : lv_has ls 4 [(0, .ref a0), (1, .int (iI x1)), (2, .int (iI x2))] := hl
  have hN : ZN s := (zo.2.2.2.2 _ _ _ hZ).2
  have hE : Kp a0 ad [4, 12, 13] [10] f0 f0 := Kp.refl _ _ _ _ _
  have m5 := hv.1
  have m6 := hv.2.1
  refine lv_aload_n hx hb dX10_drop_0 rfl (lv_at hl 0 rfl) ?_
  refine q_iconst hx hb dX10_drop_1 ?_
  refine q_puti (ci := 8) (C := RX10) (T := TX10) (N := 26) hx hb hts (fun w h => List.mem_cons_of_mem _ (mfX100 w h)) hown hK hw hs.1 hs.2.1 rfl 10 (by decide) (hts _ (List.mem_cons_of_mem _ (mr4 _ (List.mem_of_getElem? (i := 19) rfl)))) (fun _ h => h) tyX10 tyX10_ok nmX10 rfl (ty := .int) (by decide +kernel) rfl rfl dX10_drop_2 (fun H locs hw => ?_)
  obtain ⟨f_1, ef_1⟩ : ∃ g : Nat → va_E, g = pU f0 a0 10 (.int (iI 0)) := ⟨_, rfl⟩
  have v10_f_1 : fI f_1 a0 10 = 0 := by rw [ef_1]; exact fI_pU_self hs.2.1 rfl ⟨by decide, by decide⟩
  have t5_f_1 : fI f_1 a0 5 = fI f0 a0 5 := by rw [ef_1]; exact fI_pU (Or.inr (by decide))
  have hE := hE.trans (show Kp a0 ad [4, 12, 13] [10] f0 f_1 by rw [ef_1]; exact Kp_pU hs (by decide))
  have hs_ := hs
  have hs : MS cy L0 f_1 a0 ad := by rw [ef_1]; exact MS_pU hs rfl
  rw [← ef_1] at hw
  have hv1 : MV f_1 a0 ad := hv.kp (show Kp a0 ad [] [10] f0 f_1 by rw [ef_1]; exact Kp_pU hs_ (by decide)) (by decide) (by decide)
  have Q4a : aI f_1 (ad 4) = aI f0 (ad 4) := funext fun x => by rw [ef_1]; exact hs_.aI_pU _ x
  have mo1 : MOk f_1 a0 ad := mo.kp (show Kp a0 ad [] [10] f0 f_1 by rw [ef_1]; exact Kp_pU hs_ (by decide)) (by decide) (by decide)
  refine lv_aload_n hx hb dX10_drop_5 rfl (lv_at hl 0 rfl) ?_
  refine lv_iload_n hx hb dX10_drop_6 rfl (lv_at hl 1 rfl) ?_
  refine lv_iload_n hx hb dX10_drop_7 rfl (lv_at hl 2 rfl) ?_
  refine q_call_i hA hK hw (va_runV (As := [.int (iI x1), .int (iI x2)]) (rest := []) ⟨hx, hb, hml, hown, hts⟩ (c_X10_isKey_f zo l D cy L0 f_1 a0 x1 lx1 ux1 x2 lx2 ux2 ad hs hv1 (by first | exact hd | exact hd.kp hE (by decide) (by decide) (by decide) (by decide)) mo1 _) (cwV 2 hts (gT (inV (mr27 _ (List.mem_of_getElem? (i := 3) rfl)) (mr27 _ (List.mem_of_getElem? (i := 4) rfl)) (mr27 _ (List.mem_of_getElem? (i := 5) rfl)) (mr1 _ (List.mem_of_getElem? (i := 5) rfl)) (mr27 _ (List.mem_of_getElem? (i := 6) rfl)))) rfl rfl rfl (by decide +kernel) ⟨Nat.le_of_ble_eq_true rfl, Nat.le_of_ble_eq_true rfl⟩) (Wd.preV zo hA hZ hw hK hs.1 hs.2.1 rfl) rfl rfl hl.1 rfl (lv_room (Nat.le_of_ble_eq_true rfl)) dX10_drop_8 ⟨Nat.le_of_ble_eq_true rfl, Nat.le_of_ble_eq_true rfl⟩) (fun x_2 L1 f_3 H locs lx_2 ux_2 ex_2 hw => ?_)
  obtain ⟨rfl, hs, hX, ex_2⟩ := ex_2
  have hE := hE.trans (hX.mono (rs' := [4, 12, 13]) (fs' := [10]) (by decide) (by decide))
  have t5_f_3 : fI f_3 a0 5 = fI f_1 a0 5 := hX.2 5 (by decide)
  have h8 := ex_2
  rw [Q4a, show fI f_1 a0 5 = fI f0 a0 5 by omega] at h8
  have hv2 : MV f_3 a0 ad := hv1.kp hX (by decide) (by decide)
  have Q4b : aI f_3 (ad 4) = aI f0 (ad 4) := funext fun x => (hX.1 4 rfl (by decide) x).trans (congrFun Q4a x)
  refine q_if_ne (tgt := 16) hx hb dX10_drop_11 (by decide) ⟨lx_2, ux_2⟩ (fun c11 => ?_) (fun c11 => ?_)
  · have k8 := ik_yes h8 (by omega)
    have k8a := k8.1
    have k8b := k8.2.1
    have k8c := k8.2.2.1
    have k8d := k8.2.2.2.1
    have kd := k8.2.2.2.2
    have kd1 := kd.1
    have kd2 := kd.2.1
    have rv := hv2.row x1 (by omega) (by omega)
    have rv0 := hv.row x1 (by omega) (by omega)
    have okg : KG (aI f0 (ad 4)) (44 * x1) x2 := by rw [kg_ref (by omega)]; exact kd
    have om0 := om ⟨by omega, by omega⟩
    refine lv_aload_n hx hb dX10_drop_16 rfl (lv_at hl 0 rfl) ?_
    refine lv_iload_n hx hb dX10_drop_17 rfl (lv_at hl 1 rfl) ?_
    refine lv_iload_n hx hb dX10_drop_18 rfl (lv_at hl 2 rfl) ?_
    refine q_call_i hA hK hw (va_runV (As := [.int (iI x1), .int (iI x2)]) (rest := []) ⟨hx, hb, hml, hown, hts⟩ (c_X10_oddOf_2 zo l D cy L0 f_3 a0 x1 lx1 ux1 x2 lx2 ux2 ad hs (by omega) (by omega) (by omega) (by omega) _) (cwV 2 hts (gT (inV (mr27 _ (List.mem_of_getElem? (i := 7) rfl)) (mr27 _ (List.mem_of_getElem? (i := 8) rfl)) (mr27 _ (List.mem_of_getElem? (i := 9) rfl)) (mr1 _ (List.mem_of_getElem? (i := 5) rfl)) (mr27 _ (List.mem_of_getElem? (i := 10) rfl)))) rfl rfl rfl (by decide +kernel) ⟨Nat.le_of_ble_eq_true rfl, Nat.le_of_ble_eq_true rfl⟩) (Wd.preV zo hA hZ hw hK hs.1 hs.2.1 rfl) rfl rfl hl.1 rfl (lv_room (Nat.le_of_ble_eq_true rfl)) dX10_drop_19 ⟨Nat.le_of_ble_eq_true rfl, Nat.le_of_ble_eq_true rfl⟩) (fun x_4 L1 f1 H locs lx_4 ux_4 ex_4 hw => ?_)
    obtain ⟨rfl, rfl, ex_4⟩ := ex_4
    have om2 : OM (aI f_3 (ad 4)) (44 * x1) O := by rw [Q4b]; exact om0
    have oR : -1 ≤ x_4 ∧ x_4 < aI f_3 (ad 4) (44 * x1 + 11) := by rcases ex_4 with h | h <;> omega
    have oA : 0 ≤ x_4 → aI f_3 (ad 4) (44 * x1 + 12 + 2 * x_4) = x2 := fun q => ex_4.elim (fun h => absurd h.1 (by omega)) (fun h => h.2.2)
    have oB : x_4 < 0 → ∀ i : Int, 0 ≤ i → i < aI f_3 (ad 4) (44 * x1 + 11) → aI f_3 (ad 4) (44 * x1 + 12 + 2 * i) ≠ x2 := fun q => ex_4.elim (fun h => h.2) (fun h => absurd h.1 (by omega))
    clear ex_4
    refine lv_istore_n (lv' := [(3, .int (iI x_4)), (0, .ref a0), (1, .int (iI x1)), (2, .int (iI x2))]) hx hb dX10_drop_22 rfl hl (by decide) rfl (fun ls hl => ?_)
    refine lv_iload_n hx hb dX10_drop_23 rfl (lv_at hl 0 rfl) ?_
    refine q_if_lt (tgt := 45) hx hb dX10_drop_24 (by decide) ⟨lx_4, ux_4⟩ (fun c24 => ?_) (fun c24 => ?_)
    · refine lv_aload_n hx hb dX10_drop_45 rfl (lv_at hl 1 rfl) ?_
      refine lv_iload_n hx hb dX10_drop_46 rfl (lv_at hl 2 rfl) ?_
      refine lv_iload_n hx hb dX10_drop_47 rfl (lv_at hl 3 rfl) ?_
      refine q_iconst hx hb dX10_drop_48 ?_
      refine q_call_i hA hK hw (va_runV (As := [.int (iI x1), .int (iI x2), .int (iI ((-1)))]) (rest := []) ⟨hx, hb, hml, hown, hts⟩ (c_X10_tellsOdd_o zo l D cy L0 f_3 a0 x1 lx1 ux1 x2 lx2 ux2 ((-1)) (by decide) (by decide) ad hs hv2 (by omega) (by omega) (by rw [Q4b]; exact kd1) (by rw [Q4b]; exact kd2) (by omega) (by omega) O (by rw [Q4b]; exact om0) _) (cwV 3 hts (gT (inV (mr27 _ (List.mem_of_getElem? (i := 11) rfl)) (mr27 _ (List.mem_of_getElem? (i := 12) rfl)) (mr27 _ (List.mem_of_getElem? (i := 13) rfl)) (mr1 _ (List.mem_of_getElem? (i := 5) rfl)) (mr27 _ (List.mem_of_getElem? (i := 14) rfl)))) rfl rfl rfl (by decide +kernel) ⟨Nat.le_of_ble_eq_true rfl, Nat.le_of_ble_eq_true rfl⟩) (Wd.preV zo hA hZ hw hK hs.1 hs.2.1 rfl) rfl rfl hl.1 rfl (lv_room (Nat.le_of_ble_eq_true rfl)) dX10_drop_49 ⟨Nat.le_of_ble_eq_true rfl, Nat.le_of_ble_eq_true rfl⟩) (fun x_5 L1 f_6 H locs lx_5 ux_5 ex_5 hw => ?_)
      obtain ⟨rfl, hs, hX, ex_5⟩ := ex_5
      have hE := hE.trans (hX.mono (rs' := [4, 12, 13]) (fs' := [10]) (by decide) (by decide))
      have t5_f_6 : fI f_6 a0 5 = fI f_3 a0 5 := hX.2 5 (by decide)
      have et := ex_5
      rw [Q4b] at et
      exact q_ret_z hx hb hr hlocks hK hAe hw (by omega) (Nat.le_of_ble_eq_true rfl) (Nat.le_of_ble_eq_true rfl) dX10_drop_52 (by first | exact ⟨rfl, hs, hE, et.1, et.2.elim (fun z => Or.inl ⟨z.1, Or.inr (Or.inr (Or.inr ⟨z.2.1, z.2.2.1⟩)), z.2.2.2⟩) (fun z => Or.inr ⟨z.1, ⟨by omega, by omega⟩, ⟨by omega, by omega, okg⟩, by omega, z.2⟩)⟩ | exact ⟨rfl, hs, hE, et.1, et.2.elim (fun z => Or.inl ⟨z.1, Or.inr (Or.inr (Or.inr ⟨z.2.1, z.2.2.1⟩)), z.2.2.2⟩) (fun z => Or.inr ⟨z.1, ⟨by omega, by omega⟩, ⟨by omega, by omega, okg⟩, by have := om_no om2 (oB (by omega)); omega, z.2⟩)⟩ | fail "none")
    · refine lv_aload_n hx hb dX10_drop_27 rfl (lv_at hl 1 rfl) ?_
      refine lv_iload_n hx hb dX10_drop_28 rfl (lv_at hl 2 rfl) ?_
      refine q_bipush hx hb dX10_drop_29 rfl ?_
      refine q_iconst hx hb dX10_drop_31 ?_
      refine lv_iload_n hx hb dX10_drop_32 rfl (lv_at hl 0 rfl) ?_
      first | refine q_imul hx hb dX10_drop_33 ⟨by omega, by omega⟩ (fun x_7 lx_7 ux_7 ex_7 => ?_) | refine q_imulw hx hb dX10_drop_33 (fun x_7 lx_7 ux_7 ex_7 => ?_)
      first | refine q_iadd hx hb dX10_drop_34 ⟨by omega, by omega⟩ (fun x_8 lx_8 ux_8 ex_8 => ?_) | refine q_iaddw hx hb dX10_drop_34 (fun x_8 lx_8 ux_8 ex_8 => ?_)
      refine q_iconst hx hb dX10_drop_35 ?_
      first | refine q_iadd hx hb dX10_drop_36 ⟨by omega, by omega⟩ (fun x_9 lx_9 ux_9 ex_9 => ?_) | refine q_iaddw hx hb dX10_drop_36 (fun x_9 lx_9 ux_9 ex_9 => ?_)
      refine q_call_i hA hK hw (va_runV (As := [.int (iI x1), .int (iI x_9)]) (rest := []) ⟨hx, hb, hml, hown, hts⟩ (c_X10_get zo l D cy L0 f_3 a0 x1 lx1 ux1 x_9 lx_9 ux_9 ad hs (by omega) (by omega) (by omega) (by omega) _) (cwV 2 hts (gT (inV (mr25 _ (List.mem_of_getElem? (i := 0) rfl)) (mr25 _ (List.mem_of_getElem? (i := 1) rfl)) (mr25 _ (List.mem_of_getElem? (i := 2) rfl)) (mr1 _ (List.mem_of_getElem? (i := 5) rfl)) (mr25 _ (List.mem_of_getElem? (i := 3) rfl)))) rfl rfl rfl (by decide +kernel) ⟨Nat.le_of_ble_eq_true rfl, Nat.le_of_ble_eq_true rfl⟩) (Wd.preV zo hA hZ hw hK hs.1 hs.2.1 rfl) rfl rfl hl.1 rfl (lv_room (Nat.le_of_ble_eq_true rfl)) dX10_drop_37 ⟨Nat.le_of_ble_eq_true rfl, Nat.le_of_ble_eq_true rfl⟩) (fun x_10 L1 f1 H locs lx_10 ux_10 ex_10 hw => ?_)
      obtain ⟨rfl, rfl, ex_10⟩ := ex_10
      have h37 : x_10 = aI f_3 (ad 4) (44 * x1 + 13 + 2 * x_4) := ex_10.trans (aI_cg (by omega))
      have o37 : aI f_3 (ad 4) (44 * x1 + 13 + 2 * x_4) = O x2 ∧ O x2 ≠ -2 ∧ -1 ≤ O x2 := om_at om2 (by omega) (by omega) (oA (by omega))
      refine q_if_ge (tgt := 45) hx hb dX10_drop_40 (by decide) ⟨lx_10, ux_10⟩ (fun c40 => ?_) (fun c40 => ?_)
      · refine lv_aload_n hx hb dX10_drop_45 rfl (lv_at hl 1 rfl) ?_
        refine lv_iload_n hx hb dX10_drop_46 rfl (lv_at hl 2 rfl) ?_
        refine lv_iload_n hx hb dX10_drop_47 rfl (lv_at hl 3 rfl) ?_
        refine q_iconst hx hb dX10_drop_48 ?_
        refine q_call_i hA hK hw (va_runV (As := [.int (iI x1), .int (iI x2), .int (iI ((-1)))]) (rest := []) ⟨hx, hb, hml, hown, hts⟩ (c_X10_tellsOdd_o zo l D cy L0 f_3 a0 x1 lx1 ux1 x2 lx2 ux2 ((-1)) (by decide) (by decide) ad hs hv2 (by omega) (by omega) (by rw [Q4b]; exact kd1) (by rw [Q4b]; exact kd2) (by omega) (by omega) O (by rw [Q4b]; exact om0) _) (cwV 3 hts (gT (inV (mr27 _ (List.mem_of_getElem? (i := 11) rfl)) (mr27 _ (List.mem_of_getElem? (i := 12) rfl)) (mr27 _ (List.mem_of_getElem? (i := 13) rfl)) (mr1 _ (List.mem_of_getElem? (i := 5) rfl)) (mr27 _ (List.mem_of_getElem? (i := 14) rfl)))) rfl rfl rfl (by decide +kernel) ⟨Nat.le_of_ble_eq_true rfl, Nat.le_of_ble_eq_true rfl⟩) (Wd.preV zo hA hZ hw hK hs.1 hs.2.1 rfl) rfl rfl hl.1 rfl (lv_room (Nat.le_of_ble_eq_true rfl)) dX10_drop_49 ⟨Nat.le_of_ble_eq_true rfl, Nat.le_of_ble_eq_true rfl⟩) (fun x_11 L1 f_12 H locs lx_11 ux_11 ex_11 hw => ?_)
        obtain ⟨rfl, hs, hX, ex_11⟩ := ex_11
        have hE := hE.trans (hX.mono (rs' := [4, 12, 13]) (fs' := [10]) (by decide) (by decide))
        have t5_f_12 : fI f_12 a0 5 = fI f_3 a0 5 := hX.2 5 (by decide)
        have et := ex_11
        rw [Q4b] at et
        exact q_ret_z hx hb hr hlocks hK hAe hw (by omega) (Nat.le_of_ble_eq_true rfl) (Nat.le_of_ble_eq_true rfl) dX10_drop_52 (by first | exact ⟨rfl, hs, hE, et.1, et.2.elim (fun z => Or.inl ⟨z.1, Or.inr (Or.inr (Or.inr ⟨z.2.1, z.2.2.1⟩)), z.2.2.2⟩) (fun z => Or.inr ⟨z.1, ⟨by omega, by omega⟩, ⟨by omega, by omega, okg⟩, by omega, z.2⟩)⟩ | exact ⟨rfl, hs, hE, et.1, et.2.elim (fun z => Or.inl ⟨z.1, Or.inr (Or.inr (Or.inr ⟨z.2.1, z.2.2.1⟩)), z.2.2.2⟩) (fun z => Or.inr ⟨z.1, ⟨by omega, by omega⟩, ⟨by omega, by omega, okg⟩, by have := om_no om2 (oB (by omega)); omega, z.2⟩)⟩ | fail "none")
      · refine q_iconst hx hb dX10_drop_43 ?_
        exact q_ret_z hx hb hr hlocks hK hAe hw (by omega) (Nat.le_of_ble_eq_true rfl) (Nat.le_of_ble_eq_true rfl) dX10_drop_44 (by exact ⟨rfl, hs, hE, hv2, Or.inl ⟨by omega, Or.inr (Or.inr (Or.inl (by omega))), fun x => congrFun Q4b x⟩⟩)
  · refine q_iconst hx hb dX10_drop_14 ?_
    exact q_ret_z hx hb hr hlocks hK hAe hw (by omega) (Nat.le_of_ble_eq_true rfl) (Nat.le_of_ble_eq_true rfl) dX10_drop_15 (by exact ⟨rfl, hs, hE, hv2, Or.inl ⟨by omega, (nk_split (ik_no h8 (by omega)) (fun z => kg_ref (hv.row x1 z.1 z.2).2.2.2.2.2.2.1)).elim Or.inl (fun z => Or.inr (Or.inl z)), fun x => congrFun Q4b x⟩⟩)
set_option maxHeartbeats 4000000 in
set_option maxRecDepth 100000 in
theorem c_X10_move_o {Z : Zt} (zo : Zok Z) (l : Launch) (D : va_G) (cy : Cy) (L0 : List Nat) (f0 : Nat → va_E) (a0 : Nat) (x1 : Int) (lx1 : -2147483648 ≤ x1) (ux1 : x1 ≤ 2147483647) (x2 : Int) (lx2 : -2147483648 ≤ x2) (ux2 : x2 ≤ 2147483647) (x3 : Int) (lx3 : -2147483648 ≤ x3) (ux3 : x3 ≤ 2147483647) (ad : Nat → Nat) (hs : MS cy L0 f0 a0 ad) (hv : MV f0 a0 ad) (hd : DT f0 ad 36525) (mo : MOk f0 a0 ad) (O : Int → Int) (om : (0 ≤ x1 ∧ x1 < fI f0 a0 5) → OM (aI f0 (ad 4)) (44 * x1) O) : Ci Z l yX10_move (Cond.code yX10_move cX10_move 4 (some .boolean) :: TB) ({ frames := 4, cells := 0, slots := 0, locals := 98 } : Room) 0 0 D (tq cy) [.ref a0, .int (iI x1), .int (iI x2), .int (iI x3)] L0 f0 (fun (r : Int) (L1 : List Nat) (f1 : Nat → va_E) => L0 = L1 ∧ MS cy L0 f1 a0 ad ∧ Kp a0 ad [4, 12, 13] [10] f0 f1 ∧ (MV f1 a0 ad ∧ ((r = 0 ∧ (¬ (0 ≤ x1 ∧ x1 < fI f0 a0 5) ∨ ¬ (0 ≤ x2 ∧ x2 ≤ 36524 ∧ KG (aI f0 (ad 4)) (44 * x1) x2) ∨ (x3 < 0 ∨ 52595999 < x3) ∨ (O x2 = -2 ∧ 16 ≤ aI f0 (ad 4) (44 * x1 + 11))) ∧ (∀ x : Int, aI f1 (ad 4) x = aI f0 (ad 4) x)) ∨ (r = 1 ∧ (0 ≤ x1 ∧ x1 < fI f0 a0 5) ∧ (0 ≤ x2 ∧ x2 ≤ 36524 ∧ KG (aI f0 (ad 4)) (44 * x1) x2) ∧ (0 ≤ x3 ∧ x3 ≤ 52595999) ∧ OM (aI f1 (ad 4)) (44 * x1) (upO O x2 x3) ∧ ((O x2 ≠ -2 ∧ aI f1 (ad 4) (44 * x1 + 11) = aI f0 (ad 4) (44 * x1 + 11)) ∨ (O x2 = -2 ∧ aI f0 (ad 4) (44 * x1 + 11) < 16 ∧ aI f1 (ad 4) (44 * x1 + 11) = aI f0 (ad 4) (44 * x1 + 11) + 1)) ∧ (∀ x : Int, 0 ≤ x → (x < 44 * x1 + 11 ∨ 44 * x1 + 43 < x) → aI f1 (ad 4) x = aI f0 (ad 4) x))))) := by
  refine Ci.enter (cc := cX10_move) (n := 4) rfl (plainFor_of_name (by decide)) (Nat.le_of_ble_eq_true rfl) ?_
  intro p e s m below meth c ls A hx hb hr hts hown hlocks hnm hml hK hA hAe hw hZ hl
  have hown : s.vm.findClass RX10 = some m.cls := hown
  have hl : lv_has ls 4 [(0, .ref a0), (1, .int (iI x1)), (2, .int (iI x2)), (3, .int (iI x3))] := hl
  have hN : ZN s := (zo.2.2.2.2 _ _ _ hZ).2
  have hE : Kp a0 ad [4, 12, 13] [10] f0 f0 := Kp.refl _ _ _ _ _
  have m5 := hv.1
  have m6 := hv.2.1
  refine lv_aload_n hx hb dX10_move_0 rfl (lv_at hl 0 rfl) ?_
  refine q_iconst hx hb dX10_move_1 ?_
  refine q_puti (ci := 8) (C := RX10) (T := TX10) (N := 26) hx hb hts (fun w h => List.mem_cons_of_mem _ (mfX100 w h)) hown hK hw hs.1 hs.2.1 rfl 10 (by decide) (hts _ (List.mem_cons_of_mem _ (mr4 _ (List.mem_of_getElem? (i := 19) rfl)))) (fun _ h => h) tyX10 tyX10_ok nmX10 rfl (ty := .int) (by decide +kernel) rfl rfl dX10_move_2 (fun H locs hw => ?_)
  obtain ⟨f_1, ef_1⟩ : ∃ g : Nat → va_E, g = pU f0 a0 10 (.int (iI 0)) := ⟨_, rfl⟩
  have v10_f_1 : fI f_1 a0 10 = 0 := by rw [ef_1]; exact fI_pU_self hs.2.1 rfl ⟨by decide, by decide⟩
  have t5_f_1 : fI f_1 a0 5 = fI f0 a0 5 := by rw [ef_1]; exact fI_pU (Or.inr (by decide))
  have hE := hE.trans (show Kp a0 ad [4, 12, 13] [10] f0 f_1 by rw [ef_1]; exact Kp_pU hs (by decide))
  have hs_ := hs
  have hs : MS cy L0 f_1 a0 ad := by rw [ef_1]; exact MS_pU hs rfl
  rw [← ef_1] at hw
  have hv1 : MV f_1 a0 ad := hv.kp (show Kp a0 ad [] [10] f0 f_1 by rw [ef_1]; exact Kp_pU hs_ (by decide)) (by decide) (by decide)
  have Q4a : aI f_1 (ad 4) = aI f0 (ad 4) := funext fun x => by rw [ef_1]; exact hs_.aI_pU _ x
  have mo1 : MOk f_1 a0 ad := mo.kp (show Kp a0 ad [] [10] f0 f_1 by rw [ef_1]; exact Kp_pU hs_ (by decide)) (by decide) (by decide)
  refine lv_iload_n hx hb dX10_move_5 rfl (lv_at hl 3 rfl) ?_
  refine q_call_i hA hK hw (va_runS (As := [.int (iI x3)]) (rest := []) ⟨hx, hb, hml, hown, hts⟩ (c_X10_isTime zo l D cy L0 f_1 x3 lx3 ux3 _) (va_cwS 1 hts (gT (inS (mr28 _ (List.mem_of_getElem? (i := 3) rfl)) (mr28 _ (List.mem_of_getElem? (i := 4) rfl)) (mr1 _ (List.mem_of_getElem? (i := 5) rfl)) (mr28 _ (List.mem_of_getElem? (i := 5) rfl)))) rfl rfl rfl (by decide +kernel) ⟨Nat.le_of_ble_eq_true rfl, Nat.le_of_ble_eq_true rfl⟩) (Wd.preS zo hA hZ hw hK) rfl rfl hl.1 rfl (lv_room (Nat.le_of_ble_eq_true rfl)) dX10_move_6 ⟨Nat.le_of_ble_eq_true rfl, Nat.le_of_ble_eq_true rfl⟩) (fun x_2 L1 f1 H locs lx_2 ux_2 ex_2 hw => ?_)
  obtain ⟨rfl, rfl, ex_2⟩ := ex_2
  refine q_if_eq (tgt := 35) hx hb dX10_move_9 (by decide) ⟨lx_2, ux_2⟩ (fun c9 => ?_) (fun c9 => ?_)
  · refine q_iconst hx hb dX10_move_35 ?_
    exact q_ret_z hx hb hr hlocks hK hAe hw (by omega) (Nat.le_of_ble_eq_true rfl) (Nat.le_of_ble_eq_true rfl) dX10_move_36 (by first | exact ⟨rfl, hs, hE, hv1, Or.inl ⟨by omega, Or.inr (Or.inr (Or.inl (by omega))), fun x => congrFun Q4a x⟩⟩ | exact ⟨rfl, hs, hE, et.1, Or.inl ⟨by omega, Or.inr (Or.inr (Or.inr ⟨(or_0 et.2 (by omega)).1, (or_0 et.2 (by omega)).2.1⟩)), (or_0 et.2 (by omega)).2.2⟩⟩ | exact ⟨rfl, hs, hE, et.1, Or.inr ⟨by omega, ⟨by omega, by omega⟩, ⟨by omega, by omega, okg⟩, ⟨by omega, by omega⟩, or_1 et.2 (by omega)⟩⟩ | exact ⟨rfl, hs, hE, hv2, Or.inl ⟨by omega, (nk_split (ik_no h8 (by omega)) (fun z => kg_ref (hv.row x1 z.1 z.2).2.2.2.2.2.2.1)).elim Or.inl (fun z => Or.inr (Or.inl z)), fun x => congrFun Q4b x⟩⟩ | fail "none")
  · refine lv_aload_n hx hb dX10_move_12 rfl (lv_at hl 0 rfl) ?_
    refine lv_iload_n hx hb dX10_move_13 rfl (lv_at hl 1 rfl) ?_
    refine lv_iload_n hx hb dX10_move_14 rfl (lv_at hl 2 rfl) ?_
    refine q_call_i hA hK hw (va_runV (As := [.int (iI x1), .int (iI x2)]) (rest := []) ⟨hx, hb, hml, hown, hts⟩ (c_X10_isKey_f zo l D cy L0 f_1 a0 x1 lx1 ux1 x2 lx2 ux2 ad hs hv1 (by first | exact hd | exact hd.kp hE (by decide) (by decide) (by decide) (by decide)) mo1 _) (cwV 2 hts (gT (inV (mr27 _ (List.mem_of_getElem? (i := 3) rfl)) (mr27 _ (List.mem_of_getElem? (i := 4) rfl)) (mr27 _ (List.mem_of_getElem? (i := 5) rfl)) (mr1 _ (List.mem_of_getElem? (i := 5) rfl)) (mr27 _ (List.mem_of_getElem? (i := 6) rfl)))) rfl rfl rfl (by decide +kernel) ⟨Nat.le_of_ble_eq_true rfl, Nat.le_of_ble_eq_true rfl⟩) (Wd.preV zo hA hZ hw hK hs.1 hs.2.1 rfl) rfl rfl hl.1 rfl (lv_room (Nat.le_of_ble_eq_true rfl)) dX10_move_15 ⟨Nat.le_of_ble_eq_true rfl, Nat.le_of_ble_eq_true rfl⟩) (fun x_3 L1 f_4 H locs lx_3 ux_3 ex_3 hw => ?_)
    obtain ⟨rfl, hs, hX, ex_3⟩ := ex_3
    have hE := hE.trans (hX.mono (rs' := [4, 12, 13]) (fs' := [10]) (by decide) (by decide))
    have t5_f_4 : fI f_4 a0 5 = fI f_1 a0 5 := hX.2 5 (by decide)
    have h8 := ex_3
    rw [Q4a, show fI f_1 a0 5 = fI f0 a0 5 by omega] at h8
    have hv2 : MV f_4 a0 ad := hv1.kp hX (by decide) (by decide)
    have Q4b : aI f_4 (ad 4) = aI f0 (ad 4) := funext fun x => (hX.1 4 rfl (by decide) x).trans (congrFun Q4a x)
    refine q_if_eq (tgt := 35) hx hb dX10_move_18 (by decide) ⟨lx_3, ux_3⟩ (fun c18 => ?_) (fun c18 => ?_)
    · refine q_iconst hx hb dX10_move_35 ?_
      exact q_ret_z hx hb hr hlocks hK hAe hw (by omega) (Nat.le_of_ble_eq_true rfl) (Nat.le_of_ble_eq_true rfl) dX10_move_36 (by first | exact ⟨rfl, hs, hE, hv1, Or.inl ⟨by omega, Or.inr (Or.inr (Or.inl (by omega))), fun x => congrFun Q4a x⟩⟩ | exact ⟨rfl, hs, hE, et.1, Or.inl ⟨by omega, Or.inr (Or.inr (Or.inr ⟨(or_0 et.2 (by omega)).1, (or_0 et.2 (by omega)).2.1⟩)), (or_0 et.2 (by omega)).2.2⟩⟩ | exact ⟨rfl, hs, hE, et.1, Or.inr ⟨by omega, ⟨by omega, by omega⟩, ⟨by omega, by omega, okg⟩, ⟨by omega, by omega⟩, or_1 et.2 (by omega)⟩⟩ | exact ⟨rfl, hs, hE, hv2, Or.inl ⟨by omega, (nk_split (ik_no h8 (by omega)) (fun z => kg_ref (hv.row x1 z.1 z.2).2.2.2.2.2.2.1)).elim Or.inl (fun z => Or.inr (Or.inl z)), fun x => congrFun Q4b x⟩⟩ | fail "none")
    · have k8 := ik_yes h8 (by omega)
      have k8a := k8.1
      have k8b := k8.2.1
      have k8c := k8.2.2.1
      have k8d := k8.2.2.2.1
      have kd := k8.2.2.2.2
      have kd1 := kd.1
      have kd2 := kd.2.1
      have rv := hv2.row x1 (by omega) (by omega)
      have rv0 := hv.row x1 (by omega) (by omega)
      have okg : KG (aI f0 (ad 4)) (44 * x1) x2 := by rw [kg_ref (by omega)]; exact kd
      have om0 := om ⟨by omega, by omega⟩
      refine lv_aload_n hx hb dX10_move_21 rfl (lv_at hl 0 rfl) ?_
      refine lv_iload_n hx hb dX10_move_22 rfl (lv_at hl 1 rfl) ?_
      refine lv_iload_n hx hb dX10_move_23 rfl (lv_at hl 2 rfl) ?_
      refine lv_iload_n hx hb dX10_move_24 rfl (lv_at hl 3 rfl) ?_
      refine q_call_i hA hK hw (va_runV (As := [.int (iI x1), .int (iI x2), .int (iI x3)]) (rest := []) ⟨hx, hb, hml, hown, hts⟩ (c_X10_tellsOdd_o zo l D cy L0 f_4 a0 x1 lx1 ux1 x2 lx2 ux2 x3 lx3 ux3 ad hs hv2 (by omega) (by omega) (by rw [Q4b]; exact kd1) (by rw [Q4b]; exact kd2) (by omega) (by omega) O (by rw [Q4b]; exact om0) _) (cwV 3 hts (gT (inV (mr27 _ (List.mem_of_getElem? (i := 11) rfl)) (mr27 _ (List.mem_of_getElem? (i := 12) rfl)) (mr27 _ (List.mem_of_getElem? (i := 13) rfl)) (mr1 _ (List.mem_of_getElem? (i := 5) rfl)) (mr27 _ (List.mem_of_getElem? (i := 14) rfl)))) rfl rfl rfl (by decide +kernel) ⟨Nat.le_of_ble_eq_true rfl, Nat.le_of_ble_eq_true rfl⟩) (Wd.preV zo hA hZ hw hK hs.1 hs.2.1 rfl) rfl rfl hl.1 rfl (lv_room (Nat.le_of_ble_eq_true rfl)) dX10_move_25 ⟨Nat.le_of_ble_eq_true rfl, Nat.le_of_ble_eq_true rfl⟩) (fun x_5 L1 f_6 H locs lx_5 ux_5 ex_5 hw => ?_)
      obtain ⟨rfl, hs, hX, ex_5⟩ := ex_5
      have hE := hE.trans (hX.mono (rs' := [4, 12, 13]) (fs' := [10]) (by decide) (by decide))
      have t5_f_6 : fI f_6 a0 5 = fI f_4 a0 5 := hX.2 5 (by decide)
      have et := ex_5
      rw [Q4b] at et
      refine q_if_eq (tgt := 35) hx hb dX10_move_28 (by decide) ⟨lx_5, ux_5⟩ (fun c28 => ?_) (fun c28 => ?_)
      · refine q_iconst hx hb dX10_move_35 ?_
        exact q_ret_z hx hb hr hlocks hK hAe hw (by omega) (Nat.le_of_ble_eq_true rfl) (Nat.le_of_ble_eq_true rfl) dX10_move_36 (by first | exact ⟨rfl, hs, hE, hv1, Or.inl ⟨by omega, Or.inr (Or.inr (Or.inl (by omega))), fun x => congrFun Q4a x⟩⟩ | exact ⟨rfl, hs, hE, et.1, Or.inl ⟨by omega, Or.inr (Or.inr (Or.inr ⟨(or_0 et.2 (by omega)).1, (or_0 et.2 (by omega)).2.1⟩)), (or_0 et.2 (by omega)).2.2⟩⟩ | exact ⟨rfl, hs, hE, et.1, Or.inr ⟨by omega, ⟨by omega, by omega⟩, ⟨by omega, by omega, okg⟩, ⟨by omega, by omega⟩, or_1 et.2 (by omega)⟩⟩ | exact ⟨rfl, hs, hE, hv2, Or.inl ⟨by omega, (nk_split (ik_no h8 (by omega)) (fun z => kg_ref (hv.row x1 z.1 z.2).2.2.2.2.2.2.1)).elim Or.inl (fun z => Or.inr (Or.inl z)), fun x => congrFun Q4b x⟩⟩ | fail "none")
      · refine q_iconst hx hb dX10_move_31 ?_
        refine lv_goto (tgt := 36) hx hb dX10_move_32 (by decide) ?_
        exact q_ret_z hx hb hr hlocks hK hAe hw (by omega) (Nat.le_of_ble_eq_true rfl) (Nat.le_of_ble_eq_true rfl) dX10_move_36 (by first | exact ⟨rfl, hs, hE, hv1, Or.inl ⟨by omega, Or.inr (Or.inr (Or.inl (by omega))), fun x => congrFun Q4a x⟩⟩ | exact ⟨rfl, hs, hE, et.1, Or.inl ⟨by omega, Or.inr (Or.inr (Or.inr ⟨(or_0 et.2 (by omega)).1, (or_0 et.2 (by omega)).2.1⟩)), (or_0 et.2 (by omega)).2.2⟩⟩ | exact ⟨rfl, hs, hE, et.1, Or.inr ⟨by omega, ⟨by omega, by omega⟩, ⟨by omega, by omega, okg⟩, ⟨by omega, by omega⟩, or_1 et.2 (by omega)⟩⟩ | exact ⟨rfl, hs, hE, hv2, Or.inl ⟨by omega, (nk_split (ik_no h8 (by omega)) (fun z => kg_ref (hv.row x1 z.1 z.2).2.2.2.2.2.2.1)).elim Or.inl (fun z => Or.inr (Or.inl z)), fun x => congrFun Q4b x⟩⟩ | fail "none")
set_option maxHeartbeats 4000000 in
set_option maxRecDepth 100000 in
theorem c_X10_restore_o {Z : Zt} (zo : Zok Z) (l : Launch) (D : va_G) (cy : Cy) (L0 : List Nat) (f0 : Nat → va_E) (a0 : Nat) (x1 : Int) (lx1 : -2147483648 ≤ x1) (ux1 : x1 ≤ 2147483647) (x2 : Int) (lx2 : -2147483648 ≤ x2) (ux2 : x2 ≤ 2147483647) (ad : Nat → Nat) (hs : MS cy L0 f0 a0 ad) (hv : MV f0 a0 ad) (hd : DT f0 ad 36525) (mo : MOk f0 a0 ad) (O : Int → Int) (om : (0 ≤ x1 ∧ x1 < fI f0 a0 5) → OM (aI f0 (ad 4)) (44 * x1) O) : Ci Z l yX10_restore (Cond.code yX10_restore cX10_restore 5 (some .int) :: TB) ({ frames := 4, cells := 0, slots := 0, locals := 98 } : Room) 0 0 D (tq cy) [.ref a0, .int (iI x1), .int (iI x2)] L0 f0 (fun (r : Int) (L1 : List Nat) (f1 : Nat → va_E) => L0 = L1 ∧ MS cy L0 f1 a0 ad ∧ Kp a0 ad [4, 12, 13] [10] f0 f1 ∧ (MV f1 a0 ad ∧ ((r = -1 ∧ (¬ (0 ≤ x1 ∧ x1 < fI f0 a0 5) ∨ ¬ (0 ≤ x2 ∧ x2 ≤ 36524 ∧ KG (aI f0 (ad 4)) (44 * x1) x2)) ∧ (∀ x : Int, aI f1 (ad 4) x = aI f0 (ad 4) x)) ∨ (r = 0 ∧ (0 ≤ x1 ∧ x1 < fI f0 a0 5) ∧ (0 ≤ x2 ∧ x2 ≤ 36524 ∧ KG (aI f0 (ad 4)) (44 * x1) x2) ∧ O x2 = -2 ∧ (∀ x : Int, aI f1 (ad 4) x = aI f0 (ad 4) x)) ∨ ((0 ≤ x1 ∧ x1 < fI f0 a0 5) ∧ (0 ≤ x2 ∧ x2 ≤ 36524 ∧ KG (aI f0 (ad 4)) (44 * x1) x2) ∧ ((r = 1 ∧ O x2 = -1) ∨ (r = 2 ∧ 0 ≤ O x2)) ∧ OM (aI f1 (ad 4)) (44 * x1) (upO O x2 (-2)) ∧ aI f1 (ad 4) (44 * x1 + 11) = aI f0 (ad 4) (44 * x1 + 11) - 1 ∧ (∀ x : Int, 0 ≤ x → (x < 44 * x1 + 11 ∨ 44 * x1 + 43 < x) → aI f1 (ad 4) x = aI f0 (ad 4) x))))) := by
  refine Ci.enter (cc := cX10_restore) (n := 5) rfl (plainFor_of_name (by decide)) (Nat.le_of_ble_eq_true rfl) ?_
  intro p e s m below meth c ls A hx hb hr hts hown hlocks hnm hml hK hA hAe hw hZ hl
  have hown : s.vm.findClass RX10 = some m.cls := hown
  have hl : lv_has ls 5 [(0, .ref a0), (1, .int (iI x1)), (2, .int (iI x2))] := hl
  have hN : ZN s := (zo.2.2.2.2 _ _ _ hZ).2
  have hE : Kp a0 ad [4, 12, 13] [10] f0 f0 := Kp.refl _ _ _ _ _
  have m5 := hv.1
  have m6 := hv.2.1
  refine lv_aload_n hx hb dX10_restore_0 rfl (lv_at hl 0 rfl) ?_
  refine q_iconst hx hb dX10_restore_1 ?_
  refine q_puti (ci := 8) (C := RX10) (T := TX10) (N := 26) hx hb hts (fun w h => List.mem_cons_of_mem _ (mfX100 w h)) hown hK hw hs.1 hs.2.1 rfl 10 (by decide) (hts _ (List.mem_cons_of_mem _ (mr4 _ (List.mem_of_getElem? (i := 19) rfl)))) (fun _ h => h) tyX10 tyX10_ok nmX10 rfl (ty := .int) (by decide +kernel) rfl rfl dX10_restore_2 (fun H locs hw => ?_)
  obtain ⟨f_1, ef_1⟩ : ∃ g : Nat → va_E, g = pU f0 a0 10 (.int (iI 0)) := ⟨_, rfl⟩
  have v10_f_1 : fI f_1 a0 10 = 0 := by rw [ef_1]; exact fI_pU_self hs.2.1 rfl ⟨by decide, by decide⟩
  have t5_f_1 : fI f_1 a0 5 = fI f0 a0 5 := by rw [ef_1]; exact fI_pU (Or.inr (by decide))
  have hE := hE.trans (show Kp a0 ad [4, 12, 13] [10] f0 f_1 by rw [ef_1]; exact Kp_pU hs (by decide))
  have hs_ := hs
  have hs : MS cy L0 f_1 a0 ad := by rw [ef_1]; exact MS_pU hs rfl
  rw [← ef_1] at hw
  have hv1 : MV f_1 a0 ad := hv.kp (show Kp a0 ad [] [10] f0 f_1 by rw [ef_1]; exact Kp_pU hs_ (by decide)) (by decide) (by decide)
  have Q4a : aI f_1 (ad 4) = aI f0 (ad 4) := funext fun x => by rw [ef_1]; exact hs_.aI_pU _ x
  have mo1 : MOk f_1 a0 ad := mo.kp (show Kp a0 ad [] [10] f0 f_1 by rw [ef_1]; exact Kp_pU hs_ (by decide)) (by decide) (by decide)
  refine lv_aload_n hx hb dX10_restore_5 rfl (lv_at hl 0 rfl) ?_
  refine lv_iload_n hx hb dX10_restore_6 rfl (lv_at hl 1 rfl) ?_
  refine lv_iload_n hx hb dX10_restore_7 rfl (lv_at hl 2 rfl) ?_
  refine q_call_i hA hK hw (va_runV (As := [.int (iI x1), .int (iI x2)]) (rest := []) ⟨hx, hb, hml, hown, hts⟩ (c_X10_isKey_f zo l D cy L0 f_1 a0 x1 lx1 ux1 x2 lx2 ux2 ad hs hv1 (by first | exact hd | exact hd.kp hE (by decide) (by decide) (by decide) (by decide)) mo1 _) (cwV 2 hts (gT (inV (mr27 _ (List.mem_of_getElem? (i := 3) rfl)) (mr27 _ (List.mem_of_getElem? (i := 4) rfl)) (mr27 _ (List.mem_of_getElem? (i := 5) rfl)) (mr1 _ (List.mem_of_getElem? (i := 5) rfl)) (mr27 _ (List.mem_of_getElem? (i := 6) rfl)))) rfl rfl rfl (by decide +kernel) ⟨Nat.le_of_ble_eq_true rfl, Nat.le_of_ble_eq_true rfl⟩) (Wd.preV zo hA hZ hw hK hs.1 hs.2.1 rfl) rfl rfl hl.1 rfl (lv_room (Nat.le_of_ble_eq_true rfl)) dX10_restore_8 ⟨Nat.le_of_ble_eq_true rfl, Nat.le_of_ble_eq_true rfl⟩) (fun x_2 L1 f_3 H locs lx_2 ux_2 ex_2 hw => ?_)
  obtain ⟨rfl, hs, hX, ex_2⟩ := ex_2
  have hE := hE.trans (hX.mono (rs' := [4, 12, 13]) (fs' := [10]) (by decide) (by decide))
  have t5_f_3 : fI f_3 a0 5 = fI f_1 a0 5 := hX.2 5 (by decide)
  have h8 := ex_2
  rw [Q4a, show fI f_1 a0 5 = fI f0 a0 5 by omega] at h8
  have hv2 : MV f_3 a0 ad := hv1.kp hX (by decide) (by decide)
  have Q4b : aI f_3 (ad 4) = aI f0 (ad 4) := funext fun x => (hX.1 4 rfl (by decide) x).trans (congrFun Q4a x)
  refine q_if_ne (tgt := 16) hx hb dX10_restore_11 (by decide) ⟨lx_2, ux_2⟩ (fun c11 => ?_) (fun c11 => ?_)
  · have k8 := ik_yes h8 (by omega)
    have k8a := k8.1
    have k8b := k8.2.1
    have k8c := k8.2.2.1
    have k8d := k8.2.2.2.1
    have kd := k8.2.2.2.2
    have kd1 := kd.1
    have kd2 := kd.2.1
    have rv := hv2.row x1 (by omega) (by omega)
    have rv0 := hv.row x1 (by omega) (by omega)
    have okg : KG (aI f0 (ad 4)) (44 * x1) x2 := by rw [kg_ref (by omega)]; exact kd
    have om0 := om ⟨by omega, by omega⟩
    refine lv_aload_n hx hb dX10_restore_16 rfl (lv_at hl 0 rfl) ?_
    refine lv_iload_n hx hb dX10_restore_17 rfl (lv_at hl 1 rfl) ?_
    refine lv_iload_n hx hb dX10_restore_18 rfl (lv_at hl 2 rfl) ?_
    refine q_call_i hA hK hw (va_runV (As := [.int (iI x1), .int (iI x2)]) (rest := []) ⟨hx, hb, hml, hown, hts⟩ (c_X10_oddOf_2 zo l D cy L0 f_3 a0 x1 lx1 ux1 x2 lx2 ux2 ad hs (by omega) (by omega) (by omega) (by omega) _) (cwV 2 hts (gT (inV (mr27 _ (List.mem_of_getElem? (i := 7) rfl)) (mr27 _ (List.mem_of_getElem? (i := 8) rfl)) (mr27 _ (List.mem_of_getElem? (i := 9) rfl)) (mr1 _ (List.mem_of_getElem? (i := 5) rfl)) (mr27 _ (List.mem_of_getElem? (i := 10) rfl)))) rfl rfl rfl (by decide +kernel) ⟨Nat.le_of_ble_eq_true rfl, Nat.le_of_ble_eq_true rfl⟩) (Wd.preV zo hA hZ hw hK hs.1 hs.2.1 rfl) rfl rfl hl.1 rfl (lv_room (Nat.le_of_ble_eq_true rfl)) dX10_restore_19 ⟨Nat.le_of_ble_eq_true rfl, Nat.le_of_ble_eq_true rfl⟩) (fun x_4 L1 f1 H locs lx_4 ux_4 ex_4 hw => ?_)
    obtain ⟨rfl, rfl, ex_4⟩ := ex_4
    have om2 : OM (aI f_3 (ad 4)) (44 * x1) O := by rw [Q4b]; exact om0
    have oR : -1 ≤ x_4 ∧ x_4 < aI f_3 (ad 4) (44 * x1 + 11) := by rcases ex_4 with h | h <;> omega
    have oA : 0 ≤ x_4 → aI f_3 (ad 4) (44 * x1 + 12 + 2 * x_4) = x2 := fun q => ex_4.elim (fun h => absurd h.1 (by omega)) (fun h => h.2.2)
    have oB : x_4 < 0 → ∀ i : Int, 0 ≤ i → i < aI f_3 (ad 4) (44 * x1 + 11) → aI f_3 (ad 4) (44 * x1 + 12 + 2 * i) ≠ x2 := fun q => ex_4.elim (fun h => h.2) (fun h => absurd h.1 (by omega))
    clear ex_4
    refine lv_istore_n (lv' := [(3, .int (iI x_4)), (0, .ref a0), (1, .int (iI x1)), (2, .int (iI x2))]) hx hb dX10_restore_22 rfl hl (by decide) rfl (fun ls hl => ?_)
    refine lv_iload_n hx hb dX10_restore_23 rfl (lv_at hl 0 rfl) ?_
    refine q_if_ge (tgt := 29) hx hb dX10_restore_24 (by decide) ⟨lx_4, ux_4⟩ (fun c24 => ?_) (fun c24 => ?_)
    · refine lv_aload_n hx hb dX10_restore_29 rfl (lv_at hl 1 rfl) ?_
      refine lv_iload_n hx hb dX10_restore_30 rfl (lv_at hl 2 rfl) ?_
      refine q_bipush hx hb dX10_restore_31 rfl ?_
      refine q_iconst hx hb dX10_restore_33 ?_
      refine lv_iload_n hx hb dX10_restore_34 rfl (lv_at hl 0 rfl) ?_
      first | refine q_imul hx hb dX10_restore_35 ⟨by omega, by omega⟩ (fun x_5 lx_5 ux_5 ex_5 => ?_) | refine q_imulw hx hb dX10_restore_35 (fun x_5 lx_5 ux_5 ex_5 => ?_)
      first | refine q_iadd hx hb dX10_restore_36 ⟨by omega, by omega⟩ (fun x_6 lx_6 ux_6 ex_6 => ?_) | refine q_iaddw hx hb dX10_restore_36 (fun x_6 lx_6 ux_6 ex_6 => ?_)
      refine q_iconst hx hb dX10_restore_37 ?_
      first | refine q_iadd hx hb dX10_restore_38 ⟨by omega, by omega⟩ (fun x_7 lx_7 ux_7 ex_7 => ?_) | refine q_iaddw hx hb dX10_restore_38 (fun x_7 lx_7 ux_7 ex_7 => ?_)
      refine q_call_i hA hK hw (va_runV (As := [.int (iI x1), .int (iI x_7)]) (rest := []) ⟨hx, hb, hml, hown, hts⟩ (c_X10_get zo l D cy L0 f_3 a0 x1 lx1 ux1 x_7 lx_7 ux_7 ad hs (by omega) (by omega) (by omega) (by omega) _) (cwV 2 hts (gT (inV (mr25 _ (List.mem_of_getElem? (i := 0) rfl)) (mr25 _ (List.mem_of_getElem? (i := 1) rfl)) (mr25 _ (List.mem_of_getElem? (i := 2) rfl)) (mr1 _ (List.mem_of_getElem? (i := 5) rfl)) (mr25 _ (List.mem_of_getElem? (i := 3) rfl)))) rfl rfl rfl (by decide +kernel) ⟨Nat.le_of_ble_eq_true rfl, Nat.le_of_ble_eq_true rfl⟩) (Wd.preV zo hA hZ hw hK hs.1 hs.2.1 rfl) rfl rfl hl.1 rfl (lv_room (Nat.le_of_ble_eq_true rfl)) dX10_restore_39 ⟨Nat.le_of_ble_eq_true rfl, Nat.le_of_ble_eq_true rfl⟩) (fun x_8 L1 f1 H locs lx_8 ux_8 ex_8 hw => ?_)
      obtain ⟨rfl, rfl, ex_8⟩ := ex_8
      have h37 : x_8 = aI f_3 (ad 4) (44 * x1 + 13 + 2 * x_4) := ex_8.trans (aI_cg (by omega))
      have o37 : aI f_3 (ad 4) (44 * x1 + 13 + 2 * x_4) = O x2 ∧ O x2 ≠ -2 ∧ -1 ≤ O x2 := om_at om2 (by omega) (by omega) (oA (by omega))
      refine q_if_ge (tgt := 49) hx hb dX10_restore_42 (by decide) ⟨lx_8, ux_8⟩ (fun c42 => ?_) (fun c42 => ?_)
      · refine q_iconst hx hb dX10_restore_49 ?_
        refine lv_istore (lv' := [(4, .int (iI 2)), (3, .int (iI x_4)), (0, .ref a0), (1, .int (iI x1)), (2, .int (iI x2))]) hx hb dX10_restore_50 hl (by decide) rfl (fun ls hl => ?_)
        refine lv_aload_n hx hb dX10_restore_52 rfl (lv_at hl 2 rfl) ?_
        refine lv_iload_n hx hb dX10_restore_53 rfl (lv_at hl 3 rfl) ?_
        refine lv_iload_n hx hb dX10_restore_54 rfl (lv_at hl 1 rfl) ?_
        refine q_call_v hA hK hw (va_runV (As := [.int (iI x1), .int (iI x_4)]) (rest := []) ⟨hx, hb, hml, hown, hts⟩ (c_X10_forgets zo l D cy L0 f_3 a0 x1 lx1 ux1 x_4 lx_4 ux_4 ad hs (by omega) (by omega) (by omega) (by omega) (by omega) _) (cwV 2 hts (gT (inV (mr28 _ (List.mem_of_getElem? (i := 23) rfl)) (mr29 _ (List.mem_of_getElem? (i := 0) rfl)) (mr29 _ (List.mem_of_getElem? (i := 1) rfl)) (mr1 _ (List.mem_of_getElem? (i := 5) rfl)) (mr29 _ (List.mem_of_getElem? (i := 2) rfl)))) rfl rfl rfl (by decide +kernel) ⟨Nat.le_of_ble_eq_true rfl, Nat.le_of_ble_eq_true rfl⟩) (Wd.preV zo hA hZ hw hK hs.1 hs.2.1 rfl) rfl rfl hl.1 rfl (lv_room (Nat.le_of_ble_eq_true rfl)) dX10_restore_55 ⟨Nat.le_of_ble_eq_true rfl, Nat.le_of_ble_eq_true rfl⟩) (fun L1 f_10 H locs ex_9 hw => ?_)
        obtain ⟨rfl, hs, hX, ex_9⟩ := ex_9
        have hE := hE.trans (hX.mono (rs' := [4, 12, 13]) (fs' := [10]) (by decide) (by decide))
        have t5_f_10 : fI f_10 a0 5 = fI f_3 a0 5 := hX.2 5 (by decide)
        obtain ⟨fa, fb, fc⟩ := ex_9
        have hv3 : MV f_10 a0 ad := hv2.one (c := x1) (hX.2 5 (by decide)) (fun x q0 q1 => fc x q0 (by omega) (by omega)) ((hv2.at (b := x1) (by omega) (by omega)).forget (k := x_4) (by omega) (by omega) fa (fun x q0 q1 => fb x q0 q1) (fun x q0 q1 q2 => fc x (by omega) q2 (Or.inl q1)))
        have dl := om_del om2 (by omega) (by omega) fa (fun x q0 q1 q2 => fc x q0 q1 (Or.inl q2)) (fun x q0 q1 => fb x q0 q1) (by omega)
        have dl := om_key dl (oA (by omega))
        have fa := fa
        rw [Q4b] at fa
        have w55 : ∀ x : Int, 0 ≤ x → (x < 44 * x1 + 11 ∨ 44 * x1 + 43 < x) → aI f_10 (ad 4) x = aI f0 (ad 4) x := fun x q0 q1 => (fc x q0 (by omega) (by omega)).trans (congrFun Q4b x)
        refine lv_iload hx hb dX10_restore_58 (lv_at hl 0 rfl) ?_
        exact q_ret_i hx hb hr hlocks hK hAe hw ⟨by decide, by decide⟩ (Nat.le_of_ble_eq_true rfl) (Nat.le_of_ble_eq_true rfl) dX10_restore_60 (by exact ⟨rfl, hs, hE, hv3, Or.inr (Or.inr ⟨⟨by omega, by omega⟩, ⟨by omega, by omega, okg⟩, by omega, dl, fa, w55⟩)⟩)
      · refine q_iconst hx hb dX10_restore_45 ?_
        refine lv_goto (tgt := 50) hx hb dX10_restore_46 (by decide) ?_
        refine lv_istore (lv' := [(4, .int (iI 1)), (3, .int (iI x_4)), (0, .ref a0), (1, .int (iI x1)), (2, .int (iI x2))]) hx hb dX10_restore_50 hl (by decide) rfl (fun ls hl => ?_)
        refine lv_aload_n hx hb dX10_restore_52 rfl (lv_at hl 2 rfl) ?_
        refine lv_iload_n hx hb dX10_restore_53 rfl (lv_at hl 3 rfl) ?_
        refine lv_iload_n hx hb dX10_restore_54 rfl (lv_at hl 1 rfl) ?_
        refine q_call_v hA hK hw (va_runV (As := [.int (iI x1), .int (iI x_4)]) (rest := []) ⟨hx, hb, hml, hown, hts⟩ (c_X10_forgets zo l D cy L0 f_3 a0 x1 lx1 ux1 x_4 lx_4 ux_4 ad hs (by omega) (by omega) (by omega) (by omega) (by omega) _) (cwV 2 hts (gT (inV (mr28 _ (List.mem_of_getElem? (i := 23) rfl)) (mr29 _ (List.mem_of_getElem? (i := 0) rfl)) (mr29 _ (List.mem_of_getElem? (i := 1) rfl)) (mr1 _ (List.mem_of_getElem? (i := 5) rfl)) (mr29 _ (List.mem_of_getElem? (i := 2) rfl)))) rfl rfl rfl (by decide +kernel) ⟨Nat.le_of_ble_eq_true rfl, Nat.le_of_ble_eq_true rfl⟩) (Wd.preV zo hA hZ hw hK hs.1 hs.2.1 rfl) rfl rfl hl.1 rfl (lv_room (Nat.le_of_ble_eq_true rfl)) dX10_restore_55 ⟨Nat.le_of_ble_eq_true rfl, Nat.le_of_ble_eq_true rfl⟩) (fun L1 f_12 H locs ex_11 hw => ?_)
        obtain ⟨rfl, hs, hX, ex_11⟩ := ex_11
        have hE := hE.trans (hX.mono (rs' := [4, 12, 13]) (fs' := [10]) (by decide) (by decide))
        have t5_f_12 : fI f_12 a0 5 = fI f_3 a0 5 := hX.2 5 (by decide)
        obtain ⟨fa, fb, fc⟩ := ex_11
        have hv3 : MV f_12 a0 ad := hv2.one (c := x1) (hX.2 5 (by decide)) (fun x q0 q1 => fc x q0 (by omega) (by omega)) ((hv2.at (b := x1) (by omega) (by omega)).forget (k := x_4) (by omega) (by omega) fa (fun x q0 q1 => fb x q0 q1) (fun x q0 q1 q2 => fc x (by omega) q2 (Or.inl q1)))
        have dl := om_del om2 (by omega) (by omega) fa (fun x q0 q1 q2 => fc x q0 q1 (Or.inl q2)) (fun x q0 q1 => fb x q0 q1) (by omega)
        have dl := om_key dl (oA (by omega))
        have fa := fa
        rw [Q4b] at fa
        have w55 : ∀ x : Int, 0 ≤ x → (x < 44 * x1 + 11 ∨ 44 * x1 + 43 < x) → aI f_12 (ad 4) x = aI f0 (ad 4) x := fun x q0 q1 => (fc x q0 (by omega) (by omega)).trans (congrFun Q4b x)
        refine lv_iload hx hb dX10_restore_58 (lv_at hl 0 rfl) ?_
        exact q_ret_i hx hb hr hlocks hK hAe hw ⟨by decide, by decide⟩ (Nat.le_of_ble_eq_true rfl) (Nat.le_of_ble_eq_true rfl) dX10_restore_60 (by exact ⟨rfl, hs, hE, hv3, Or.inr (Or.inr ⟨⟨by omega, by omega⟩, ⟨by omega, by omega, okg⟩, by omega, dl, fa, w55⟩)⟩)
    · refine q_iconst hx hb dX10_restore_27 ?_
      exact q_ret_i hx hb hr hlocks hK hAe hw ⟨by decide, by decide⟩ (Nat.le_of_ble_eq_true rfl) (Nat.le_of_ble_eq_true rfl) dX10_restore_28 (by exact ⟨rfl, hs, hE, hv2, Or.inr (Or.inl ⟨by omega, ⟨by omega, by omega⟩, ⟨by omega, by omega, okg⟩, om_no om2 (oB (by omega)), fun x => congrFun Q4b x⟩)⟩)
  · refine q_iconst hx hb dX10_restore_14 ?_
    exact q_ret_i hx hb hr hlocks hK hAe hw ⟨by decide, by decide⟩ (Nat.le_of_ble_eq_true rfl) (Nat.le_of_ble_eq_true rfl) dX10_restore_15 (by exact ⟨rfl, hs, hE, hv2, Or.inl ⟨by omega, nk_split (ik_no h8 (by omega)) (fun z => kg_ref (hv.row x1 z.1 z.2).2.2.2.2.2.2.1), fun x => congrFun Q4b x⟩⟩)
