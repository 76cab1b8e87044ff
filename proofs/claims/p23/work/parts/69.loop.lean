section QNL
variable {p : Program} {l : Launch} {e : Env} {R : Room} {s : State} {m : MethodId} {args : Array Value} {below : List Frame} {meth : Method} {c : Code} {H : Heap} {locs : List Loc} {cells slots : Nat} {Q : State → Prop}
variable {cc : ByteArray} {pc : Nat} {ls : Array Slot} {rest : List Value} {D : va_G} {A : Nat → Prop} {tys : List (ClassId × FieldType)} {H0 : Heap} {L : List Nat} {f : Nat → va_E}
theorem q_newL (hx : p.tables.exec = Jvm.exec) (hb : c.code = cc) (harr : (Cond.arrayClass .long).before args s = true) (t0 : Nat) {cA : ClassId} (ht : tys[t0]? = some (cA, .long)) (hK : va_K D vwCl tys s) (hw : Wd D A H0 L f H locs) (hA : ∀ q : Nat, H0.size ≤ q → A q) (hcells : cells + 1 ≤ R.cells) (hslots : slots + 1 ≤ R.slots) (d : decode cc pc = .ok (.newarray .long, 2))
    (kk : ∀ (q : Nat) (H1 : Heap), q ∉ L → Wd D A H0 (L ++ [q]) (va_up f q (.inl (cA, 1, .inr (.inl (fun _ => 0))))) H1 locs → W p l e R s m args below meth c H1 locs (cells + 1) (slots + 1) Q (F0 m (pc + 2) ls (.ref q :: rest))) : W p l e R s m args below meth c H locs cells slots Q (F0 m pc ls (.int (iI 1) :: rest)) := by
  refine va_newa (atype := .long) (ty := .long) (N' := 1) (a0 := (1, .inr (.inl (fun _ => 0)))) hx hb harr rfl hK hw.1 hw.2.1 hw.2.2 hA (fun cB => rfl) (by decide) (by decide) (by decide) hcells hslots d (fun q cB H1 k1 g1 g2 g3 => ?_)
  have e1 := (k1.2 tys.length (cB, .long) (by rw [List.getElem?_append_right (Nat.le_refl _), Nat.sub_self]; rfl)).2
  have e2 := (hK.2 t0 _ ht).2
  have e3 := e1.eq e2
  subst e3
  obtain ⟨h, hw1⟩ := Wd.push g1 g2 g3
  exact kk q H1 h hw1
end QNL
set_option maxHeartbeats 4000000 in
set_option maxRecDepth 100000 in
theorem wl_loop {Z : Zt} (zo : Zok Z) (zc : ∀ (A : Nat → Prop) (U : State) (H : Heap), Z A U H → ZE U) {p : Program} {l : Launch} {e : Env} {s : State} {m : MethodId} {below : List Frame} {meth : Method} {c : Code} {b Ln : Nat} {xs : Nat → Int32} {D : va_G} {cy : Cy} {cL : ClassId} {A : Nat → Prop} (hB : LB Z p l s m c b Ln xs D cy cL A) {Q : State → Prop} {x mo o : Nat} {ad : Nat → Nat} {Mm : List Nat}
    (hend : ∀ (H : Heap) (locs : List Loc) (ls : Array Slot) (cells slots : Nat), cells ≤ 30000 → slots ≤ 800000 → va_S A s.heap H locs → W p l e room_1 s m #[Value.ref b] below meth c H locs cells slots Q (F0 m 1460 ls [])) :
    ∀ (n : Nat) (y4 : Int) (_ : -2147483648 ≤ y4) (_ : y4 ≤ 2147483647) (j : Nat) (_ : y4 = 7 * (j : Int)) (_ : j ≤ 512) (_ : (2147483647 - y4).toNat < n) (X : List Nat) (fx fm fo : Nat → va_E) (H : Heap) (locs : List Loc) (ls : Array Slot) (cells slots : Nat) (_ : cells ≤ 60 + 40 * j) (_ : slots ≤ 389000 + 600 * j) (_ : LI cy cL D A s.heap x mo o ad X fx Mm fm fo H locs) (_ : lv_has ls 7 [(0, .ref b), (1, .ref x), (2, .ref mo), (3, .ref o), (4, .int (iI y4))]), W p l e room_1 s m #[Value.ref b] below meth c H locs cells slots Q (F0 m 23 ls []) := by
  intro n
  induction n with
  | zero => intro y4 ly4 uy4 j ey hj hn; exact absurd hn (Nat.not_lt_zero _)
  | succ n ih =>
    intro y4 ly4 uy4 j ey hj hn X fx fm fo H locs ls cells slots hc hs0 hI hl
    obtain ⟨hx, hb, hml, hown, hts, hXs, hbl, hK, hA, hbA, hZ, hlt, hLn⟩ := id hB
    refine lv_iload hx hb dL_law_23 (lv_at hl 4 rfl) ?_
    refine lv_aload_n hx hb dL_law_25 rfl (lv_at hl 0 rfl) ?_
    refine q_slen hx hb hXs hbl hbA hI.1.2.2 hLn dL_law_26 ?_
    refine q_bipush hx hb dL_law_27 rfl ?_
    refine q_isub hx hb dL_law_29 ⟨by omega, by omega⟩ (fun z1 lz1 uz1 ez1 => ?_)
    refine q_icmp_gt (tgt := 1460) hx hb dL_law_30 (by decide) ⟨ly4, uy4⟩ ⟨lz1, uz1⟩ (fun c30 => ?_) (fun c30 => ?_)
    · exact hend H locs ls cells slots (by omega) (by omega) hI.1.2.2
    · have J : ∀ (X1 : List Nat) (fx1 fm1 fo1 : Nat → va_E) (H1 : Heap) (locs1 : List Loc) (ls1 : Array Slot) (cells1 slots1 : Nat), cells1 ≤ cells + 40 → slots1 ≤ slots + 600 → LI cy cL D A s.heap x mo o ad X1 fx1 Mm fm1 fo1 H1 locs1 → lv_has ls1 7 [(0, .ref b), (1, .ref x), (2, .ref mo), (3, .ref o), (4, .int (iI y4))] → W p l e room_1 s m #[Value.ref b] below meth c H1 locs1 cells1 slots1 Q (F0 m 1454 ls1 []) := by
        intro X1 fx1 fm1 fo1 H1 locs1 ls1 cells1 slots1 hc1 hs1 hI1 hl1
        obtain ⟨x5, l5, u5, h5, e5⟩ := q_inc y4 7
        replace e5 : x5 = y4 + 7 := by omega
        refine lv_iinc (v := iI x5) (lv' := [(4, .int (iI x5)), (0, .ref b), (1, .ref x), (2, .ref mo), (3, .ref o)]) hx hb dL_law_1454 hl1 (k := 4) rfl h5 (by decide) rfl (fun ls hl => ?_)
        refine lv_goto (tgt := 23) hx hb dL_law_1457 (by decide) ?_
        exact ih x5 l5 u5 (j + 1) (by omega) (by omega) (by omega) X1 fx1 fm1 fo1 H1 locs1 ls cells1 slots1 (by omega) (by omega) hI1 (lv_sub hl [1, 2, 3, 4, 0] rfl)
      refine lv_aload_n hx hb dL_law_33 rfl (lv_at hl 0 rfl) ?_
      refine lv_iload hx hb dL_law_34 (lv_at hl 4 rfl) ?_
      refine q_sld hx hb hXs hbl hbA hI.1.2.2 ⟨ly4, uy4⟩ (by omega) (by omega) dL_law_36 (fun z2 lz2 uz2 ez2 => ?_)
      refine q_bipush hx hb dL_law_37 rfl ?_
      refine lv_iand hx hb dL_law_39 ?_
      refine q_num (fun v lv uv ev => ?_)
      clear ev
      have t40 : (iI v).toInt = v := iI_toInt ⟨lv, uv⟩
      rcases (show (v < 0 ∨ 28 < v) ∨ (v = 0) ∨ (v = 1) ∨ (v = 2) ∨ (v = 3) ∨ (v = 4) ∨ (v = 5) ∨ (v = 6) ∨ (v = 7) ∨ (v = 8) ∨ (v = 9) ∨ (v = 10) ∨ (v = 11) ∨ (v = 12) ∨ (v = 13) ∨ (v = 14) ∨ (v = 15) ∨ (v = 16) ∨ (v = 17) ∨ (v = 18) ∨ (v = 19) ∨ (v = 20) ∨ (v = 21) ∨ (v = 22) ∨ (v = 23) ∨ (v = 24) ∨ (v = 25) ∨ (v = 26) ∨ (v = 27) ∨ (v = 28) by omega) with k40 | k40 | k40 | k40 | k40 | k40 | k40 | k40 | k40 | k40 | k40 | k40 | k40 | k40 | k40 | k40 | k40 | k40 | k40 | k40 | k40 | k40 | k40 | k40 | k40 | k40 | k40 | k40 | k40 | k40
      · refine lv_tableOut (tgt := 1454) hx hb dL_law_40 (by rw [t40]; omega) (by decide) ?_
        exact J X fx fm fo H locs ls cells slots (by omega) (by omega) hI hl
      · refine lv_tableIn (tgt := 172) (off := 132) hx hb dL_law_40 (by rw [t40]; omega) (by rw [t40]; omega) (by rw [t40, k40]; rfl) (by decide) ?_
        exact wl_0 zo zc hB y4 ly4 uy4 (by omega) (by omega) hI hl (by omega) (by omega) J
      · refine lv_tableIn (tgt := 319) (off := 279) hx hb dL_law_40 (by rw [t40]; omega) (by rw [t40]; omega) (by rw [t40, k40]; rfl) (by decide) ?_
        exact wl_1 zo zc hB y4 ly4 uy4 (by omega) (by omega) hI hl (by omega) (by omega) J
      · refine lv_tableIn (tgt := 344) (off := 304) hx hb dL_law_40 (by rw [t40]; omega) (by rw [t40]; omega) (by rw [t40, k40]; rfl) (by decide) ?_
        exact wl_2 zo zc hB y4 ly4 uy4 (by omega) (by omega) hI hl (by omega) (by omega) J
      · refine lv_tableIn (tgt := 357) (off := 317) hx hb dL_law_40 (by rw [t40]; omega) (by rw [t40]; omega) (by rw [t40, k40]; rfl) (by decide) ?_
        exact wl_3 zo zc hB y4 ly4 uy4 (by omega) (by omega) hI hl (by omega) (by omega) J
      · refine lv_tableIn (tgt := 382) (off := 342) hx hb dL_law_40 (by rw [t40]; omega) (by rw [t40]; omega) (by rw [t40, k40]; rfl) (by decide) ?_
        exact wl_4 zo zc hB y4 ly4 uy4 (by omega) (by omega) hI hl (by omega) (by omega) J
      · refine lv_tableIn (tgt := 431) (off := 391) hx hb dL_law_40 (by rw [t40]; omega) (by rw [t40]; omega) (by rw [t40, k40]; rfl) (by decide) ?_
        exact wl_5 zo zc hB y4 ly4 uy4 (by omega) (by omega) hI hl (by omega) (by omega) J
      · refine lv_tableIn (tgt := 468) (off := 428) hx hb dL_law_40 (by rw [t40]; omega) (by rw [t40]; omega) (by rw [t40, k40]; rfl) (by decide) ?_
        exact wl_6 zo zc hB y4 ly4 uy4 (by omega) (by omega) hI hl (by omega) (by omega) J
      · refine lv_tableIn (tgt := 505) (off := 465) hx hb dL_law_40 (by rw [t40]; omega) (by rw [t40]; omega) (by rw [t40, k40]; rfl) (by decide) ?_
        exact wl_7 zo zc hB y4 ly4 uy4 (by omega) (by omega) hI hl (by omega) (by omega) J
      · refine lv_tableIn (tgt := 554) (off := 514) hx hb dL_law_40 (by rw [t40]; omega) (by rw [t40]; omega) (by rw [t40, k40]; rfl) (by decide) ?_
        exact wl_8 zo zc hB y4 ly4 uy4 (by omega) (by omega) hI hl (by omega) (by omega) J
      · refine lv_tableIn (tgt := 591) (off := 551) hx hb dL_law_40 (by rw [t40]; omega) (by rw [t40]; omega) (by rw [t40, k40]; rfl) (by decide) ?_
        exact wl_9 zo zc hB y4 ly4 uy4 (by omega) (by omega) hI hl (by omega) (by omega) J
      · refine lv_tableIn (tgt := 640) (off := 600) hx hb dL_law_40 (by rw [t40]; omega) (by rw [t40]; omega) (by rw [t40, k40]; rfl) (by decide) ?_
        exact wl_10 zo zc hB y4 ly4 uy4 (by omega) (by omega) hI hl (by omega) (by omega) J
      · refine lv_tableIn (tgt := 677) (off := 637) hx hb dL_law_40 (by rw [t40]; omega) (by rw [t40]; omega) (by rw [t40, k40]; rfl) (by decide) ?_
        exact wl_11 zo zc hB y4 ly4 uy4 (by omega) (by omega) hI hl (by omega) (by omega) J
      · refine lv_tableIn (tgt := 726) (off := 686) hx hb dL_law_40 (by rw [t40]; omega) (by rw [t40]; omega) (by rw [t40, k40]; rfl) (by decide) ?_
        exact wl_12 zo zc hB y4 ly4 uy4 (by omega) (by omega) hI hl (by omega) (by omega) J
      · refine lv_tableIn (tgt := 775) (off := 735) hx hb dL_law_40 (by rw [t40]; omega) (by rw [t40]; omega) (by rw [t40, k40]; rfl) (by decide) ?_
        exact wl_13 zo zc hB y4 ly4 uy4 (by omega) (by omega) hI hl (by omega) (by omega) J
      · refine lv_tableIn (tgt := 824) (off := 784) hx hb dL_law_40 (by rw [t40]; omega) (by rw [t40]; omega) (by rw [t40, k40]; rfl) (by decide) ?_
        exact wl_14 zo zc hB y4 ly4 uy4 (by omega) (by omega) hI hl (by omega) (by omega) J
      · refine lv_tableIn (tgt := 873) (off := 833) hx hb dL_law_40 (by rw [t40]; omega) (by rw [t40]; omega) (by rw [t40, k40]; rfl) (by decide) ?_
        exact wl_15 zo zc hB y4 ly4 uy4 (by omega) (by omega) hI hl (by omega) (by omega) J
      · refine lv_tableIn (tgt := 949) (off := 909) hx hb dL_law_40 (by rw [t40]; omega) (by rw [t40]; omega) (by rw [t40, k40]; rfl) (by decide) ?_
        exact wl_16 zo zc hB y4 ly4 uy4 (by omega) (by omega) hI hl (by omega) (by omega) J
      · refine lv_tableIn (tgt := 998) (off := 958) hx hb dL_law_40 (by rw [t40]; omega) (by rw [t40]; omega) (by rw [t40, k40]; rfl) (by decide) ?_
        exact wl_17 zo zc hB y4 ly4 uy4 (by omega) (by omega) hI hl (by omega) (by omega) J
      · refine lv_tableIn (tgt := 1059) (off := 1019) hx hb dL_law_40 (by rw [t40]; omega) (by rw [t40]; omega) (by rw [t40, k40]; rfl) (by decide) ?_
        exact wl_18 zo zc hB y4 ly4 uy4 (by omega) (by omega) hI hl (by omega) (by omega) J
      · refine lv_tableIn (tgt := 1108) (off := 1068) hx hb dL_law_40 (by rw [t40]; omega) (by rw [t40]; omega) (by rw [t40, k40]; rfl) (by decide) ?_
        exact wl_19 zo zc hB y4 ly4 uy4 (by omega) (by omega) hI hl (by omega) (by omega) J
      · refine lv_tableIn (tgt := 1157) (off := 1117) hx hb dL_law_40 (by rw [t40]; omega) (by rw [t40]; omega) (by rw [t40, k40]; rfl) (by decide) ?_
        exact wl_20 zo zc hB y4 ly4 uy4 (by omega) (by omega) hI hl (by omega) (by omega) J
      · refine lv_tableIn (tgt := 1194) (off := 1154) hx hb dL_law_40 (by rw [t40]; omega) (by rw [t40]; omega) (by rw [t40, k40]; rfl) (by decide) ?_
        exact wl_21 zo zc hB y4 ly4 uy4 (by omega) (by omega) hI hl (by omega) (by omega) J
      · refine lv_tableIn (tgt := 1243) (off := 1203) hx hb dL_law_40 (by rw [t40]; omega) (by rw [t40]; omega) (by rw [t40, k40]; rfl) (by decide) ?_
        exact wl_22 zo zc hB y4 ly4 uy4 (by omega) (by omega) hI hl (by omega) (by omega) J
      · refine lv_tableIn (tgt := 1280) (off := 1240) hx hb dL_law_40 (by rw [t40]; omega) (by rw [t40]; omega) (by rw [t40, k40]; rfl) (by decide) ?_
        exact wl_23 zo zc hB y4 ly4 uy4 (by omega) (by omega) hI hl (by omega) (by omega) J
      · refine lv_tableIn (tgt := 1305) (off := 1265) hx hb dL_law_40 (by rw [t40]; omega) (by rw [t40]; omega) (by rw [t40, k40]; rfl) (by decide) ?_
        exact wl_24 zo zc hB y4 ly4 uy4 (by omega) (by omega) hI hl (by omega) (by omega) J
      · refine lv_tableIn (tgt := 1342) (off := 1302) hx hb dL_law_40 (by rw [t40]; omega) (by rw [t40]; omega) (by rw [t40, k40]; rfl) (by decide) ?_
        exact wl_25 zo zc hB y4 ly4 uy4 (by omega) (by omega) hI hl (by omega) (by omega) J
      · refine lv_tableIn (tgt := 1379) (off := 1339) hx hb dL_law_40 (by rw [t40]; omega) (by rw [t40]; omega) (by rw [t40, k40]; rfl) (by decide) ?_
        exact wl_26 zo zc hB y4 ly4 uy4 (by omega) (by omega) hI hl (by omega) (by omega) J
      · refine lv_tableIn (tgt := 1404) (off := 1364) hx hb dL_law_40 (by rw [t40]; omega) (by rw [t40]; omega) (by rw [t40, k40]; rfl) (by decide) ?_
        exact wl_27 zo zc hB y4 ly4 uy4 (by omega) (by omega) hI hl (by omega) (by omega) J
      · refine lv_tableIn (tgt := 1429) (off := 1389) hx hb dL_law_40 (by rw [t40]; omega) (by rw [t40]; omega) (by rw [t40, k40]; rfl) (by decide) ?_
        exact wl_28 zo zc hB y4 ly4 uy4 (by omega) (by omega) hI hl (by omega) (by omega) J
