/-! ===== what is said of constants, at the start ===== -/
def NF : List Cond := flatC (Jvm.Cond.and given_1 narrow_1)
theorem nf_sub {l : List Cond} (a n : Nat) : ∀ w ∈ (l.drop a).take n, w ∈ l := fun w h => List.mem_of_mem_drop (List.mem_of_mem_take h)
theorem nf_all {ws l : List Cond} {a n : Nat} (h : ws.all (fun c => ((l.drop a).take n).contains c) = true) : ∀ c ∈ ws, c ∈ l := fun c hc => nf_sub a n c (List.contains_iff_mem.mp (List.all_eq_true.mp h c hc))
abbrev TW : Type := String × Nat × String × List Int32
def tvl (w : TW) : Term := .field (.string w.1 w.2.1) "java/lang/String" "value" "[B"
def tnd (w : TW) : List Cond := [Cond.exactly (.string w.1 w.2.1) "java/lang/String", Cond.eq (.field (.string w.1 w.2.1) "java/lang/String" "coder" "B") (.int 0), Cond.arrayOf (tvl w) .byte, Cond.eq (.length (tvl w)) (.int (Int32.ofNat w.2.2.2.length))] ++ (List.range w.2.2.2.length).map (fun j => Cond.eq (.elem (tvl w) (.int (Int32.ofNat j))) (.int (w.2.2.2.getD j 0)))
theorem nt_0 : (tnd (RX9, 134, "no such occurrence", [110, 111, 32, 115, 117, 99, 104, 32, 111, 99, 99, 117, 114, 114, 101, 110, 99, 101])).all (fun c => ((NF.drop 246).take 22).contains c) = true := by decide +kernel
theorem nt_1 : (tnd (RX5, 72, "book", [98, 111, 111, 107])).all (fun c => ((NF.drop 93).take 8).contains c) = true := by decide +kernel
theorem nt_2 : (tnd (RX5, 84, "at", [97, 116])).all (fun c => ((NF.drop 101).take 6).contains c) = true := by decide +kernel
theorem nt_3 : (tnd (RX5, 89, "for", [102, 111, 114])).all (fun c => ((NF.drop 107).take 7).contains c) = true := by decide +kernel
theorem nt_4 : (tnd (RX5, 92, "once", [111, 110, 99, 101])).all (fun c => ((NF.drop 114).take 8).contains c) = true := by decide +kernel
theorem nt_5 : (tnd (RX5, 97, "every", [101, 118, 101, 114, 121])).all (fun c => ((NF.drop 122).take 9).contains c) = true := by decide +kernel
theorem nt_6 : (tnd (RX5, 98, "days", [100, 97, 121, 115])).all (fun c => ((NF.drop 131).take 8).contains c) = true := by decide +kernel
theorem nt_7 : (tnd (RX5, 100, "years", [121, 101, 97, 114, 115])).all (fun c => ((NF.drop 139).take 9).contains c) = true := by decide +kernel
theorem nt_8 : (tnd (RX5, 102, "weeks", [119, 101, 101, 107, 115])).all (fun c => ((NF.drop 148).take 9).contains c) = true := by decide +kernel
theorem nt_9 : (tnd (RX5, 107, "months", [109, 111, 110, 116, 104, 115])).all (fun c => ((NF.drop 182).take 10).contains c) = true := by decide +kernel
theorem nt_10 : (tnd (RX5, 116, "on", [111, 110])).all (fun c => ((NF.drop 192).take 6).contains c) = true := by decide +kernel
theorem nt_11 : (tnd (RX5, 118, "end", [101, 110, 100])).all (fun c => ((NF.drop 198).take 7).contains c) = true := by decide +kernel
theorem nt_12 : (tnd (RX5, 120, "nth", [110, 116, 104])).all (fun c => ((NF.drop 205).take 7).contains c) = true := by decide +kernel
theorem nt_13 : (tnd (RX5, 125, "last", [108, 97, 115, 116])).all (fun c => ((NF.drop 212).take 8).contains c) = true := by decide +kernel
theorem nt_14 : (tnd (RX5, 127, "from", [102, 114, 111, 109])).all (fun c => ((NF.drop 220).take 8).contains c) = true := by decide +kernel
theorem nt_15 : (tnd (RX5, 140, "times", [116, 105, 109, 101, 115])).all (fun c => ((NF.drop 228).take 9).contains c) = true := by decide +kernel
theorem nt_16 : (tnd (RX5, 144, "until", [117, 110, 116, 105, 108])).all (fun c => ((NF.drop 237).take 9).contains c) = true := by decide +kernel
theorem nt_17 : (tnd (RX5, 192, "montuewedthufrisatsun", [109, 111, 110, 116, 117, 101, 119, 101, 100, 116, 104, 117, 102, 114, 105, 115, 97, 116, 115, 117, 110])).all (fun c => ((NF.drop 157).take 25).contains c) = true := by decide +kernel
theorem nt_18 : (tnd (RX10, 140, "mon", [109, 111, 110])).all (fun c => ((NF.drop 330).take 7).contains c) = true := by decide +kernel
theorem nt_19 : (tnd (RX10, 142, "tue", [116, 117, 101])).all (fun c => ((NF.drop 337).take 7).contains c) = true := by decide +kernel
theorem nt_20 : (tnd (RX10, 144, "wed", [119, 101, 100])).all (fun c => ((NF.drop 344).take 7).contains c) = true := by decide +kernel
theorem nt_21 : (tnd (RX10, 146, "thu", [116, 104, 117])).all (fun c => ((NF.drop 351).take 7).contains c) = true := by decide +kernel
theorem nt_22 : (tnd (RX10, 148, "fri", [102, 114, 105])).all (fun c => ((NF.drop 358).take 7).contains c) = true := by decide +kernel
theorem nt_23 : (tnd (RX10, 150, "sat", [115, 97, 116])).all (fun c => ((NF.drop 365).take 7).contains c) = true := by decide +kernel
theorem nt_24 : (tnd (RX10, 152, "sun", [115, 117, 110])).all (fun c => ((NF.drop 372).take 7).contains c) = true := by decide +kernel
theorem nt_25 : (tnd (RX10, 167, "once", [111, 110, 99, 101])).all (fun c => ((NF.drop 292).take 8).contains c) = true := by decide +kernel
theorem nt_26 : (tnd (RX10, 169, "every", [101, 118, 101, 114, 121])).all (fun c => ((NF.drop 301).take 9).contains c) = true := by decide +kernel
theorem nt_27 : (tnd (RX10, 175, "days", [100, 97, 121, 115])).all (fun c => ((NF.drop 311).take 8).contains c) = true := by decide +kernel
theorem nt_28 : (tnd (RX10, 177, "weeks", [119, 101, 101, 107, 115])).all (fun c => ((NF.drop 320).take 9).contains c) = true := by decide +kernel
theorem nt_29 : (tnd (RX10, 182, "months", [109, 111, 110, 116, 104, 115])).all (fun c => ((NF.drop 379).take 10).contains c) = true := by decide +kernel
theorem nt_30 : (tnd (RX10, 187, "years", [121, 101, 97, 114, 115])).all (fun c => ((NF.drop 422).take 9).contains c) = true := by decide +kernel
theorem nt_31 : (tnd (RX10, 189, "on", [111, 110])).all (fun c => ((NF.drop 390).take 6).contains c) = true := by decide +kernel
theorem nt_32 : (tnd (RX10, 191, "end", [101, 110, 100])).all (fun c => ((NF.drop 397).take 7).contains c) = true := by decide +kernel
theorem nt_33 : (tnd (RX10, 193, "nth", [110, 116, 104])).all (fun c => ((NF.drop 405).take 7).contains c) = true := by decide +kernel
theorem nt_34 : (tnd (RX10, 198, "last", [108, 97, 115, 116])).all (fun c => ((NF.drop 413).take 8).contains c) = true := by decide +kernel
theorem nt_35 : (tnd (RX10, 200, "until", [117, 110, 116, 105, 108])).all (fun c => ((NF.drop 441).take 9).contains c) = true := by decide +kernel
theorem nt_36 : (tnd (RX10, 205, "times", [116, 105, 109, 101, 115])).all (fun c => ((NF.drop 451).take 9).contains c) = true := by decide +kernel
theorem nt_37 : (tnd (RX10, 206, "book", [98, 111, 111, 107])).all (fun c => ((NF.drop 268).take 8).contains c) = true := by decide +kernel
theorem nt_38 : (tnd (RX10, 208, "at", [97, 116])).all (fun c => ((NF.drop 277).take 6).contains c) = true := by decide +kernel
theorem nt_39 : (tnd (RX10, 210, "for", [102, 111, 114])).all (fun c => ((NF.drop 284).take 7).contains c) = true := by decide +kernel
theorem nt_40 : (tnd (RX10, 215, "from", [102, 114, 111, 109])).all (fun c => ((NF.drop 432).take 8).contains c) = true := by decide +kernel
theorem nt_in : ∀ w ∈ stl, ∀ c ∈ tnd w, c ∈ NF := List.forall_mem_cons.mpr ⟨nf_all nt_0, List.forall_mem_cons.mpr ⟨nf_all nt_1, List.forall_mem_cons.mpr ⟨nf_all nt_2, List.forall_mem_cons.mpr ⟨nf_all nt_3, List.forall_mem_cons.mpr ⟨nf_all nt_4, List.forall_mem_cons.mpr ⟨nf_all nt_5, List.forall_mem_cons.mpr ⟨nf_all nt_6, List.forall_mem_cons.mpr ⟨nf_all nt_7, List.forall_mem_cons.mpr ⟨nf_all nt_8, List.forall_mem_cons.mpr ⟨nf_all nt_9, List.forall_mem_cons.mpr ⟨nf_all nt_10, List.forall_mem_cons.mpr ⟨nf_all nt_11, List.forall_mem_cons.mpr ⟨nf_all nt_12, List.forall_mem_cons.mpr ⟨nf_all nt_13, List.forall_mem_cons.mpr ⟨nf_all nt_14, List.forall_mem_cons.mpr ⟨nf_all nt_15, List.forall_mem_cons.mpr ⟨nf_all nt_16, List.forall_mem_cons.mpr ⟨nf_all nt_17, List.forall_mem_cons.mpr ⟨nf_all nt_18, List.forall_mem_cons.mpr ⟨nf_all nt_19, List.forall_mem_cons.mpr ⟨nf_all nt_20, List.forall_mem_cons.mpr ⟨nf_all nt_21, List.forall_mem_cons.mpr ⟨nf_all nt_22, List.forall_mem_cons.mpr ⟨nf_all nt_23, List.forall_mem_cons.mpr ⟨nf_all nt_24, List.forall_mem_cons.mpr ⟨nf_all nt_25, List.forall_mem_cons.mpr ⟨nf_all nt_26, List.forall_mem_cons.mpr ⟨nf_all nt_27, List.forall_mem_cons.mpr ⟨nf_all nt_28, List.forall_mem_cons.mpr ⟨nf_all nt_29, List.forall_mem_cons.mpr ⟨nf_all nt_30, List.forall_mem_cons.mpr ⟨nf_all nt_31, List.forall_mem_cons.mpr ⟨nf_all nt_32, List.forall_mem_cons.mpr ⟨nf_all nt_33, List.forall_mem_cons.mpr ⟨nf_all nt_34, List.forall_mem_cons.mpr ⟨nf_all nt_35, List.forall_mem_cons.mpr ⟨nf_all nt_36, List.forall_mem_cons.mpr ⟨nf_all nt_37, List.forall_mem_cons.mpr ⟨nf_all nt_38, List.forall_mem_cons.mpr ⟨nf_all nt_39, List.forall_mem_cons.mpr ⟨nf_all nt_40, fun _ h => absurd h List.not_mem_nil⟩⟩⟩⟩⟩⟩⟩⟩⟩⟩⟩⟩⟩⟩⟩⟩⟩⟩⟩⟩⟩⟩⟩⟩⟩⟩⟩⟩⟩⟩⟩⟩⟩⟩⟩⟩⟩⟩⟩⟩⟩
def cnd : List Cond := (List.range 48).map (fun j => Cond.eq (.elem (.static "BookIndex$Calendar" "CYCLE" "[I") (.int (Int32.ofNat j))) (.int (iI (cyc.getD j 0))))
theorem cnd_in : ∀ c ∈ cnd, c ∈ NF := nf_all (a := 12) (n := 48) (by decide +kernel)
theorem c3_in : ∀ c ∈ [Cond.arrayOf (.static "BookIndex$Calendar" "CYCLE" "[I") .int, Cond.eq (.length (.static "BookIndex$Calendar" "CYCLE" "[I")) (.int 48)], c ∈ NF := nf_all (a := 10) (n := 2) (by decide +kernel)
theorem c4_in : ∀ c ∈ [Cond.eq (.static "java/lang/String" "COMPACT_STRINGS" "Z") (.int 1), Cond.isRef (.static "jdk/internal/util/Preconditions" "SIOOBE_FORMATTER" "Ljava/util/function/BiFunction;")], c ∈ NF := nf_all (a := 4) (n := 2) (by decide +kernel)
theorem c5_in : ∀ c ∈ [Cond.isRef (.static Bundle.tN "UNASSIGNED_STACK" Bundle.steD), Cond.isRef (.static Bundle.tN "SUPPRESSED_SENTINEL" Bundle.listD)], c ∈ NF := nf_all (a := 60) (n := 2) (by decide +kernel)
theorem sr_in : ∀ w ∈ stl, Cond.stringRef w.1 w.2.1 w.2.2.1 ∈ lw_tbl := by decide +kernel
theorem nwl_in : ∀ w ∈ nwl, w ∈ lw_tbl := by decide +kernel
theorem vx9_g : ∀ w ∈ atN.filter goodWord, w ∈ lw_tbl := by decide +kernel
theorem vx9_b1 : Cond.declares (Bundle.initS "java/lang/RuntimeException") ∈ lw_tbl := by decide +kernel
theorem vx9_b2 : Cond.declares (Bundle.initS "java/lang/Exception") ∈ lw_tbl := by decide +kernel
theorem vx9_b3 : Cond.declares (Bundle.initS Bundle.tN) ∈ lw_tbl := by decide +kernel
theorem vx9_b4 : Cond.castable nse nse ∈ lw_tbl := by decide +kernel
theorem vx9_in : ∀ w ∈ atN, w ∈ lw_tbl := fun w hw => by
  by_cases hg : goodWord w = true
  · exact vx9_g w (List.mem_filter.mpr ⟨hw, hg⟩)
  · have h1 : w ∈ atN.filter (fun w => !goodWord w) := List.mem_filter.mpr ⟨hw, by simp [hg]⟩
    rw [vx9_bad] at h1
    simp only [List.mem_cons, List.not_mem_nil, or_false] at h1
    rcases h1 with rfl | rfl | rfl | rfl
    · exact vx9_b1
    · exact vx9_b2
    · exact vx9_b3
    · exact vx9_b4
theorem st_in : ∀ w ∈ [Cond.laysStatic RX1 "CYCLE" "[I", Cond.initialized RX1, Cond.laysStatic "java/lang/String" "COMPACT_STRINGS" "Z", Cond.initialized "java/lang/String", Cond.laysStatic "jdk/internal/util/Preconditions" "SIOOBE_FORMATTER" "Ljava/util/function/BiFunction;", Cond.initialized "jdk/internal/util/Preconditions", Cond.laysStatic Bundle.tN "UNASSIGNED_STACK" Bundle.steD, Cond.initialized Bundle.tN, Cond.laysStatic Bundle.tN "SUPPRESSED_SENTINEL" Bundle.listD], w ∈ lw_tbl := by decide +kernel
theorem nwl_warm : ∀ w ∈ nwl, ∀ u U : State, u.WarmedH U.vm → va_Nw w u → va_Nw w U := List.forall_mem_cons.mpr ⟨fun u U h z => va_Nw.warmF h z, List.forall_mem_cons.mpr ⟨fun u U h z => va_Nw.warmM h z, List.forall_mem_cons.mpr ⟨fun u U h z => va_Nw.warmM h z, List.forall_mem_cons.mpr ⟨fun u U h z => va_Nw.warmM h z, List.forall_mem_cons.mpr ⟨fun u U h z => va_Nw.warmM h z, List.forall_mem_cons.mpr ⟨fun u U h z => va_Nw.warmM h z, List.forall_mem_cons.mpr ⟨fun u U h z => va_Nw.warmM h z, List.forall_mem_cons.mpr ⟨fun u U h z => va_Nw.warmM h z, List.forall_mem_cons.mpr ⟨fun u U h z => va_Nw.warmM h z, List.forall_mem_cons.mpr ⟨fun u U h z => va_Nw.warmM h z, List.forall_mem_cons.mpr ⟨fun u U h z => va_Nw.warmM h z, List.forall_mem_cons.mpr ⟨fun u U h z => va_Nw.warmM h z, List.forall_mem_cons.mpr ⟨fun u U h z => va_Nw.warmM h z, List.forall_mem_cons.mpr ⟨fun u U h z => va_Nw.warmM h z, List.forall_mem_cons.mpr ⟨fun u U h z => va_Nw.warmM h z, List.forall_mem_cons.mpr ⟨fun u U h z => va_Nw.warmD h z, List.forall_mem_cons.mpr ⟨fun u U h z => va_Nw.warmD h z, List.forall_mem_cons.mpr ⟨fun u U h z => va_Nw.warmD h z, List.forall_mem_cons.mpr ⟨fun u U h z => va_Nw.warmD h z, List.forall_mem_cons.mpr ⟨fun u U h z => va_AO.moved h.alike z, List.forall_mem_cons.mpr ⟨fun u U h z => va_AO.moved h.alike z, fun _ h => absurd h List.not_mem_nil⟩⟩⟩⟩⟩⟩⟩⟩⟩⟩⟩⟩⟩⟩⟩⟩⟩⟩⟩⟩⟩
theorem nwl_same : ∀ w ∈ nwl, ∀ u U : State, U.vm = u.vm → va_Nw w u → va_Nw w U := List.forall_mem_cons.mpr ⟨fun u U h z => va_Nw.same rfl h.symm z, List.forall_mem_cons.mpr ⟨fun u U h z => va_Nw.same rfl h.symm z, List.forall_mem_cons.mpr ⟨fun u U h z => va_Nw.same rfl h.symm z, List.forall_mem_cons.mpr ⟨fun u U h z => va_Nw.same rfl h.symm z, List.forall_mem_cons.mpr ⟨fun u U h z => va_Nw.same rfl h.symm z, List.forall_mem_cons.mpr ⟨fun u U h z => va_Nw.same rfl h.symm z, List.forall_mem_cons.mpr ⟨fun u U h z => va_Nw.same rfl h.symm z, List.forall_mem_cons.mpr ⟨fun u U h z => va_Nw.same rfl h.symm z, List.forall_mem_cons.mpr ⟨fun u U h z => va_Nw.same rfl h.symm z, List.forall_mem_cons.mpr ⟨fun u U h z => va_Nw.same rfl h.symm z, List.forall_mem_cons.mpr ⟨fun u U h z => va_Nw.same rfl h.symm z, List.forall_mem_cons.mpr ⟨fun u U h z => va_Nw.same rfl h.symm z, List.forall_mem_cons.mpr ⟨fun u U h z => va_Nw.same rfl h.symm z, List.forall_mem_cons.mpr ⟨fun u U h z => va_Nw.same rfl h.symm z, List.forall_mem_cons.mpr ⟨fun u U h z => va_Nw.same rfl h.symm z, List.forall_mem_cons.mpr ⟨fun u U h z => va_Nw.same rfl h.symm z, List.forall_mem_cons.mpr ⟨fun u U h z => va_Nw.same rfl h.symm z, List.forall_mem_cons.mpr ⟨fun u U h z => va_Nw.same rfl h.symm z, List.forall_mem_cons.mpr ⟨fun u U h z => va_Nw.same rfl h.symm z, List.forall_mem_cons.mpr ⟨fun u U h z => va_AO.moved (show u.vm.Alike U.vm by rw [h]; exact Vm.Alike.refl _) z, List.forall_mem_cons.mpr ⟨fun u U h z => va_AO.moved (show u.vm.Alike U.vm by rw [h]; exact Vm.Alike.refl _) z, fun _ h => absurd h List.not_mem_nil⟩⟩⟩⟩⟩⟩⟩⟩⟩⟩⟩⟩⟩⟩⟩⟩⟩⟩⟩⟩⟩
theorem nwl_of : ∀ w ∈ nwl, ∀ (a : Array Value) (U : State), w.before a U = true → va_Nw w U := List.forall_mem_cons.mpr ⟨fun a U h => va_Nw.of rfl h, List.forall_mem_cons.mpr ⟨fun a U h => va_Nw.of rfl h, List.forall_mem_cons.mpr ⟨fun a U h => va_Nw.of rfl h, List.forall_mem_cons.mpr ⟨fun a U h => va_Nw.of rfl h, List.forall_mem_cons.mpr ⟨fun a U h => va_Nw.of rfl h, List.forall_mem_cons.mpr ⟨fun a U h => va_Nw.of rfl h, List.forall_mem_cons.mpr ⟨fun a U h => va_Nw.of rfl h, List.forall_mem_cons.mpr ⟨fun a U h => va_Nw.of rfl h, List.forall_mem_cons.mpr ⟨fun a U h => va_Nw.of rfl h, List.forall_mem_cons.mpr ⟨fun a U h => va_Nw.of rfl h, List.forall_mem_cons.mpr ⟨fun a U h => va_Nw.of rfl h, List.forall_mem_cons.mpr ⟨fun a U h => va_Nw.of rfl h, List.forall_mem_cons.mpr ⟨fun a U h => va_Nw.of rfl h, List.forall_mem_cons.mpr ⟨fun a U h => va_Nw.of rfl h, List.forall_mem_cons.mpr ⟨fun a U h => va_Nw.of rfl h, List.forall_mem_cons.mpr ⟨fun a U h => va_Nw.of rfl h, List.forall_mem_cons.mpr ⟨fun a U h => va_Nw.of rfl h, List.forall_mem_cons.mpr ⟨fun a U h => va_Nw.of rfl h, List.forall_mem_cons.mpr ⟨fun a U h => va_Nw.of rfl h, List.forall_mem_cons.mpr ⟨fun a U h => va_AO.of h, List.forall_mem_cons.mpr ⟨fun a U h => va_AO.of h, fun _ h => absurd h List.not_mem_nil⟩⟩⟩⟩⟩⟩⟩⟩⟩⟩⟩⟩⟩⟩⟩⟩⟩⟩⟩⟩⟩
theorem tx_of {args : Array Value} {s : State} {w : TW} {A : Nat → Prop} (hlen : w.2.2.2.length < 2 ^ 31) (hsr : (Cond.stringRef w.1 w.2.1 w.2.2.1).before args s = true) (h : ∀ c ∈ tnd w, c.before args s = true) (hA : ∀ a : Nat, a < s.heap.size → ¬ A a) : ∃ q : Nat × Nat, vk_R w.1 w.2.1 w.2.2.1 q.1 s ∧ Tx w.2.2.2 q.1 q.2 A s s.heap := by
  have hex := h (.exactly (.string w.1 w.2.1) "java/lang/String") (List.mem_append_left _ List.mem_cons_self)
  have hco := h (.eq (.field (.string w.1 w.2.1) "java/lang/String" "coder" "B") (.int 0)) (List.mem_append_left _ (List.mem_cons_of_mem _ List.mem_cons_self))
  have har := h (.arrayOf (tvl w) .byte) (List.mem_append_left _ (List.mem_cons_of_mem _ (List.mem_cons_of_mem _ List.mem_cons_self)))
  have hle := h (.eq (.length (tvl w)) (.int (Int32.ofNat w.2.2.2.length))) (List.mem_append_left _ (List.mem_cons_of_mem _ (List.mem_cons_of_mem _ (List.mem_cons_of_mem _ List.mem_cons_self))))
  have hel : ∀ j : Nat, j < w.2.2.2.length → (Cond.eq (.elem (tvl w) (.int (Int32.ofNat j))) (.int (w.2.2.2.getD j 0))).before args s = true := fun j hj => h _ (List.mem_append_right _ (List.mem_map.mpr ⟨j, List.mem_range.mpr hj, rfl⟩))
  obtain ⟨a, c, cA, kA, q1, q2, q3, q4, q5, q6, -⟩ := Cond.exactly_spec (args := args) (first := s) (o := none) (s := s) (idx := []) (t := .string w.1 w.2.1) (cls := "java/lang/String") hex
  obtain ⟨t, ht, hT⟩ := va_Tof (f := fun j => .int (w.2.2.2.getD j 0)) (A := A) hlen har (va_eqt hle) (fun j hj => va_eqt (hel j hj)) hA
  exact ⟨(a, t), vk_R.of hsr q1, ⟨cA, q3, q5, by rw [q6]; exact q2, hA a (Array.getElem?_eq_some_iff.mp q3).1⟩, vk_OFof q1 (va_eqt hco) hA, vk_OFof q1 ht hA, hT⟩
theorem stl_len : ∀ w ∈ stl, w.2.2.2.length < 2 ^ 31 := by decide +kernel
def Zz (ad : TW → Nat × Nat) : Zt := fun A U H => ZC A U H ∧ ZN U ∧ ZX A U H ∧ ZE U ∧ ∀ w ∈ stl, vk_R w.1 w.2.1 w.2.2.1 (ad w).1 U ∧ Tx w.2.2.2 (ad w).1 (ad w).2 A U H
theorem ZC.moved {A : Nat → Prop} {u U : State} {H : Heap} (h : u.vm.Alike U.vm) (z : ZC A u H) : ZC A U H := by
  obtain ⟨t, h1, h2⟩ := z
  exact ⟨t, va_Z.moved h h1, va_T.moved h h2⟩
theorem ZX.moved {A : Nat → Prop} {u U : State} {H : Heap} (h : u.vm.Alike U.vm) (z : ZX A u H) : ZX A U H := ⟨va_Z.moved h z.1, va_Zq.moved h z.2.1, vx_Zq.moved h z.2.2.1, vx_Zq.moved h z.2.2.2⟩
theorem Tx.moved {b : List Int32} {q v : Nat} {A : Nat → Prop} {u U : State} {H : Heap} (h : u.vm.Alike U.vm) (z : Tx b q v A u H) : Tx b q v A U H := ⟨va_O.moved h z.1, va_OF.moved h z.2.1, va_OF.moved h z.2.2.1, va_T.moved h z.2.2.2⟩
theorem Zz_ok (ad : TW → Nat × Nat) : Zok (Zz ad) := by
  refine ⟨⟨fun A u U H h z => ?_, fun w hw => ⟨(ad w).1, (ad w).2, fun A U H z => z.2.2.2.2 w hw⟩, fun A U H z => z.2.2.1⟩, fun A u U H h z => ?_, fun A U H H1 z h => ?_, fun A B U H z h => ?_, fun A U H z => ⟨z.1, z.2.1⟩⟩
  · have al : u.vm.Alike U.vm := by rw [h]; exact Vm.Alike.refl _
    exact ⟨z.1.moved al, fun w hw => nwl_same w hw u U h (z.2.1 w hw), z.2.2.1.moved al, z.2.2.2.1.same h, fun w hw => ⟨vk_R.same h (z.2.2.2.2 w hw).1, (z.2.2.2.2 w hw).2.moved al⟩⟩
  · exact ⟨z.1.moved h.alike, fun w hw => nwl_warm w hw u U h (z.2.1 w hw), z.2.2.1.moved h.alike, z.2.2.2.1.warm h, fun w hw => ⟨vk_R.warm h (z.2.2.2.2 w hw).1, (z.2.2.2.2 w hw).2.moved h.alike⟩⟩
  · obtain ⟨⟨t, c1, c2⟩, z2, z3, z4, z5⟩ := z
    exact ⟨⟨t, c1.kept h, c2.kept h⟩, z2, ⟨z3.1.kept h, z3.2.1.kept h, z3.2.2.1.kept h, z3.2.2.2.kept h⟩, z4, fun w hw => ⟨(z5 w hw).1, (z5 w hw).2.1.kept h, (z5 w hw).2.2.1.kept h, (z5 w hw).2.2.2.1.kept h, (z5 w hw).2.2.2.2.kept h⟩⟩
  · obtain ⟨⟨t, c1, c2⟩, z2, z3, z4, z5⟩ := z
    exact ⟨⟨t, c1.narrow h, c2.narrow h⟩, z2, ⟨z3.1.narrow h, z3.2.1.narrow h, z3.2.2.1.narrow h, z3.2.2.2.narrow h⟩, z4, fun w hw => ⟨(z5 w hw).1, (z5 w hw).2.1.narrow h, (z5 w hw).2.2.1.narrow h, (z5 w hw).2.2.2.1.narrow h, (z5 w hw).2.2.2.2.narrow h⟩⟩
theorem z_start {args : Array Value} {s : State} {A : Nat → Prop} (hts : ∀ w ∈ lw_tbl, w.before args s = true) (hgv : (Jvm.Cond.and given_1 narrow_1).before args s = true) (hA : ∀ a : Nat, a < s.heap.size → ¬ A a) : ∃ Z : Zt, Zok Z ∧ (∀ (A : Nat → Prop) (U : State) (H : Heap), Z A U H → ZE U) ∧ Z A s s.heap := by
  have hf : ∀ c ∈ NF, c.before args s = true := flat_of_before _ hgv
  have hst := fun (w : Cond) h => hts w (st_in w h)
  have h0 : ∀ w : TW, ∃ q : Nat × Nat, w ∈ stl → vk_R w.1 w.2.1 w.2.2.1 q.1 s ∧ Tx w.2.2.2 q.1 q.2 A s s.heap := by
    intro w
    by_cases hw : w ∈ stl
    · obtain ⟨q, h⟩ := tx_of (A := A) (stl_len w hw) (hts _ (sr_in w hw)) (fun c hc => hf c (nt_in w hw c hc)) hA
      exact ⟨q, fun _ => h⟩
    · exact ⟨(0, 0), fun h => absurd h hw⟩
  obtain ⟨ad, had⟩ := Classical.axiomOfChoice h0
  obtain ⟨t, ht, hT⟩ := va_Tof (args := args) (s := s) (tm := .static "BookIndex$Calendar" "CYCLE" "[I") (ty := .int) (N := 48) (f := fun j => .int (iI (cyc.getD j 0))) (A := A) (by decide) (hf _ (c3_in _ List.mem_cons_self)) (va_eqt (hf _ (c3_in _ (List.mem_cons_of_mem _ List.mem_cons_self)))) (fun j hj => va_eqt (hf _ (cnd_in _ (List.mem_map.mpr ⟨j, List.mem_range.mpr hj, rfl⟩)))) hA
  refine ⟨Zz ad, Zz_ok ad, fun A U H z => z.2.2.2.1, ⟨t, va_Zref (hst _ (List.mem_of_getElem? (i := 0) rfl)) (hst _ (List.mem_of_getElem? (i := 1) rfl)) ht hA, hT⟩, fun w hw => nwl_of w hw args s (hts w (nwl_in w hw)), ⟨va_Zof (hst _ (List.mem_of_getElem? (i := 2) rfl)) (hst _ (List.mem_of_getElem? (i := 3) rfl)) (va_eqt (hf _ (c4_in _ List.mem_cons_self))) hA, va_Zqof (hst _ (List.mem_of_getElem? (i := 4) rfl)) (hst _ (List.mem_of_getElem? (i := 5) rfl)) (hf _ (c4_in _ (List.mem_cons_of_mem _ List.mem_cons_self))) hA, vx_Zqof (hst _ (List.mem_of_getElem? (i := 6) rfl)) (hst _ (List.mem_of_getElem? (i := 7) rfl)) (hf _ (c5_in _ List.mem_cons_self)) hA, vx_Zqof (hst _ (List.mem_of_getElem? (i := 8) rfl)) (hst _ (List.mem_of_getElem? (i := 7) rfl)) (hf _ (c5_in _ (List.mem_cons_of_mem _ List.mem_cons_self))) hA⟩, fun w hw => va_Nw.of (List.all_eq_true.mp vx9_on w hw) (hts w (vx9_in w hw)), fun w hw => had w hw⟩
theorem k_start {args : Array Value} {s : State} (hT : ∀ w ∈ TB, w.before args s = true) (hN : ∀ w ∈ nwl, w.before args s = true) : ∃ (D : va_G) (cy : Cy) (cL : ClassId), va_K D vwCl (tl cy cL) s := by
  obtain ⟨c0, i0, k0⟩ := u_known (C := RX0) (T := TX0) (N := 15) (n := 15) hT mfX00 (hT _ (mr2 _ (List.mem_of_getElem? (i := 8) rfl)))
  obtain ⟨c1, i1, k1⟩ := u_known (C := RX2) (T := TX2) (N := 4) (n := 4) hT mfX20 (hT _ (mr12 _ (List.mem_of_getElem? (i := 11) rfl)))
  obtain ⟨c2, i2, k2⟩ := u_known (C := RX3) (T := TX3) (N := 7) (n := 7) hT mfX30 (hT _ (mr12 _ (List.mem_of_getElem? (i := 17) rfl)))
  obtain ⟨c3, i3, k3⟩ := u_known (C := RX4) (T := TX4) (N := 3) (n := 3) hT mfX40 (hT _ (mr2 _ (List.mem_of_getElem? (i := 6) rfl)))
  obtain ⟨c4, i4, k4⟩ := u_known (C := RX5) (T := TX5) (N := 10) (n := 10) hT mfX50 (hT _ (mr5 _ (List.mem_of_getElem? (i := 17) rfl)))
  obtain ⟨c5, i5, k5⟩ := u_known (C := RX7) (T := TX7) (N := 2) (n := 2) hT mfX70 (hT _ (mr1 _ (List.mem_of_getElem? (i := 18) rfl)))
  obtain ⟨c6, i6, k6⟩ := u_known (C := RX8) (T := TX8) (N := 6) (n := 6) hT mfX80 (hT _ (mr12 _ (List.mem_of_getElem? (i := 14) rfl)))
  obtain ⟨c7, i7, k7⟩ := u_known (C := RX9) (T := TX9) (N := 4) (n := 4) hT mfX90 (hT _ (mr1 _ (List.mem_of_getElem? (i := 1) rfl)))
  obtain ⟨c8, i8, k8⟩ := u_known (C := RX10) (T := TX10) (N := 26) (n := 26) hT mfX100 (hT _ (mr1 _ (List.mem_of_getElem? (i := 4) rfl)))
  obtain ⟨aC, qC, oC, fC, gC, hC⟩ := Cond.arrayClass_spec (hT (Cond.arrayClass .char) (mr1 _ (List.mem_of_getElem? (i := 14) rfl)))
  obtain ⟨aI, qI, oI, fI, gI, hI⟩ := Cond.arrayClass_spec (hT (Cond.arrayClass .int) (mr3 _ (List.mem_of_getElem? (i := 1) rfl)))
  obtain ⟨aZ, qZ, oZ, fZ, gZ, hZ⟩ := Cond.arrayClass_spec (hT (Cond.arrayClass .boolean) (mr4 _ (List.mem_of_getElem? (i := 1) rfl)))
  obtain ⟨aJ, qJ, oJ, fJ, gJ, hJ⟩ := Cond.arrayClass_spec (hT (Cond.arrayClass .long) (mr1 _ (List.mem_of_getElem? (i := 6) rfl)))
  obtain ⟨oB, aB, qB, eB, -, gB, hB, fB⟩ := Cond.arrayOver_spec (hN (Cond.arrayOver (.object "BookIndex$Booking")) (List.mem_of_getElem? (i := 19) rfl))
  obtain ⟨oS, aS, qS, eS, -, gS, hS, fS⟩ := Cond.arrayOver_spec (hN (Cond.arrayOver (.object "BookIndex$Shelf")) (List.mem_of_getElem? (i := 20) rfl))
  refine ⟨(fun k => match k with | 0 => c0 | 1 => c1 | 2 => c2 | 3 => c3 | 4 => c4 | 5 => c5 | 6 => c6 | 7 => c7 | _ => c8, fun k => match k with | 0 => i0 | 1 => i1 | 2 => i2 | 3 => i3 | 4 => i4 | 5 => i5 | 6 => i6 | 7 => i7 | _ => i8), (aC, aI, aZ, aB, aS), aJ, fun k q hq => ?_, fun k q hq => ?_⟩
  · match k, hq with
    | 0, hq => cases hq; exact k0
    | 1, hq => cases hq; exact k1
    | 2, hq => cases hq; exact k2
    | 3, hq => cases hq; exact k3
    | 4, hq => cases hq; exact k4
    | 5, hq => cases hq; exact k5
    | 6, hq => cases hq; exact k6
    | 7, hq => cases hq; exact k7
    | 8, hq => cases hq; exact k8
    | k + 9, hq => cases hq
  · match k, hq with
    | 0, hq => cases hq; exact ⟨fun n z => ⟨fun k h => (by cases h), qC, gC, oC, hC⟩, fC⟩
    | 1, hq => cases hq; exact ⟨fun n z => ⟨fun k h => (by cases h), qI, gI, oI, hI⟩, fI⟩
    | 2, hq => cases hq; exact ⟨fun n z => ⟨fun k h => (by cases h), qZ, gZ, oZ, hZ⟩, fZ⟩
    | 3, hq => cases hq; exact ⟨fun n z => ⟨fun k h => (by cases h), qB, gB, oB, hB⟩, qB, oB, gB, hB, eB, fB⟩
    | 4, hq => cases hq; exact ⟨fun n z => ⟨fun k h => (by cases h), qS, gS, oS, hS⟩, qS, oS, gS, hS, eS, fS⟩
    | 5, hq => cases hq; exact ⟨fun n z => ⟨fun k h => (by cases h), qJ, gJ, oJ, hJ⟩, fJ⟩
    | k + 6, hq => cases hq
