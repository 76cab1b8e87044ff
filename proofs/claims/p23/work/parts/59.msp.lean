/-! ===== the reference's rows, as they are made ===== -/
def MSp (cy : Cy) (S : List Nat) (L : List Nat) (f : Nat → va_E) (a : Nat) (ad : Nat → Nat) : Prop :=
  a ∈ L ∧ Ob f a 8 ∧ (∀ k ∈ S, fR f a k = some (ad k) ∧ ad k ∈ L ∧ ArI f (ad k) (mcl cy k) (mlen k)) ∧ (∀ i ∈ S, ∀ j ∈ S, ad i = ad j → i = j)
theorem MSp.step {cy : Cy} {S L : List Nat} {f g : Nat → va_E} {a K q : Nat} {ad : Nat → Nat} (h : MSp cy S L f a ad) (hq : q ∉ L) (hg : ∀ x ∈ L, g x = f x) (hA : ArI g q (mcl cy K) (mlen K)) (hK : (sg 8)[K]? = some 2) (hS : K ∉ S) : MSp cy (K :: S) (L ++ [q]) (pU g a K (.ref q)) a (va_up ad K q) := by
  obtain ⟨h1, h2, h3, h4⟩ := h
  have oa : Ob g a 8 := Ob_of (hg a h1) h2
  have adK : va_up ad K q K = q := va_up_self _ _ _
  have adk : ∀ k ∈ S, va_up ad K q k = ad k := fun k m => va_up_ne _ _ (fun z => hS (z ▸ m))
  refine ⟨List.mem_append_left _ h1, Ob_pU oa hK rfl oa, fun k m => ?_, fun i mi j mj e => ?_⟩
  · rcases List.mem_cons.mp m with rfl | m
    · rw [adK]
      exact ⟨fR_pU_self oa hK, List.mem_append_right _ (List.mem_singleton.mpr rfl), ArI_pU hA⟩
    · obtain ⟨p1, p2, p3⟩ := h3 k m
      rw [adk k m]
      exact ⟨(fR_pU (Or.inr (fun (z : k = K) => hS (z ▸ m)))).trans ((fR_of (hg a h1)).trans p1), List.mem_append_left _ p2, ArI_pU (ArI_of (hg _ p2) p3)⟩
  · rcases List.mem_cons.mp mi with ei | mi
    · rcases List.mem_cons.mp mj with ej | mj
      · rw [ei, ej]
      · rw [ei, adK, adk j mj] at e
        exact absurd (h3 j mj).2.1 (e ▸ hq)
    · rcases List.mem_cons.mp mj with ej | mj
      · rw [ej, adK, adk i mi] at e
        exact absurd (h3 i mi).2.1 (e.symm ▸ hq)
      · rw [adk i mi, adk j mj] at e
        exact h4 i mi j mj e
theorem MSp.full {cy : Cy} {S L : List Nat} {f : Nat → va_E} {a : Nat} {ad : Nat → Nat} (h : MSp cy S L f a ad) (hS : [0, 1, 2, 3, 4, 6, 7, 8, 11, 12, 13, 21, 23, 25].all (fun k => S.contains k) = true) : MS cy L f a ad := by
  have key : ∀ k : Nat, mref k = true → k ∈ S := fun k hk => List.contains_iff_mem.mp (List.all_eq_true.mp hS k (List.contains_iff_mem.mp hk))
  exact ⟨h.1, h.2.1, fun k hk => h.2.2.1 k (key k hk), fun i j hi hj e => h.2.2.2 i (key i hi) j (key j hj) e⟩
theorem mst_cg {y y' m : Int} (h : y = y') : mst y m = mst y' m := by rw [h]
theorem mst_nx {y m m' : Int} (h1 : 1 ≤ m) (h2 : m ≤ 11) (h : m' = m + 1) : mst y m' = mst y m + dI y m := by rw [h]; exact mst_next h1 (by omega)
theorem mst_yr {y m : Int} (h : m = 12) : mst (y + 1) 1 = mst y m + dI y m := by rw [h]; exact mst_year y
theorem DT_0 (f : Nat → va_E) (ad : Nat → Nat) : DT f ad 0 := by
  intro y m k p1 p2 p3 p4 p5 p6 p7
  have := mst_rg p1 p2 p3 p4 p5 p6
  omega
theorem DT_to {f : Nat → va_E} {ad : Nat → Nat} {d d' : Int} (h : DT f ad d) (e : d' = d) : DT f ad d' := by rw [e]; exact h
