theorem nw_K {own : String} {idx ci N : Nat} {fs : List Value} {args : Array Value} {s : State} (h : nwOK own idx ci N fs) (hts : ∀ w ∈ XW, w.before args s = true) : ∃ d : ClassId × (Nat → Nat), ∀ q, clsX[ci]? = some q → u_Kn s q.1 q.2.1 q.2.2 d.1 d.2 := by
  obtain ⟨q, hc, hN, hin, w1, w2, -⟩ := h
  obtain ⟨cC, iS, hk⟩ := u_known hts hin (hts _ w2)
  exact ⟨(cC, iS), fun q' hq' => by rw [hc] at hq'; cases hq'; exact hk⟩
theorem st_D {args : Array Value} {s : State} (hts : ∀ w ∈ XW, w.before args s = true) : ∃ D : va_G, ∀ (c : Nat) (q : vw_C), clsX[c]? = some q → u_Kn s q.1 q.2.1 q.2.2 (D.1 c) (D.2 c) := by
  have h0 : ∀ c : Nat, ∃ d : ClassId × (Nat → Nat), ∀ q, clsX[c]? = some q → u_Kn s q.1 q.2.1 q.2.2 d.1 d.2 := by
    intro c
    rcases (show c = 0 ∨ c = 1 ∨ c = 2 ∨ c = 3 ∨ c = 4 ∨ c = 5 ∨ 6 ≤ c by omega) with rfl | rfl | rfl | rfl | rfl | rfl | h
    · exact nw_K nw_X4_54 hts
    · exact nw_K nw_X4_7 hts
    · exact nw_K nw_X4_38 hts
    · exact nw_K nw_X4_29 hts
    · exact nw_K nw_L_7 hts
    · exact nw_K nw_L_10 hts
    · obtain ⟨d, -⟩ := nw_K nw_L_10 hts
      exact ⟨d, fun q hq => absurd (List.getElem?_eq_some_iff.mp hq).1 (by show ¬ c < 6; omega)⟩
  obtain ⟨f, hf⟩ := Classical.axiomOfChoice h0
  exact ⟨(fun c => (f c).1, fun c => (f c).2), fun c q hq => hf c q hq⟩
theorem st_A {args : Array Value} {s : State} {ty : FieldType} (h : (Cond.arrayClass ty).before args s = true) : ∃ cA : ClassId, ArrOfT s cA ty ∧ s.vm.findClass ("[" ++ ty.toString) = some cA := by
  obtain ⟨cA, kA, comp, h1, h2, h3⟩ := Cond.arrayClass_spec h
  exact ⟨cA, fun n z => ⟨fun k h => (by cases h), kA, h2, comp, h3⟩, h1⟩
theorem st_Q {s : State} {C : String} (h : va_AO C s) : ∃ cA : ClassId, ArrOfT s cA (.object C) ∧ va_RA s cA (.object C) := by
  obtain ⟨comp, cA, kA, h1, h2, h3, h4, h5⟩ := Cond.arrayOver_spec h
  exact ⟨cA, fun n z => ⟨fun k h => (by cases h), kA, h3, comp, h4⟩, kA, comp, h3, h4, h1, h5⟩
def tmS (i : Nat) : Term := .string (strW.getD i ("", 0, "")).1 (strW.getD i ("", 0, "")).2.1
def gvC : List Cond := flatC (Jvm.Cond.and given_1 narrow_1)
theorem gv_1 : ∀ i, i < 9 → Cond.exactly (tmS i) "java/lang/String" ∈ gvC := by decide +kernel
theorem gv_2 : ∀ i, i < 9 → Cond.eq (.field (tmS i) "java/lang/String" "coder" "B") (.int 0) ∈ gvC := by decide +kernel
theorem gv_3 : ∀ i, i < 9 → Cond.arrayOf (.field (tmS i) "java/lang/String" "value" "[B") .byte ∈ gvC := by decide +kernel
theorem gv_4 : ∀ i, i < 9 → Cond.eq (.length (.field (tmS i) "java/lang/String" "value" "[B")) (.int (Int32.ofNat (lenS.getD i 0))) ∈ gvC := by decide +kernel
theorem gv_5 : ∀ i, i < 9 → ∀ j, j < lenS.getD i 0 → Cond.eq (.elem (.field (tmS i) "java/lang/String" "value" "[B") (.int (Int32.ofNat j))) (.int ((bytS.getD i []).getD j 0)) ∈ gvC := by decide +kernel
theorem gv_6 : ∀ i, i < 9 → ∀ j, j < 9 → i ≠ j → Cond.not (Cond.eq (tmS i) (tmS j)) ∈ gvC ∨ Cond.not (Cond.eq (tmS j) (tmS i)) ∈ gvC := by decide +kernel
theorem gv_7 : Cond.eq (.static "java/lang/String" "COMPACT_STRINGS" "Z") (.int 1) ∈ gvC ∧ Cond.isRef (.static "jdk/internal/util/Preconditions" "SIOOBE_FORMATTER" "Ljava/util/function/BiFunction;") ∈ gvC := by decide +kernel
theorem gv_8 : ∀ i, i < 9 → Cond.stringRef (strW.getD i ("", 0, "")).1 (strW.getD i ("", 0, "")).2.1 (strW.getD i ("", 0, "")).2.2 ∈ lw_tbl := by decide +kernel
theorem gv_9 : (∀ w ∈ nestW, w ∈ lw_tbl) ∧ ∀ w ∈ nestI, w ∈ lw_tbl := by decide +kernel
theorem gv_10 : Cond.laysStatic "java/lang/String" "COMPACT_STRINGS" "Z" ∈ lw_tbl ∧ Cond.laysStatic "jdk/internal/util/Preconditions" "SIOOBE_FORMATTER" "Ljava/util/function/BiFunction;" ∈ lw_tbl ∧ Cond.initialized "java/lang/String" ∈ lw_tbl ∧ Cond.initialized "jdk/internal/util/Preconditions" ∈ lw_tbl ∧ Cond.arrayOver (.object "CaseWheel$State") ∈ lw_tbl ∧ Cond.arrayOver (.object "CaseWheel$Letters") ∈ lw_tbl := by decide +kernel
theorem gv_11 : (∀ w ∈ nestW, w.onTables = true) ∧ ∀ w ∈ nestI, w.onTables = true := by decide +kernel
theorem gv_len : ∀ i : Nat, i < 9 → lenS.getD i 0 < 2 ^ 31 := by decide +kernel
/-- all that a constructor wants of the state at the law's entry -/
theorem st_G {args : Array Value} {s : State} (l : Launch) (hts : ∀ w ∈ lw_tbl, w.before args s = true) (hgv : (Jvm.Cond.and given_1 narrow_1).before args s = true) : ∃ G : GG, gl G = l ∧ GFm G s.heap.size s := by
  have hx : ∀ w ∈ XW, w.before args s = true := fun w h => hts w (List.mem_filter.mp h).1
  have hv := flat_of_before _ hgv
  obtain ⟨D, hD⟩ := st_D hx
  obtain ⟨w1, w2, w3, w4, w5, w6⟩ := gv_10
  have aS : va_AO "CaseWheel$State" s := va_AO.of (hts _ w5)
  have aL : va_AO "CaseWheel$Letters" s := va_AO.of (hts _ w6)
  obtain ⟨cI, i1, i2⟩ := st_A (hx _ ac_int)
  obtain ⟨cZ, z1, z2⟩ := st_A (hx _ ac_bool)
  obtain ⟨cS, s1, s2⟩ := st_Q aS
  obtain ⟨cL, l1, l2⟩ := st_Q aL
  have hA : ∀ a : Nat, a < s.heap.size → ¬ abA s.heap.size a := fun a h1 h2 => by unfold abA at h2; omega
  obtain ⟨aK, aV, hS, hE⟩ := vk_Sof (tm := tmS) (len := lenS) (byt := bytS) (A := abA s.heap.size) gv_len (fun i hi => hv _ (gv_1 i hi)) (fun i hi => hv _ (gv_2 i hi)) (fun i hi => hv _ (gv_3 i hi)) (fun i hi => hv _ (gv_4 i hi)) (fun i hi j hj => hv _ (gv_5 i hi j hj)) (fun i j hi hj hn => (gv_6 i hi j hj hn).imp (hv _) (hv _)) hA
  refine ⟨(l, D, (cI, cZ, cS, cL), fun _ => 0, 0, aK, aV), rfl, ⟨hD, ?_⟩, fun w hw => va_Nw.of (gv_11.1 w hw) (hts w (gv_9.1 w hw)), ?_, hS, va_Zof (hts _ w1) (hts _ w3) (va_eqt (hv _ gv_7.1)) hA, va_Zqof (hts _ w2) (hts _ w4) (hv _ gv_7.2) hA, fun w hw => va_Nw.of (gv_11.2 w hw) (hts w (gv_9.2 w hw)), aS, aL, Nat.le_refl _⟩
  · intro k q hq
    have hk : k < 4 := (List.getElem?_eq_some_iff.mp hq).1
    rcases (show k = 0 ∨ k = 1 ∨ k = 2 ∨ k = 3 by omega) with rfl | rfl | rfl | rfl
    · cases hq; exact ⟨i1, i2⟩
    · cases hq; exact ⟨z1, z2⟩
    · cases hq; exact ⟨s1, s2⟩
    · cases hq; exact ⟨l1, l2⟩
  · intro i q hq
    have hi : i < 9 := (List.getElem?_eq_some_iff.mp hq).1
    have e9 : strW.getD i ("", 0, "") = q := by rw [List.getD_eq_getElem?_getD, hq]; rfl
    have h1 := hts _ (gv_8 i hi)
    have h2 := hE i hi
    unfold tmS at h2
    rw [e9] at h1 h2
    exact vk_R.of h1 h2
