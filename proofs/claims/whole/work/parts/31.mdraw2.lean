theorem half_nI (c : Int32) : ∃ h : Nat, h < 2 ^ 31 ∧ halfI c = nI h := by
  have e : (halfI c).toBitVec.toNat = c.toBitVec.toNat / 2 ^ 1 := pk_ushr c 1 1 (by decide)
  have hl : c.toBitVec.toNat / 2 ^ 1 < 2 ^ 31 := by have := c.toBitVec.isLt; omega
  refine ⟨c.toBitVec.toNat / 2 ^ 1, hl, ?_⟩
  apply Int32.toBitVec_inj.mp
  apply BitVec.eq_of_toNat_eq
  rw [e, pk_tn (by omega)]
theorem rm_lt {c T : Int32} (hT : 1 ≤ T) : rmI (halfI c) T < T ∧ ¬ rmI (halfI c) T < 0 := by
  obtain ⟨h, hh, e⟩ := half_nI c
  have h0 : ¬ T < 0 := by rw [Int32.not_lt]; exact Int32.le_trans (by decide) hT
  obtain ⟨t, ht, rfl⟩ := nI_of h0
  have ht1 : 1 ≤ t := by
    rcases Nat.eq_zero_or_pos t with q | q
    · subst q; exact absurd hT (by decide)
    · exact q
  have e2 : rmI (halfI c) (nI t) = nI (h % t) := by
    rw [e]; exact pk_rem hh ht1 ht
  have hl := Nat.mod_lt h ht1
  rw [e2]
  exact ⟨(nI_ltI (by omega) ht).mpr hl, fun q => absurd ((nI_ltI (b := 0) (by omega) (by decide)).mp q) (by omega)⟩
/-- the reached one: its number is beyond x, the one ahead isn't -/
theorem reach_sp {g : Nat → Int32} {x : Int32} : ∀ (d i : Nat), (∃ j, i ≤ j ∧ j < i + d ∧ x < g j) → (i ≤ reach g x i d ∧ reach g x i d < i + d ∧ x < g (reach g x i d) ∧ ∀ j, i ≤ j → j < reach g x i d → ¬ x < g j)
  | 0, i, ⟨j, h1, h2, _⟩ => by omega
  | d + 1, i, ⟨j, h1, h2, h3⟩ => by
    have e : reach g x i (d + 1) = if x < g i then i else reach g x (i + 1) d := rfl
    by_cases q : x < g i
    · rw [e, if_pos q]
      exact ⟨Nat.le_refl _, by omega, q, fun j h1 h2 => by omega⟩
    · have hj : j ≠ i := fun e => by subst e; exact q h3
      obtain ⟨a1, a2, a3, a4⟩ := reach_sp d (i + 1) ⟨j, by omega, by omega, h3⟩
      rw [e, if_neg q]
      refine ⟨by omega, by omega, a3, fun k h1 h2 => ?_⟩
      rcases Nat.eq_or_lt_of_le h1 with e | e
      · subst e; exact q
      · exact a4 k (by omega) h2
theorem jud_sp {a : AA} {v : VV} {s : Int32} {n : Nat} {c : Int32} (hn : 0 < n) (hT : 1 ≤ totW a v s n) : judOf a v s n c < n ∧ ¬ hasB (v 9) (nI (judOf a v s n c)) = true := by
  obtain ⟨h1, h0⟩ := rm_lt (c := c) hT
  have sp := reach_sp (g := fun j => foldS (wtj a v s) 0 (j + 1) 0) (x := rmI (halfI c) (totW a v s n)) n 0 ⟨n - 1, by omega, by omega, by show rmI (halfI c) (totW a v s n) < foldS (wtj a v s) 0 (n - 1 + 1) 0; rw [show n - 1 + 1 = n by omega]; exact h1⟩
  refine ⟨by have := sp.2.1; unfold judOf; omega, fun hA => ?_⟩
  have hw : wt a v (judOf a v s n c) s = 0 := if_pos hA
  have h3 : rmI (halfI c) (totW a v s n) < foldS (wtj a v s) 0 (judOf a v s n c + 1) 0 := sp.2.2.1
  rw [foldS_last, Nat.zero_add] at h3
  have h4 : foldS (wtj a v s) 0 (judOf a v s n c) 0 + wtj a v s (judOf a v s n c) = foldS (wtj a v s) 0 (judOf a v s n c) 0 := by
    show foldS (wtj a v s) 0 (judOf a v s n c) 0 + wt a v (judOf a v s n c) s = _
    rw [hw, Int32.add_zero]
  rw [h4] at h3
  rcases Nat.eq_zero_or_pos (judOf a v s n c) with q | q
  · rw [q] at h3; exact h0 h3
  · have h5 := sp.2.2.2 (judOf a v s n c - 1) (by omega) (by have : judOf a v s n c = reach (fun j => foldS (wtj a v s) 0 (j + 1) 0) (rmI (halfI c) (totW a v s n)) 0 n := rfl; omega)
    have h6 : ¬ rmI (halfI c) (totW a v s n) < foldS (wtj a v s) 0 (judOf a v s n c - 1 + 1) 0 := h5
    rw [show judOf a v s n c - 1 + 1 = judOf a v s n c by omega] at h6
    exact h6 h3
/-- two states have the same judges, as far as draws see -/
def agJ (n : Nat) (a : AA) (v : VV) (a' : AA) (v' : VV) : Prop := (∀ f j, f < 4 → j < n → a f j = a' f j) ∧ v 9 = v' 9 ∧ v 10 = v' 10
theorem agJ.rf {n : Nat} {a : AA} {v : VV} : agJ n a v a v := ⟨fun _ _ _ _ => rfl, rfl, rfl⟩
theorem agJ.sy {n : Nat} {a a' : AA} {v v' : VV} (h : agJ n a v a' v') : agJ n a' v' a v := ⟨fun f j h1 h2 => (h.1 f j h1 h2).symm, h.2.1.symm, h.2.2.symm⟩
theorem agJ.tr {n : Nat} {a a' a'' : AA} {v v' v'' : VV} (h : agJ n a v a' v') (h' : agJ n a' v' a'' v'') : agJ n a v a'' v'' := ⟨fun f j h1 h2 => (h.1 f j h1 h2).trans (h'.1 f j h1 h2), h.2.1.trans h'.2.1, h.2.2.trans h'.2.2⟩
theorem foldS_cg {f g : Nat → Int32} : ∀ (d i : Nat) (s : Int32), (∀ j, i ≤ j → j < i + d → f j = g j) → foldS f i d s = foldS g i d s
  | 0, _, _, _ => rfl
  | d + 1, i, s, h => by
    show foldS f (i + 1) d (s + f i) = foldS g (i + 1) d (s + g i)
    rw [h i (by omega) (by omega), foldS_cg d (i + 1) _ (fun j h1 h2 => h j (by omega) (by omega))]
theorem agJ.ww {n : Nat} {a a' : AA} {v v' : VV} (h : agJ n a v a' v') {j : Nat} (hj : j < n) (s : Int32) : wt a v j s = wt a' v' j s := by
  unfold wt
  rw [h.2.1, h.2.2, h.1 0 j (by omega) hj, h.1 1 j (by omega) hj, h.1 3 j (by omega) hj]
theorem agJ.ff {n : Nat} {a a' : AA} {v v' : VV} (h : agJ n a v a' v') {j : Nat} (hj : j < n) (p : Int32) : fre a v j p = fre a' v' j p := by
  unfold fre
  rw [h.2.1, h.1 2 j (by omega) hj]
theorem agJ.any {n : Nat} {a a' : AA} {v v' : VV} (h : agJ n a v a' v') (p b : Int32) : anyFor a v p b 0 n = anyFor a' v' p b 0 n := by
  unfold anyFor
  apply Bool.eq_iff_iff.mpr
  simp only [List.any_eq_true, List.mem_range'_1]
  constructor
  · rintro ⟨x, hx, q⟩; exact ⟨x, hx, by rw [← h.ff (by omega) p]; exact q⟩
  · rintro ⟨x, hx, q⟩; exact ⟨x, hx, by rw [h.ff (by omega) p]; exact q⟩
theorem agJ.pre {n : Nat} {a a' : AA} {v v' : VV} (h : agJ n a v a' v') (s : Int32) {d : Nat} (hd : d ≤ n) : foldS (wtj a v s) 0 d 0 = foldS (wtj a' v' s) 0 d 0 := foldS_cg d 0 0 (fun j _ h2 => h.ww (by omega) s)
theorem agJ.tot {n : Nat} {a a' : AA} {v v' : VV} (h : agJ n a v a' v') (s : Int32) : totW a v s n = totW a' v' s n := h.pre s (Nat.le_refl n)
theorem agJ.jud {n : Nat} {a a' : AA} {v v' : VV} (h : agJ n a v a' v') (s c : Int32) : judOf a v s n c = judOf a' v' s n c := by
  unfold judOf
  rw [h.tot]
  exact reach_cg n 0 (fun j _ h2 => h.pre s (by omega))
theorem jud_lt {a : AA} {v : VV} {s c : Int32} {n : Nat} (hn : 0 < n) : judOf a v s n c < n := reach_lt n 0 n (by omega) hn
theorem agJ.good {n : Nat} {a a' : AA} {v v' : VV} (h : agJ n a v a' v') (hn : 0 < n) (s p c : Int32) : goodI a v s p n c = goodI a' v' s p n c := by
  unfold goodI
  rw [h.tot, h.jud s c, h.ff (jud_lt hn) p]
theorem agJ.first {n : Nat} {a a' : AA} {v v' : VV} (h : agJ n a v a' v') (hn : 0 < n) (s p c : Int32) (K : Nat) : firstK a v s p n c K = firstK a' v' s p n c K := by
  unfold firstK
  simp only [h.good hn]
theorem agJ.kk {n : Nat} {a a' : AA} {v v' : VV} (h : agJ n a v a' v') (hn : 0 < n) (hc : v 12 = v' 12) (s p : Int32) : Kf a v s p n = Kf a' v' s p n := by
  unfold Kf
  rw [hc]
  simp only [h.first hn]
theorem agJ.jj {n : Nat} {a a' : AA} {v v' : VV} (h : agJ n a v a' v') (hn : 0 < n) (hc : v 12 = v' 12) (s p : Int32) : jF a v s p n = jF a' v' s p n := by
  unfold jF
  rw [h.kk hn hc, hc, h.jud]
theorem agJ.hx {n : Nat} {a a' : AA} {v v' : VV} (h : agJ n a v a' v') (hn : 0 < n) (hc : v 12 = v' 12) {s p : Int32} (hX : HX a v s p n) : HX a' v' s p n := by
  obtain ⟨h1, K, h2, h3⟩ := hX
  exact ⟨by rw [← h.tot]; exact h1, K, h2, by rw [← hc, ← h.first hn]; exact h3⟩
theorem agJ.ss {n : Nat} {a a' : AA} {v v' : VV} (h : agJ n a v a' v') {j : Nat} (hj : j < n) : stA a v j = stA a' v' j := by
  unfold stA
  rw [h.2.1, h.1 0 j (by omega) hj]
theorem agJ.tog {n : Nat} {a a' : AA} {v v' : VV} (h : agJ n a v a' v') : togS a v n = togS a' v' n := foldS_cg n 0 0 (fun j _ h2 => h.ss (by omega))
theorem agJ.nn {n : Nat} {a a' : AA} {v v' : VV} (h : agJ n a v a' v') {j : Nat} (hj : j < n) (x : Int32) : nwD a v x n j = nwD a' v' x n j := by
  unfold nwD
  rw [h.tog, h.ss hj, h.1 3 j (by omega) hj]
theorem agJ.set {n : Nat} {a a' : AA} {v v' : VV} (h : agJ n a v a' v') (x : Int32) : agJ n (setD a v x n) v (setD a' v' x n) v' := by
  refine ⟨fun f j h1 h2 => ?_, h.2.1, h.2.2⟩
  rcases (show f = 0 ∨ f = 1 ∨ f = 2 ∨ f = 3 by omega) with rfl | rfl | rfl | rfl
  · exact h.1 0 j h1 h2
  · exact h.1 1 j h1 h2
  · exact h.1 2 j h1 h2
  · show mixA _ _ n j = mixA _ _ n j
    unfold mixA
    rw [if_pos h2, if_pos h2]
    exact h.nn h2 x
theorem agJ.v {n : Nat} {a a' : AA} {v v' u u' : VV} (h : agJ n a v a' v') (h9 : u 9 = v 9) (h10 : u 10 = v 10) (h9' : u' 9 = v' 9) (h10' : u' 10 = v' 10) : agJ n a u a' u' := ⟨h.1, by rw [h9, h9', h.2.1], by rw [h10, h10', h.2.2]⟩
theorem agJ.a {n : Nat} {a a' b b' : AA} {v v' : VV} (h : agJ n a v a' v') (hb : ∀ f, f < 4 → b f = a f) (hb' : ∀ f, f < 4 → b' f = a' f) : agJ n b v b' v' := ⟨fun f j h1 h2 => by rw [hb f h1, hb' f h1]; exact h.1 f j h1 h2, h.2⟩
theorem any_s (a : AA) (v : VV) (p b : Int32) (i : Nat) : anyFor a v p b 0 (i + 1) = (anyFor a v p b 0 i || (!decide (nI i = b) && fre a v i p)) := by
  unfold anyFor
  rw [List.range'_1_concat, List.any_append, Nat.zero_add]
  simp
theorem fre_m (a : AA) (v : VV) (B i : Nat) (p : Int32) : fre (mA a B) (mV a v B) i p = (!hasB (a 0 (B + 4)) (nI i) && !hasB (a 0 (B + 5 + i)) p) := rfl

set_option maxRecDepth 4000 in
theorem l_isAnyone (G : GG) (hh : HH) {k : Nat} {a : AA} {v : VV} (h : MdAt G hh k a v) {n : Nat} (hn : n ≤ 6) (hv : v 1 = nI n) {B : Nat} (hB : B ≤ 924) (p b : Int32) : ∀ (d i : Nat), i + d = n → RR G mX5_isAnyone 6 [(0, .ref (ad G k)), (1, .int (nI B)), (2, .int p), (3, .int b), (4, .int (bl (anyFor (mA a B) (mV a v B) p b 0 i))), (5, .int (nI i))] [] hh (fun r h1 => ∃ w, r = some (.int w) ∧ (w = bl (anyFor (mA a B) (mV a v B) p b 0 n) ∧ h1 = hh)) := by
  intro d
  induction d with
  | zero =>
    intro i hi
    refine R_iload dX5_isAnyone_6 rfl ?_
    refine R_aload_n dX5_isAnyone_8 rfl ?_
    refine R_get dX5_isAnyone_9 gf_X5_48 h.1 rfl ?_
    refine R_icmp_ge (tgt := 66) dX5_isAnyone_12 (by decide) (fun c12 => ?_) (fun c12 => absurd (by rw [hv]; exact nI_le (by omega) (by omega)) c12)
    refine R_iload dX5_isAnyone_66 rfl ?_
    exact R_zret dX5_isAnyone_68 rfl (by first | exact Or.inl rfl | exact Or.inr rfl | assumption | exact bl01 _ | omega) (⟨_, rfl, by rw [show n = i by omega], rfl⟩)
  | succ d ih =>
    intro i hi
    refine R_iload dX5_isAnyone_6 rfl ?_
    refine R_aload_n dX5_isAnyone_8 rfl ?_
    refine R_get dX5_isAnyone_9 gf_X5_48 h.1 rfl ?_
    refine R_icmp_ge (tgt := 66) dX5_isAnyone_12 (by decide) (fun c12 => absurd c12 (by rw [hv]; exact nI_ge (by omega) (by omega))) (fun c12 => ?_)
    refine R_iload dX5_isAnyone_15 rfl ?_
    refine R_if_ne (tgt := 53) dX5_isAnyone_17 (by decide) (fun c17 => ?_) (fun c17 => ?_)
    · have c9 : True := trivial
      refine R_iconst (v := 1) dX5_isAnyone_53 (by decide) ?_
      refine R_goto (tgt := 58) dX5_isAnyone_54 (by decide) ?_
      refine RR.top (y := bl (anyFor (mA a B) (mV a v B) p b 0 (i + 1))) (by rw [any_s, fre_m]; simp_all [bl]) ?_
      refine R_istore dX5_isAnyone_58 (by decide) ?_
      refine R_iinc (y := nI (i + 1)) dX5_isAnyone_60 rfl (by decide) (nI_s (i)) ?_
      refine R_goto (tgt := 6) dX5_isAnyone_63 (by decide) ?_
      exact RR.pick [2, 3, 4, 5, 1, 0] rfl (ih (i + 1) (by omega))
    · refine R_iload dX5_isAnyone_20 rfl ?_
      refine R_iload_n dX5_isAnyone_22 rfl ?_
      refine R_icmp_eq (tgt := 57) dX5_isAnyone_23 (by decide) (fun c23 => ?_) (fun c23 => ?_)
      · refine R_iconst (v := 0) dX5_isAnyone_57 (by decide) ?_
        refine RR.top (y := bl (anyFor (mA a B) (mV a v B) p b 0 (i + 1))) (by rw [any_s, fre_m]; simp_all [bl]) ?_
        refine R_istore dX5_isAnyone_58 (by decide) ?_
        refine R_iinc (y := nI (i + 1)) dX5_isAnyone_60 rfl (by decide) (nI_s (i)) ?_
        refine R_goto (tgt := 6) dX5_isAnyone_63 (by decide) ?_
        exact RR.pick [2, 3, 4, 5, 1, 0] rfl (ih (i + 1) (by omega))
      · refine R_aload_n dX5_isAnyone_26 rfl ?_
        refine R_get dX5_isAnyone_27 gf_X5_7 h.1 rfl ?_
        refine R_iload_n dX5_isAnyone_30 rfl ?_
        refine R_iconst (v := 4) dX5_isAnyone_31 (by decide) ?_
        refine R_iadd dX5_isAnyone_32 ?_
        refine RR.top (y := nI (B + 4)) (nI_add (B) (4)) ?_
        refine R_ialdN dX5_isAnyone_33 h.a0 (by omega) (by decide) ?_
        refine R_iload dX5_isAnyone_34 rfl ?_
        refine R_callSp dX5_isAnyone_36 cs_X5_93 ⟨by decide, by decide⟩ (e_has G hh (a 0 (B + 4)) (nI i)) rfl rfl (Nat.le_of_ble_eq_true rfl) ?_
        refine R_if_ne (tgt := 57) dX5_isAnyone_39 (by decide) (fun c39 => ?_) (fun c39 => ?_)
        · refine R_iconst (v := 0) dX5_isAnyone_57 (by decide) ?_
          refine RR.top (y := bl (anyFor (mA a B) (mV a v B) p b 0 (i + 1))) (by rw [any_s, fre_m]; simp_all [bl]) ?_
          refine R_istore dX5_isAnyone_58 (by decide) ?_
          refine R_iinc (y := nI (i + 1)) dX5_isAnyone_60 rfl (by decide) (nI_s (i)) ?_
          refine R_goto (tgt := 6) dX5_isAnyone_63 (by decide) ?_
          exact RR.pick [2, 3, 4, 5, 1, 0] rfl (ih (i + 1) (by omega))
        · refine R_aload_n dX5_isAnyone_42 rfl ?_
          refine R_iload_n dX5_isAnyone_43 rfl ?_
          refine R_iload dX5_isAnyone_44 rfl ?_
          refine R_iload_n dX5_isAnyone_46 rfl ?_
          refine R_callVp (w := bl (hasB (a 0 (B + 5 + i)) p)) dX5_isAnyone_47 cv_X5_152 ⟨by decide, by decide⟩ (m_isBarred G hh h hB i (by omega) p) h.1 rfl rfl rfl (Nat.le_of_ble_eq_true rfl) ?_
          refine R_if_ne (tgt := 57) dX5_isAnyone_50 (by decide) (fun c50 => ?_) (fun c50 => ?_)
          · refine R_iconst (v := 0) dX5_isAnyone_57 (by decide) ?_
            refine RR.top (y := bl (anyFor (mA a B) (mV a v B) p b 0 (i + 1))) (by rw [any_s, fre_m]; simp_all [bl]) ?_
            refine R_istore dX5_isAnyone_58 (by decide) ?_
            refine R_iinc (y := nI (i + 1)) dX5_isAnyone_60 rfl (by decide) (nI_s (i)) ?_
            refine R_goto (tgt := 6) dX5_isAnyone_63 (by decide) ?_
            exact RR.pick [2, 3, 4, 5, 1, 0] rfl (ih (i + 1) (by omega))
          · have c9 : True := trivial
            refine R_iconst (v := 1) dX5_isAnyone_53 (by decide) ?_
            refine R_goto (tgt := 58) dX5_isAnyone_54 (by decide) ?_
            refine RR.top (y := bl (anyFor (mA a B) (mV a v B) p b 0 (i + 1))) (by rw [any_s, fre_m]; simp_all [bl]) ?_
            refine R_istore dX5_isAnyone_58 (by decide) ?_
            refine R_iinc (y := nI (i + 1)) dX5_isAnyone_60 rfl (by decide) (nI_s (i)) ?_
            refine R_goto (tgt := 6) dX5_isAnyone_63 (by decide) ?_
            exact RR.pick [2, 3, 4, 5, 1, 0] rfl (ih (i + 1) (by omega))
set_option maxRecDepth 4000 in
theorem m_isAnyone (G : GG) (hh : HH) {k : Nat} {a : AA} {v : VV} (h : MdAt G hh k a v) {n : Nat} (hn : n ≤ 6) (hv : v 1 = nI n) {B : Nat} (hB : B ≤ 924) (p b : Int32) : EVp G mX5_isAnyone [.ref (ad G k), .int (nI B), .int p, .int b] hh (bl (anyFor (mA a B) (mV a v B) p b 0 n)) := by
  refine EV.of [(0, .ref (ad G k)), (1, .int (nI B)), (2, .int p), (3, .int b)] (by decide +kernel) (Nat.le_of_ble_eq_true rfl) rfl ?_
  refine R_iconst (v := 0) dX5_isAnyone_0 (by decide) ?_
  refine R_istore dX5_isAnyone_1 (by decide) ?_
  refine R_iconst (v := 0) dX5_isAnyone_3 (by decide) ?_
  refine R_istore dX5_isAnyone_4 (by decide) ?_
  exact RR.pick [2, 3, 4, 5, 1, 0] rfl (l_isAnyone G hh h hn hv hB p b n 0 (by omega))
/-- the reference's arrays with another chain and number of turns at B -/
abbrev chM (a : AA) (B : Nat) (c t : Int32) : AA := va_up a 0 (chR (a 0) B c t)
theorem ag_ch (a : AA) (v : VV) (B n : Nat) (hn : n ≤ 6) (c t : Int32) : agJ n (mA (chM a B c t) B) (mV (chM a B c t) v B) (mA a B) (mV a v B) := by
  refine ⟨fun f j h1 h2 => ?_, chR_o _ _ _ (by omega) (by omega), rfl⟩
  rcases (show f = 0 ∨ f = 1 ∨ f = 2 ∨ f = 3 by omega) with rfl | rfl | rfl | rfl
  · rfl
  · rfl
  · exact chR_o _ _ _ (by omega) (by omega)
  · exact chR_o _ _ _ (by omega) (by omega)
theorem m_weightC (G : GG) (hh : HH) {k : Nat} {a : AA} {v : VV} {B : Nat} {c t : Int32} (h : MdAt G hh k (chM a B c t) v) (hB : B ≤ 924) (hr : ruleOK (v 2)) {n : Nat} (hn : n ≤ 6) (j : Nat) (hj : j < n) (s : Int32) : EVp G mX5_weightOf [.ref (ad G k), .int (nI B), .int (nI j), .int s] hh (wt (mA a B) (mV a v B) j s) := by
  have e := m_weightOf G hh h hB hr j (by omega) s
  rw [(ag_ch a v B n hn c t).ww hj s] at e
  exact e
set_option maxRecDepth 4000 in
theorem l_reach (G : GG) (hh : HH) {k : Nat} {a : AA} {v : VV} {B : Nat} (hB : B ≤ 924) (hr : ruleOK (v 2)) {n : Nat} (hn : n ≤ 6) (hv : v 1 = nI n) {c t : Int32} (h : MdAt G hh k (chM a B c t) v) (s x3 x : Int32) (hx : x < foldS (wtj (mA a B) (mV a v B) s) 0 n 0) : ∀ (d j : Nat), j + d + 1 = n → RR G mX5_drawOnce 51 [(0, .ref (ad G k)), (1, .int (nI B)), (2, .int s), (3, .int x3), (4, .int x), (5, .int (nI j)), (6, .int (foldS (wtj (mA a B) (mV a v B) s) 0 (j + 1) 0))] [] hh (fun r h1 => ∃ w, r = some (.int w) ∧ (w = nI (reach (fun j => foldS (wtj (mA a B) (mV a v B) s) 0 (j + 1) 0) x j (d + 1)) ∧ h1 = hh)) := by
  intro d
  induction d with
  | zero =>
    intro j hj
    refine R_iload dX5_drawOnce_51 rfl ?_
    refine R_iload dX5_drawOnce_53 rfl ?_
    refine R_icmp_gt (tgt := 77) dX5_drawOnce_55 (by decide) (fun c55 => ?_) (fun c55 => absurd (by (have e : j + 1 = n := by omega); (rw [e]); exact hx) c55)
    refine R_iload dX5_drawOnce_77 rfl ?_
    exact R_iret dX5_drawOnce_79 rfl (⟨_, rfl, by show nI j = nI (if x < (fun j => foldS (wtj (mA a B) (mV a v B) s) 0 (j + 1) 0) j then j else reach (fun j => foldS (wtj (mA a B) (mV a v B) s) 0 (j + 1) 0) x (j + 1) 0); rw [if_pos c55], rfl⟩)
  | succ d ih =>
    intro j hj
    refine R_iload dX5_drawOnce_51 rfl ?_
    refine R_iload dX5_drawOnce_53 rfl ?_
    refine R_icmp_gt (tgt := 77) dX5_drawOnce_55 (by decide) (fun c55 => ?_) (fun c55 => ?_)
    · refine R_iload dX5_drawOnce_77 rfl ?_
      exact R_iret dX5_drawOnce_79 rfl (⟨_, rfl, by show nI j = nI (if x < (fun j => foldS (wtj (mA a B) (mV a v B) s) 0 (j + 1) 0) j then j else reach (fun j => foldS (wtj (mA a B) (mV a v B) s) 0 (j + 1) 0) x (j + 1) (d + 1)); rw [if_pos c55], rfl⟩)
    · refine R_iinc (y := nI (j + 1)) dX5_drawOnce_58 rfl (by decide) (nI_s (j)) ?_
      refine R_iload dX5_drawOnce_61 rfl ?_
      refine R_aload_n dX5_drawOnce_63 rfl ?_
      refine R_iload_n dX5_drawOnce_64 rfl ?_
      refine R_iload dX5_drawOnce_65 rfl ?_
      refine R_iload_n dX5_drawOnce_67 rfl ?_
      refine R_callVp dX5_drawOnce_68 cv_X5_155 ⟨by decide, by decide⟩ (m_weightC G hh h hB hr hn (j + 1) (by omega) s) h.1 rfl rfl rfl (Nat.le_of_ble_eq_true rfl) ?_
      refine R_iadd dX5_drawOnce_71 ?_
      refine RR.top (y := foldS (wtj (mA a B) (mV a v B) s) 0 (j + 1 + 1) 0) (by rw [foldS_last (wtj (mA a B) (mV a v B) s) (j + 1), Nat.zero_add]) ?_
      refine R_istore dX5_drawOnce_72 (by decide) ?_
      refine R_goto (tgt := 51) dX5_drawOnce_74 (by decide) ?_
      have e9 : reach (fun j => foldS (wtj (mA a B) (mV a v B) s) 0 (j + 1) 0) x j (d + 1 + 1) = reach (fun j => foldS (wtj (mA a B) (mV a v B) s) 0 (j + 1) 0) x (j + 1) (d + 1) := if_neg c55
      rw [e9]
      exact RR.pick [2, 3, 4, 5, 6, 1, 0] rfl (ih (j + 1) (by omega))
set_option maxRecDepth 4000 in
theorem l_drawOnce (G : GG) (hh : HH) {k : Nat} {a : AA} {v : VV} {B : Nat} (hB : B ≤ 924) (hr : ruleOK (v 2)) {n : Nat} (hn : n ≤ 6) (hv : v 1 = nI n) {c t : Int32} (h : MdAt G hh k (chM a B c t) v) (s : Int32) (hm : 1 ≤ (totW (mA a B) (mV a v B) s n)) (K : Nat) (hK : 1 ≤ K) (hacc : accI (totW (mA a B) (mV a v B) s n) (itT K c)) (hmin : ∀ j, 1 ≤ j → j < K → ¬ accI (totW (mA a B) (mV a v B) s n) (itT j c)) (hn0 : 0 < n) : ∀ (d i : Nat), i + d = n → RR G mX5_drawOnce 5 [(0, .ref (ad G k)), (1, .int (nI B)), (2, .int s), (3, .int (foldS (wtj (mA a B) (mV a v B) s) 0 i 0)), (4, .int (nI i))] [] hh (fun r h1 => ∃ w, r = some (.int w) ∧ (w = nI (judOf (mA a B) (mV a v B) s n (itT K c)) ∧ MdAt G h1 k (chM a B (itT K c) (t + nI K)) v ∧ Fr k (k + 11) hh h1)) := by
  intro d
  induction d with
  | zero =>
    intro i hi
    refine R_iload dX5_drawOnce_5 rfl ?_
    refine R_aload_n dX5_drawOnce_7 rfl ?_
    refine R_get dX5_drawOnce_8 gf_X5_48 h.1 rfl ?_
    refine R_icmp_ge (tgt := 31) dX5_drawOnce_11 (by decide) (fun c11 => ?_) (fun c11 => absurd (by rw [hv]; exact nI_le (by omega) (by omega)) c11)
    have e : i = n := by omega
    subst e
    refine R_aload_n dX5_drawOnce_31 rfl ?_
    refine R_iload_n dX5_drawOnce_32 rfl ?_
    refine R_iload_n dX5_drawOnce_33 rfl ?_
    refine R_callVi dX5_drawOnce_34 cv_X5_159 ⟨by decide, by decide⟩ (m_drawFor G hh hB h hm K hK hacc hmin) h.1 rfl rfl rfl (Nat.le_of_ble_eq_true rfl) (fun w1 hh1 hw => ?_)
    obtain ⟨rfl, h, hF⟩ := hw
    refine R_istore dX5_drawOnce_37 (by decide) ?_
    refine R_iconst (v := 0) dX5_drawOnce_39 (by decide) ?_
    refine R_istore dX5_drawOnce_40 (by decide) ?_
    refine R_aload_n dX5_drawOnce_42 rfl ?_
    refine R_iload_n dX5_drawOnce_43 rfl ?_
    refine R_iconst (v := 0) dX5_drawOnce_44 (by decide) ?_
    refine R_iload_n dX5_drawOnce_45 rfl ?_
    refine R_callVp dX5_drawOnce_46 cv_X5_155 ⟨by decide, by decide⟩ (m_weightC G hh1 h hB hr hn 0 (by omega) s) h.1 rfl rfl rfl (Nat.le_of_ble_eq_true rfl) ?_
    refine RR.top (y := foldS (wtj (mA a B) (mV a v B) s) 0 (0 + 1) 0) (Int32.zero_add _).symm ?_
    refine R_istore dX5_drawOnce_49 (by decide) ?_
    refine RR.pick [3, 4, 5, 6, 2, 1, 0] rfl ?_
    have e8 := l_reach G hh1 hB hr hn hv h s (foldS (wtj (mA a B) (mV a v B) s) 0 i 0) (rmI (halfI (itT K c)) (totW (mA a B) (mV a v B) s i)) (rm_lt hm).1 (i - 1) 0 (by omega)
    refine RR.post e8 (fun r h1 hq => ?_)
    obtain ⟨w, e1, e2, rfl⟩ := hq
    refine ⟨w, e1, ?_, h, hF⟩
    rw [e2, show i - 1 + 1 = i by omega]
    rfl
  | succ d ih =>
    intro i hi
    refine R_iload dX5_drawOnce_5 rfl ?_
    refine R_aload_n dX5_drawOnce_7 rfl ?_
    refine R_get dX5_drawOnce_8 gf_X5_48 h.1 rfl ?_
    refine R_icmp_ge (tgt := 31) dX5_drawOnce_11 (by decide) (fun c11 => absurd c11 (by rw [hv]; exact nI_ge (by omega) (by omega))) (fun c11 => ?_)
    refine R_iload_n dX5_drawOnce_14 rfl ?_
    refine R_aload_n dX5_drawOnce_15 rfl ?_
    refine R_iload_n dX5_drawOnce_16 rfl ?_
    refine R_iload dX5_drawOnce_17 rfl ?_
    refine R_iload_n dX5_drawOnce_19 rfl ?_
    refine R_callVp dX5_drawOnce_20 cv_X5_155 ⟨by decide, by decide⟩ (m_weightC G hh h hB hr hn i (by omega) s) h.1 rfl rfl rfl (Nat.le_of_ble_eq_true rfl) ?_
    refine R_iadd dX5_drawOnce_23 ?_
    refine RR.top (y := foldS (wtj (mA a B) (mV a v B) s) 0 (i + 1) 0) (by rw [foldS_last, Nat.zero_add]) ?_
    refine R_istore_n dX5_drawOnce_24 (by decide) ?_
    refine R_iinc (y := nI (i + 1)) dX5_drawOnce_25 rfl (by decide) (nI_s (i)) ?_
    refine R_goto (tgt := 5) dX5_drawOnce_28 (by decide) ?_
    exact RR.pick [2, 3, 4, 1, 0] rfl (ih (i + 1) (by omega))
set_option maxRecDepth 4000 in
theorem m_drawOnce (G : GG) (hh : HH) {k : Nat} {a : AA} {v : VV} {B : Nat} (hB : B ≤ 924) (hr : ruleOK (v 2)) {n : Nat} (hn : n ≤ 6) (hv : v 1 = nI n) {c t : Int32} (h : MdAt G hh k (chM a B c t) v) (s : Int32) (hm : 1 ≤ (totW (mA a B) (mV a v B) s n)) (K : Nat) (hK : 1 ≤ K) (hacc : accI (totW (mA a B) (mV a v B) s n) (itT K c)) (hmin : ∀ j, 1 ≤ j → j < K → ¬ accI (totW (mA a B) (mV a v B) s n) (itT j c)) (hn0 : 0 < n) : EVi G mX5_drawOnce [.ref (ad G k), .int (nI B), .int s] hh (fun w h1 => w = nI (judOf (mA a B) (mV a v B) s n (itT K c)) ∧ MdAt G h1 k (chM a B (itT K c) (t + nI K)) v ∧ Fr k (k + 11) hh h1) := by
  refine EV.of [(0, .ref (ad G k)), (1, .int (nI B)), (2, .int s)] (by decide +kernel) (Nat.le_of_ble_eq_true rfl) rfl ?_
  refine R_iconst (v := 0) dX5_drawOnce_0 (by decide) ?_
  refine R_istore_n dX5_drawOnce_1 (by decide) ?_
  refine R_iconst (v := 0) dX5_drawOnce_2 (by decide) ?_
  refine R_istore dX5_drawOnce_3 (by decide) ?_
  exact RR.pick [2, 3, 4, 1, 0] rfl (l_drawOnce G hh hB hr hn hv h s hm K hK hacc hmin hn0 n 0 (by omega))
