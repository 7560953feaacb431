/-! what the answers look at -/
theorem ctOf_cg {a a' : AA} {j : Int32} : ∀ (d i : Nat), (∀ c, i ≤ c → c < i + d → a 6 c = a' 6 c) → ctOf a j i d = ctOf a' j i d
  | 0, _, _ => rfl
  | d + 1, i, h => by
    show (if a 6 i = j then 1 else 0) + ctOf a j (i + 1) d = (if a' 6 i = j then 1 else 0) + ctOf a' j (i + 1) d
    rw [h i (Nat.le_refl i) (by omega), ctOf_cg d (i + 1) (fun c h1 h2 => h c (by omega) (by omega))]
theorem ixJ {x : Int32} {n : Nat} (hn : n ≤ 1000) (h : 0 ≤ x ∧ x < nI n) : x.toNatClampNeg < n := by
  obtain ⟨i, hi, rfl⟩ := ix_in (by omega) (Int32.not_lt.mpr h.1) h.2
  rw [nI_clamp (by omega)]; exact hi
theorem agS.judge {n m : Nat} {a a' : AA} {v v' : VV} (h : agS n m a v a' v') (hn : n ≤ 6) (j w : Int32) : anJudge a v n m j w = anJudge a' v' n m j w := by
  unfold anJudge
  by_cases q : 0 ≤ j ∧ j < nI n
  · have hj := ixJ (by omega) q
    rw [if_pos q, if_pos q, h.1 0 _ (by omega) hj, h.1 1 _ (by omega) hj, h.1 2 _ (by omega) hj, h.1 3 _ (by omega) hj, h.2.2 9 (by omega) (by omega), ctOf_cg m 0 (fun c _ h2 => h.2.1 6 c (by omega) (by omega) (by omega))]
  · rw [if_neg q, if_neg q]
theorem agS.caseA {n m : Nat} {a a' : AA} {v v' : VV} (h : agS n m a v a' v') (hm : m ≤ 20) (c w : Int32) : anCase a m c w = anCase a' m c w := by
  unfold anCase
  by_cases q : 0 ≤ c ∧ c < nI m
  · have hj := ixJ (by omega) q
    rw [if_pos q, if_pos q, h.2.1 4 _ (by omega) (by omega) hj, h.2.1 5 _ (by omega) (by omega) hj, h.2.1 6 _ (by omega) (by omega) hj]
  · rw [if_neg q, if_neg q]
theorem agS.weight {n m : Nat} {a a' : AA} {v v' : VV} (h : agS n m a v a' v') (hn : n ≤ 6) (j s : Int32) : anWeight a v n j s = anWeight a' v' n j s := by
  unfold anWeight
  by_cases q : 0 ≤ j ∧ j < nI n
  · rw [if_pos q, if_pos q, h.J.ww (ixJ (by omega) q)]
  · rw [if_neg q, if_neg q]
theorem agJ.wF {n : Nat} {a a' : AA} {v v' : VV} (h : agJ n a v a' v') (s p : Int32) : foldS (wtF a v s p) 0 n 0 = foldS (wtF a' v' s p) 0 n 0 := foldS_cg n 0 0 (fun j _ h2 => by
  unfold wtF
  rw [h.1 2 j (by omega) (by omega), h.ww (by omega)])
theorem agS.odds {n m : Nat} {a a' : AA} {v v' : VV} (h : agS n m a v a' v') (hn : n ≤ 6) (j s p q : Int32) : anOdds a v n j s p q = anOdds a' v' n j s p q := by
  unfold anOdds
  by_cases r : 0 ≤ j ∧ j < nI n
  · have hj := ixJ (by omega) r
    rw [if_pos r, if_pos r, h.J.any, h.J.ff hj, h.J.ww hj, h.J.wF]
  · rw [if_neg r, if_neg r]
theorem wrC_cg {a a' : AA} {c : Nat} (h : ∀ f, 4 ≤ f → f < 7 → a f c = a' f c) : wrC a c = wrC a' c := by
  unfold wrC
  rw [h 4 (by omega) (by omega), h 5 (by omega) (by omega), h 6 (by omega) (by omega)]
theorem ag_wrl {n m : Nat} {a a' : AA} {v v' : VV} (h : agS n m a v a' v') : wrl a m = wrl a' m := by
  have hg : ∀ k, k ≤ m → wrl a k = wrl a' k := by
    intro k
    induction k with
    | zero => intro _; rfl
    | succ k ih =>
      intro hk
      rw [wrl_s, wrl_s, ih (by omega), wrC_cg (fun f h1 h2 => h.2.1 f k h1 h2 (by omega))]
  exact hg m (Nat.le_refl m)
theorem numF_cg {f g : Nat → Int32} : ∀ (d i : Nat) (x : Int32), (∀ j, i ≤ j → j < i + d → f j = g j) → numF f i d x = numF g i d x
  | 0, _, _, _ => rfl
  | d + 1, i, x, h => by
    show (if f i - 48 < 0 ∨ 9 < f i - 48 then -1 else numF f (i + 1) d (10 * x + (f i - 48))) = (if g i - 48 < 0 ∨ 9 < g i - 48 then -1 else numF g (i + 1) d (10 * x + (g i - 48)))
    rw [h i (Nat.le_refl i) (by omega), numF_cg d (i + 1) _ (fun j h1 h2 => h j (by omega) (by omega))]
theorem numOf_cg {f g : Nat → Int32} {L : Nat} (h : ∀ j, j < L → f j = g j) (md : Nat) : numOf f 0 L md = numOf g 0 L md := by
  unfold numOf
  rw [numF_cg (L - 0) 0 0 (fun j _ h2 => h j (by omega))]
theorem isW_cg {f g : Nat → Int32} {L : Nat} (h : ∀ j, j < L → f j = g j) (w : Nat) : isW f 0 L w = isW g 0 L w := by
  rw [Bool.eq_iff_iff, isW_iff, isW_iff]
  constructor
  · rintro ⟨h1, h2⟩
    exact ⟨h1, fun j hj => by rw [← h2 j hj, h (0 + j) (by omega)]⟩
  · rintro ⟨h1, h2⟩
    exact ⟨h1, fun j hj => by rw [← h2 j hj, h (0 + j) (by omega)]⟩
theorem rulL_cg {f g : Nat → Int32} {L : Nat} (h : ∀ j, j < L → f j = g j) : ∀ (d i : Nat), rulL f 0 L i d = rulL g 0 L i d
  | 0, _ => rfl
  | d + 1, i => by
    show (if isW f 0 L (5 + i) = true then nI i else rulL f 0 L (i + 1) d) = (if isW g 0 L (5 + i) = true then nI i else rulL g 0 L (i + 1) d)
    rw [isW_cg h, rulL_cg h d (i + 1)]
theorem stnd_cg2 {f g g' : Nat → Int32} {m : Nat} (h : ∀ j, j < m → g j = g' j) (p : Nat) : stnd f g p 0 m = stnd f g' p 0 m := by
  unfold stnd
  rw [Bool.eq_iff_iff, List.all_eq_true, List.all_eq_true]
  constructor
  · intro k j hj
    have h1 := k j hj
    rw [List.mem_range'] at hj
    obtain ⟨i, hi, rfl⟩ := hj
    rw [← h _ (by omega)]; exact h1
  · intro k j hj
    have h1 := k j hj
    rw [List.mem_range'] at hj
    obtain ⟨i, hi, rfl⟩ := hj
    rw [h _ (by omega)]; exact h1
theorem plc_cg2 {f g g' : Nat → Int32} {m : Nat} (h : ∀ j, j < m → g j = g' j) : ∀ (d i : Nat), plc f g m i d = plc f g' m i d
  | 0, _ => rfl
  | d + 1, i => by
    show (if stnd f g i 0 m = true then nI i else plc f g m (i + 1) d) = (if stnd f g' i 0 m = true then nI i else plc f g' m (i + 1) d)
    rw [stnd_cg2 h, plc_cg2 h d (i + 1)]
/-- two rows of slips show the same -/
def agL (b : Nat → Bool) (lL : Nat → Nat) (f g : Nat → Nat → Int32) : Prop := ∀ t, t < 3 → b t = true → ∀ j, j < lL t → f t j = g t j
theorem agL.letter {b : Nat → Bool} {lL : Nat → Nat} {f g : Nat → Nat → Int32} (h : agL b lL f g) (hL : ∀ i, i < 3 → lL i ≤ 40) (t k : Int32) : anLetter b f lL t k = anLetter b g lL t k := by
  unfold anLetter
  by_cases q : 0 ≤ t ∧ t < 3
  · have ht := ixJ (n := 3) (by omega) q
    have := hL _ ht
    rw [if_pos q, if_pos q]
    by_cases r : b t.toNatClampNeg = true
    · rw [if_pos r, if_pos r]
      by_cases u : ¬ k < 0 ∧ k < nI (lL t.toNatClampNeg)
      · rw [if_pos u, if_pos u, h _ ht r _ (ixJ (by omega) ⟨Int32.not_lt.mp u.1, u.2⟩)]
      · rw [if_neg u, if_neg u]
    · rw [if_neg r, if_neg r]
  · rw [if_neg q, if_neg q]
theorem agL.value {b : Nat → Bool} {lL : Nat → Nat} {f g : Nat → Nat → Int32} (h : agL b lL f g) (t : Int32) : anValue b f lL t = anValue b g lL t := by
  unfold anValue
  by_cases q : 0 ≤ t ∧ t < 3
  · have ht := ixJ (n := 3) (by omega) q
    rw [if_pos q, if_pos q]
    by_cases r : b t.toNatClampNeg = true
    · rw [if_pos r, if_pos r, numOf_cg (h _ ht r)]
    · rw [if_neg r, if_neg r]
  · rw [if_neg q, if_neg q]
theorem agL.named {b : Nat → Bool} {lL : Nat → Nat} {f g : Nat → Nat → Int32} (h : agL b lL f g) (t : Int32) : anNamed b f lL t = anNamed b g lL t := by
  unfold anNamed
  by_cases q : 0 ≤ t ∧ t < 3
  · have ht := ixJ (n := 3) (by omega) q
    rw [if_pos q, if_pos q]
    by_cases r : b t.toNatClampNeg = true
    · rw [if_pos r, if_pos r, rulL_cg (h _ ht r)]
    · rw [if_neg r, if_neg r]
  · rw [if_neg q, if_neg q]
theorem agL.find {b : Nat → Bool} {lL : Nat → Nat} {f g : Nat → Nat → Int32} (h : agL b lL f g) (l : List Int32) (t w : Int32) : anFind b f lL l t w = anFind b g lL l t w := by
  unfold anFind
  by_cases q : 0 ≤ t ∧ t < 3
  · have ht := ixJ (n := 3) (by omega) q
    rw [if_pos q, if_pos q]
    by_cases u : ¬ w < 0 ∧ w ≤ 3
    · rw [if_pos u, if_pos u]
      by_cases r : b t.toNatClampNeg = true
      · rw [if_pos r, if_pos r, plc_cg2 (h _ ht r)]
        by_cases w0 : w = 0
        · rw [if_pos w0, if_pos w0]
        · rw [if_neg w0, if_neg w0]
          by_cases s : b (w - 1).toNatClampNeg = true
          · rw [if_pos s, if_pos s]
            have hw : (w - 1).toNatClampNeg < 3 := by
              obtain ⟨k, hk, rfl⟩ := ix_in (x := w) (n := 4) (by omega) u.1 (Int32.lt_of_le_of_lt u.2 (by decide))
              have hk1 : 1 ≤ k := by
                rcases Nat.eq_zero_or_pos k with z | z
                · subst z; exact absurd rfl w0
                · exact z
              rw [show nI k - 1 = nI (k - 1) from pk_sub (b := 1) hk1, nI_clamp (by omega)]
              omega
            rw [plc_cg2 (h _ ht r)]
            rcases Nat.lt_or_ge (lL (w - 1).toNatClampNeg) (lL t.toNatClampNeg) with z | z
            · rw [show lL (w - 1).toNatClampNeg + 1 - lL t.toNatClampNeg = 0 by omega]; rfl
            · exact plc_cg (h _ hw s) _ 0 (by omega)
          · rw [if_neg s, if_neg s]
      · rw [if_neg r, if_neg r]
    · rw [if_neg u, if_neg u]
  · rw [if_neg q, if_neg q]
theorem slR.ag {b : Nat → Bool} {lf : Nat → Nat → Int32} {lL : Nat → Nat} {am : AA} (h : slR b lf lL am) : agL b lL (mL am) lf := fun t ht hb j hj => (h.2 t ht hb j hj).1
theorem odW {n : Nat} {a : AA} {v : VV} (h : gdJ n a v) (s : Int32) : ∀ i, i < n → ¬ hasB (v 9) (nI i) = true → ∃ A, 1 ≤ A ∧ A < 1000 ∧ wt a v i s = nI A := fun i hi hn => by
  obtain ⟨w, e, -, h1, h2, -⟩ := wt_nat h hi s
  exact ⟨w, h1 hn, by omega, e⟩
theorem odB {n : Nat} {a : AA} {v : VV} (h : gdJ n a v) (s p : Int32) : ∃ B, B < 1000 ∧ foldS (wtF a v s p) 0 n 0 = nI B ∧ (anyFor a v p (-1) 0 n = true → 1 ≤ B) := by
  have hw : ∀ j, ∃ w : Nat, j < n → wtF a v s p j = nI w ∧ w ≤ 117 ∧ (fre a v j p = true → 1 ≤ w) := fun j => by
    by_cases q : j < n
    · obtain ⟨w, e, -, h1, h2, -⟩ := wt_nat h q s
      unfold wtF
      by_cases r : hasB (a 2 j) p = true
      · refine ⟨0, fun _ => ⟨by rw [if_pos r]; rfl, by omega, fun z => ?_⟩⟩
        unfold fre at z
        rw [r, Bool.and_comm] at z
        cases z
      · refine ⟨w, fun _ => ⟨by rw [if_neg r]; exact e, h2, fun z => h1 (fun y => ?_)⟩⟩
        unfold fre at z
        rw [y] at z
        cases z
    · exact ⟨0, fun z => absurd z q⟩
  obtain ⟨w, hw⟩ := Classical.axiomOfChoice hw
  have e : foldS (wtF a v s p) 0 n 0 = nI (sumN w 0 n) := by
    have := foldS_nI (f := wtF a v s p) (g := w) n 0 0 (fun i _ h2 => (hw i (by omega)).1)
    rw [Nat.zero_add] at this
    exact this
  have hn := h.1
  have hb := sumN_5 (g := w) (b := 117) n 0 (fun j _ h2 => (hw j (by omega)).2.1)
  have hb2 : n * 117 ≤ 6 * 117 := Nat.mul_le_mul_right 117 hn
  refine ⟨_, by omega, e, fun ha => ?_⟩
  obtain ⟨j, hj, -, hf⟩ := any_free ha
  have h1 := (hw j hj).2.2 hf
  have h2 := sumN_mono w (d := j + 1) (e := n) (by omega)
  rw [sumN_last, Nat.zero_add] at h2
  omega
theorem L_judge {G : GG} {hh : HH} (hd : HARDP) (hI : Inv G hh) (j w : Int32) : SS G mX4_judge mX5_judge [.int j, .int w] hh := by
  have hI0 := hI
  obtain ⟨tf, tL, lf, lL, b, a1, v1, a, v, x, z, A, W, A2, W2, kb, am, vm, n, m, hC, t, htL, ⟨df, dL, dk, hdL⟩, sl, sf, hlL, th, ⟨rk, re, rc, rs, rd⟩, aT, ⟨a2, v2, aR⟩, nw, ⟨a3, v3, fo⟩, ho, hx, hz, hr, hs, kp, kf, ik, md, pT, pS, pW, pN, pL, pH, pK⟩ := hI
  obtain ⟨hn, hv, hc, hm, hv1, hc1, hr2⟩ := pN.n
  have hc1 : am 0 3 = nI m := hc1
  exact EVp.mono (w_judge G hh hC nw hn hv hm hc j w) ⟨⟨_, md.1⟩, EVp.mono (m_judge G hh md hn hv1 hm hc1 j w) ⟨(pN.1.judge hn j w).symm, hI0⟩⟩
theorem L_caseOf {G : GG} {hh : HH} (hd : HARDP) (hI : Inv G hh) (c w : Int32) : SS G mX4_caseOf mX5_caseOf [.int c, .int w] hh := by
  have hI0 := hI
  obtain ⟨tf, tL, lf, lL, b, a1, v1, a, v, x, z, A, W, A2, W2, kb, am, vm, n, m, hC, t, htL, ⟨df, dL, dk, hdL⟩, sl, sf, hlL, th, ⟨rk, re, rc, rs, rd⟩, aT, ⟨a2, v2, aR⟩, nw, ⟨a3, v3, fo⟩, ho, hx, hz, hr, hs, kp, kf, ik, md, pT, pS, pW, pN, pL, pH, pK⟩ := hI
  obtain ⟨hn, hv, hc, hm, hv1, hc1, hr2⟩ := pN.n
  have hc1 : am 0 3 = nI m := hc1
  exact EVp.mono (w_caseOf G hh hC nw hm hc c w) ⟨⟨_, md.1⟩, EVp.mono (m_caseOf G hh md hm hc1 c w) ⟨(pN.1.caseA hm c w).symm, hI0⟩⟩
theorem L_weight {G : GG} {hh : HH} (hd : HARDP) (hI : Inv G hh) (j s : Int32) : SS G mX4_weight mX5_weight [.int j, .int s] hh := by
  have hI0 := hI
  obtain ⟨tf, tL, lf, lL, b, a1, v1, a, v, x, z, A, W, A2, W2, kb, am, vm, n, m, hC, t, htL, ⟨df, dL, dk, hdL⟩, sl, sf, hlL, th, ⟨rk, re, rc, rs, rd⟩, aT, ⟨a2, v2, aR⟩, nw, ⟨a3, v3, fo⟩, ho, hx, hz, hr, hs, kp, kf, ik, md, pT, pS, pW, pN, pL, pH, pK⟩ := hI
  obtain ⟨hn, hv, hc, hm, hv1, hc1, hr2⟩ := pN.n
  have hc1 : am 0 3 = nI m := hc1
  exact EVp.mono (w_weight G hh hC nw hn hv j s) ⟨⟨_, md.1⟩, EVp.mono (m_weight G hh md hn hv1 hr2 j s) ⟨(pN.1.weight hn j s).symm, hI0⟩⟩
theorem L_sealOf {G : GG} {hh : HH} (hd : HARDP) (hI : Inv G hh) (s k : Int32) : SS G mX4_sealOf mX5_sealOf [.int s, .int k] hh := by
  have hI0 := hI
  obtain ⟨tf, tL, lf, lL, b, a1, v1, a, v, x, z, A, W, A2, W2, kb, am, vm, n, m, hC, t, htL, ⟨df, dL, dk, hdL⟩, sl, sf, hlL, th, ⟨rk, re, rc, rs, rd⟩, aT, ⟨a2, v2, aR⟩, nw, ⟨a3, v3, fo⟩, ho, hx, hz, hr, hs, kp, kf, ik, md, pT, pS, pW, pN, pL, pH, pK⟩ := hI
  obtain ⟨hn, hv, hc, hm, hv1, hc1, hr2⟩ := pN.n
  have hc1 : am 0 3 = nI m := hc1
  exact EVp.mono (w_sealOf G hh s k) ⟨⟨_, md.1⟩, EVp.mono (m_sealOf G hh s k) ⟨rfl, hI0⟩⟩
theorem L_letter {G : GG} {hh : HH} (hd : HARDP) (hI : Inv G hh) (q k : Int32) : SS G mX4_letter mX5_letter [.int q, .int k] hh := by
  have hI0 := hI
  obtain ⟨tf, tL, lf, lL, b, a1, v1, a, v, x, z, A, W, A2, W2, kb, am, vm, n, m, hC, t, htL, ⟨df, dL, dk, hdL⟩, sl, sf, hlL, th, ⟨rk, re, rc, rs, rd⟩, aT, ⟨a2, v2, aR⟩, nw, ⟨a3, v3, fo⟩, ho, hx, hz, hr, hs, kp, kf, ik, md, pT, pS, pW, pN, pL, pH, pK⟩ := hI
  obtain ⟨hn, hv, hc, hm, hv1, hc1, hr2⟩ := pN.n
  have hc1 : am 0 3 = nI m := hc1
  exact EVp.mono (w_letter G hh hC sl th sf hlL q k) ⟨⟨_, md.1⟩, EVp.mono (m_letter G hh md pS.1 hlL q k) ⟨pS.ag.letter hlL q k, hI0⟩⟩
theorem L_value {G : GG} {hh : HH} (hd : HARDP) (hI : Inv G hh) (q : Int32) : SS G mX4_value mX5_value [.int q] hh := by
  have hI0 := hI
  obtain ⟨tf, tL, lf, lL, b, a1, v1, a, v, x, z, A, W, A2, W2, kb, am, vm, n, m, hC, t, htL, ⟨df, dL, dk, hdL⟩, sl, sf, hlL, th, ⟨rk, re, rc, rs, rd⟩, aT, ⟨a2, v2, aR⟩, nw, ⟨a3, v3, fo⟩, ho, hx, hz, hr, hs, kp, kf, ik, md, pT, pS, pW, pN, pL, pH, pK⟩ := hI
  obtain ⟨hn, hv, hc, hm, hv1, hc1, hr2⟩ := pN.n
  have hc1 : am 0 3 = nI m := hc1
  exact EVp.mono (w_value G hh hC sl th sf hlL q) ⟨⟨_, md.1⟩, EVp.mono (m_value G hh md pS.1 hlL q) ⟨pS.ag.value q, hI0⟩⟩
theorem L_named {G : GG} {hh : HH} (hd : HARDP) (hI : Inv G hh) (q : Int32) : SS G mX4_named mX5_named [.int q] hh := by
  have hI0 := hI
  obtain ⟨tf, tL, lf, lL, b, a1, v1, a, v, x, z, A, W, A2, W2, kb, am, vm, n, m, hC, t, htL, ⟨df, dL, dk, hdL⟩, sl, sf, hlL, th, ⟨rk, re, rc, rs, rd⟩, aT, ⟨a2, v2, aR⟩, nw, ⟨a3, v3, fo⟩, ho, hx, hz, hr, hs, kp, kf, ik, md, pT, pS, pW, pN, pL, pH, pK⟩ := hI
  obtain ⟨hn, hv, hc, hm, hv1, hc1, hr2⟩ := pN.n
  have hc1 : am 0 3 = nI m := hc1
  exact EVp.mono (w_named G hh hC sl th sf hlL q) ⟨⟨_, md.1⟩, EVp.mono (m_named G hh md pW pS.1 hlL (fun t ht hb j hj => by rw [(pS.2 t ht hb j hj).1]; exact (pS.2 t ht hb j hj).2) q) ⟨pS.ag.named q, hI0⟩⟩
theorem L_odds {G : GG} {hh : HH} (hd : HARDP) (hI : Inv G hh) (j s p q : Int32) : SS G mX4_odds mX5_odds [.int j, .int s, .int p, .int q] hh := by
  have hI0 := hI
  obtain ⟨tf, tL, lf, lL, b, a1, v1, a, v, x, z, A, W, A2, W2, kb, am, vm, n, m, hC, t, htL, ⟨df, dL, dk, hdL⟩, sl, sf, hlL, th, ⟨rk, re, rc, rs, rd⟩, aT, ⟨a2, v2, aR⟩, nw, ⟨a3, v3, fo⟩, ho, hx, hz, hr, hs, kp, kf, ik, md, pT, pS, pW, pN, pL, pH, pK⟩ := hI
  obtain ⟨hn, hv, hc, hm, hv1, hc1, hr2⟩ := pN.n
  have hc1 : am 0 3 = nI m := hc1
  have gm : gdJ n (mA am 0) (mV am vm 0) := pN.2.1.cg (fun j hj => (pN.1.1 0 j (by omega) hj).symm) (fun j hj => (pN.1.1 3 j (by omega) hj).symm) (pN.1.2.2 10 (by omega) (by omega)).symm (by rw [← pN.1.2.2 12 (by omega) (by omega)]; exact pN.2.1.2.2.1)
  obtain ⟨B, hB1, hB2, hB3⟩ := odB pN.2.1 s p
  obtain ⟨C, hC1, hC2, hC3⟩ := odB gm s p
  exact EVp.mono (w_odds G hh hC nw hn hv j s p q (odW pN.2.1 s) ⟨B, hB1, hB2⟩) ⟨⟨_, md.1⟩, EVp.mono (m_odds G hh md hn hv1 hr2 j s p q (odW gm s) (fun ha => ⟨C, hC3 ha, hC1, hC2⟩)) ⟨(pN.1.odds hn j s p q).symm, hI0⟩⟩
