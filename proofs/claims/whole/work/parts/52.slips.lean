theorem slR.up {b b' : Nat → Bool} {lf lf' : Nat → Nat → Int32} {lL lL' : Nat → Nat} {am am' : AA} {T : Nat} (h : slR b lf lL am) (h9 : ∀ t, t < 3 → t ≠ T → am' 9 t = am 9 t) (hb : ∀ t, t ≠ T → b' t = b t) (hL : ∀ t, t ≠ T → lL' t = lL t) (hf : ∀ t, t ≠ T → lf' t = lf t) (h10 : ∀ t, t < 3 → t ≠ T → ∀ j, j < lL t → mL am' t j = mL am t j) (s9 : am' 9 T = szI (b' T) (lL' T)) (s : b' T = true → ∀ j, j < lL' T → mL am' T j = lf' T j ∧ ¬ lf' T j = 0) : slR b' lf' lL' am' := by
  refine ⟨fun t ht => ?_, fun t ht hb' j hj => ?_⟩
  · by_cases e : t = T
    · rw [e]; exact s9
    · rw [h9 t ht e, hb t e, hL t e]; exact h.1 t ht
  · by_cases e : t = T
    · rw [e] at hb' hj ⊢; exact s hb' j hj
    · rw [hb t e] at hb'
      rw [hL t e] at hj
      rw [hf t e, h10 t ht e j hj]
      exact h.2 t ht hb' j hj
theorem vu_s {α : Type} (f : Nat → α) (i : Nat) (e : α) : va_up f i e i = e := if_pos rfl
theorem vu_n {α : Type} (f : Nat → α) {i j : Nat} (e : α) (h : j ≠ i) : va_up f i e j = f j := if_neg h
theorem lL_up {lL : Nat → Nat} (h : ∀ i, i < 3 → lL i ≤ 40) (T : Nat) {N : Nat} (hN : N ≤ 40) : ∀ i, i < 3 → va_up lL T N i ≤ 40 := fun i hi => by
  by_cases e : i = T
  · rw [e, vu_s]; exact hN
  · rw [vu_n _ _ e]; exact h i hi
theorem erSlip_n {t : Int32} (h : erSlip t = none) : t.toNatClampNeg < 3 := by
  unfold erSlip at h
  split at h
  · rename_i q; exact ixJ (n := 3) (by omega) q
  · cases h
theorem erIns_n {b : Nat → Bool} {lL : Nat → Nat} {t i x : Int32} (h : erIns b lL t i x = none) (hL : ∀ i, i < 3 → lL i ≤ 40) : t.toNatClampNeg < 3 ∧ ¬ x = 0 ∧ b t.toNatClampNeg = true ∧ i.toNatClampNeg ≤ lL t.toNatClampNeg ∧ lL t.toNatClampNeg + 1 ≤ 40 := by
  unfold erIns at h
  split at h
  · rename_i q
    have hT := ixJ (n := 3) (by omega) q
    have := hL _ hT
    split at h
    · rename_i q1
      split at h
      · rename_i q2
        split at h
        · rename_i q3
          split at h
          · rename_i q4
            refine ⟨hT, fun e => ?_, q2, ?_, q4⟩
            · subst e; exact absurd q1 (by decide)
            · obtain ⟨k, hk, rfl⟩ := ix_in (x := i) (n := lL t.toNatClampNeg + 1) (by omega) q3.1 (Int32.lt_of_le_of_lt q3.2 ((nI_ltI (by omega) (by omega)).mpr (by omega)))
              rw [nI_clamp (by omega)]; omega
          · cases h
        · cases h
      · cases h
    · cases h
  · cases h
theorem erCut_n {b : Nat → Bool} {lL : Nat → Nat} {t y u : Int32} (h : erCut b lL t y u = none) (hL : ∀ i, i < 3 → lL i ≤ 40) : t.toNatClampNeg < 3 ∧ b t.toNatClampNeg = true ∧ y.toNatClampNeg ≤ u.toNatClampNeg ∧ u.toNatClampNeg ≤ lL t.toNatClampNeg := by
  unfold erCut at h
  split at h
  · rename_i q
    have hT := ixJ (n := 3) (by omega) q
    have := hL _ hT
    split at h
    · rename_i q2
      split at h
      · rename_i q3
        refine ⟨hT, q2, ?_⟩
        have hu0 : ¬ u < 0 := Int32.not_lt.mpr (Int32.le_trans (Int32.not_lt.mp q3.1) (Int32.not_lt.mp q3.2.1))
        obtain ⟨k, hk, rfl⟩ := ix_in (x := u) (n := lL t.toNatClampNeg + 1) (by omega) hu0 (Int32.lt_of_le_of_lt q3.2.2 ((nI_ltI (by omega) (by omega)).mpr (by omega)))
        obtain ⟨i, hi, rfl⟩ := ix_in (x := y) (n := k + 1) (by omega) q3.1 (Int32.lt_of_le_of_lt (Int32.not_lt.mp q3.2.1) ((nI_ltI (by omega) (by omega)).mpr (by omega)))
        rw [nI_clamp (by omega), nI_clamp (by omega)]; omega
      · cases h
    · cases h
  · cases h
theorem erJoin_n {b : Nat → Bool} {lL : Nat → Nat} {t u : Int32} (h : erJoin b lL t u = none) : t.toNatClampNeg < 3 ∧ u.toNatClampNeg < 3 ∧ b t.toNatClampNeg = true ∧ b u.toNatClampNeg = true ∧ lL t.toNatClampNeg + lL u.toNatClampNeg ≤ 40 := by
  unfold erJoin at h
  split at h
  · rename_i q
    split at h
    · rename_i q2
      split at h
      · rename_i q3
        exact ⟨ixJ (n := 3) (by omega) q.1, ixJ (n := 3) (by omega) q.2, q2.1, q2.2, q3⟩
      · cases h
    · cases h
  · cases h
theorem slR.slip {b : Nat → Bool} {lf : Nat → Nat → Int32} {lL : Nat → Nat} {am : AA} (h : slR b lf lL am) (T : Nat) : slR (va_up b T true) lf (va_up lL T 0) (va_up am 9 (upd (am 9) T 0)) := by
  refine h.up (T := T) (fun t _ e => if_neg e) (fun t e => vu_n _ _ e) (fun t e => vu_n _ _ e) (fun _ _ => rfl) (fun _ _ _ _ _ => rfl) ?_ (fun _ j hj => ?_)
  · show upd (am 9) T 0 T = _
    rw [pk_us, vu_s, vu_s]; rfl
  · rw [vu_s] at hj; exact absurd hj (Nat.not_lt_zero j)
theorem slR.drop {b : Nat → Bool} {lf : Nat → Nat → Int32} {lL : Nat → Nat} {am : AA} (h : slR b lf lL am) (T : Nat) : slR (va_up b T false) lf lL (va_up am 9 (upd (am 9) T (-1))) := by
  refine h.up (T := T) (fun t _ e => if_neg e) (fun t e => vu_n _ _ e) (fun t e => rfl) (fun _ _ => rfl) (fun _ _ _ _ _ => rfl) ?_ (fun q j hj => ?_)
  · show upd (am 9) T (-1) T = _
    rw [pk_us, vu_s]; rfl
  · rw [vu_s] at q; cases q
theorem slR.drop0 {b : Nat → Bool} {lf : Nat → Nat → Int32} {lL : Nat → Nat} {am : AA} (h : slR b lf lL am) {T : Nat} (hT : ¬ b T = true) : slR b lf lL (va_up am 9 (upd (am 9) T (-1))) := by
  refine h.up (T := T) (fun t _ e => if_neg e) (fun t e => rfl) (fun t e => rfl) (fun _ _ => rfl) (fun _ _ _ _ _ => rfl) ?_ (fun q j hj => absurd q hT)
  · show upd (am 9) T (-1) T = _
    rw [pk_us]; exact (if_neg hT).symm
theorem slR.ins {b : Nat → Bool} {lf : Nat → Nat → Int32} {lL : Nat → Nat} {am : AA} (h : slR b lf lL am) (hL : ∀ i, i < 3 → lL i ≤ 40) {T Y : Nat} (hT : T < 3) (hb : b T = true) (hY : Y ≤ lL T) (h40 : lL T + 1 ≤ 40) {x : Int32} (hx : ¬ x = 0) : slR b (va_up lf T (insA (lf T) Y (lL T) x)) (va_up lL T (lL T + 1)) (va_up (va_up am 10 (inR (am 10) T Y (lL T) x)) 9 (upd (am 9) T (nI (lL T + 1)))) := by
  refine h.up (T := T) (fun t _ e => if_neg e) (fun t e => rfl) (fun t e => vu_n _ _ e) (fun t e => vu_n _ _ e) (fun t ht e j hj => ?_) ?_ (fun _ j hj => ?_)
  · have := hL t ht
    show inR (am 10) T Y (lL T) x (40 * t + j) = am 10 (40 * t + j)
    unfold inR upd shR
    rw [if_neg (by omega), if_neg (by omega)]
  · rw [hb]
    show upd (am 9) T (nI (lL T + 1)) T = _
    rw [pk_us, vu_s]; rfl
  · rw [vu_s] at hj ⊢
    show inR (am 10) T Y (lL T) x (40 * T + j) = insA (lf T) Y (lL T) x j ∧ ¬ insA (lf T) Y (lL T) x j = 0
    have key : inR (am 10) T Y (lL T) x (40 * T + j) = insA (lf T) Y (lL T) x j ∧ ¬ inR (am 10) T Y (lL T) x (40 * T + j) = 0 := by
      unfold inR insA upd shR va_cpy
      by_cases e : j = Y
      · rw [if_pos (by omega), if_pos e]; exact ⟨rfl, hx⟩
      · rw [if_neg (by omega), if_neg e]
        by_cases q : Y < j
        · rw [if_pos (by omega), if_pos (by omega)]
          have g := h.2 T hT hb (j - 1) (by omega)
          rw [show 40 * T + j - 1 = 40 * T + (j - 1) by omega, show Y + (j - (Y + 1)) = j - 1 by omega]
          exact ⟨g.1, by rw [show am 10 (40 * T + (j - 1)) = lf T (j - 1) from g.1]; exact g.2⟩
        · rw [if_neg (by omega), if_neg (by omega)]
          have g := h.2 T hT hb j (by omega)
          exact ⟨g.1, by rw [show am 10 (40 * T + j) = lf T j from g.1]; exact g.2⟩
    exact ⟨key.1, by rw [← key.1]; exact key.2⟩
theorem slR.cut {b : Nat → Bool} {lf : Nat → Nat → Int32} {lL : Nat → Nat} {am : AA} (h : slR b lf lL am) (hL : ∀ i, i < 3 → lL i ≤ 40) {T Y U : Nat} (hT : T < 3) (hb : b T = true) (hY : Y ≤ U) (hU : U ≤ lL T) : slR b (va_up lf T (va_cpy (lf T) (lf T) U Y (lL T - U))) (va_up lL T (lL T - (U - Y))) (va_up (va_up am 10 (cpR (am 10) (40 * T + U) (40 * T + Y) (lL T - U))) 9 (upd (am 9) T (nI (lL T - (U - Y))))) := by
  have hLT := hL T hT
  refine h.up (T := T) (fun t _ e => if_neg e) (fun t e => rfl) (fun t e => vu_n _ _ e) (fun t e => vu_n _ _ e) (fun t ht e j hj => ?_) ?_ (fun _ j hj => ?_)
  · have := hL t ht
    show cpR (am 10) (40 * T + U) (40 * T + Y) (lL T - U) (40 * t + j) = am 10 (40 * t + j)
    unfold cpR
    rw [if_neg (by omega)]
  · rw [hb]
    show upd (am 9) T (nI (lL T - (U - Y))) T = _
    rw [pk_us, vu_s]; rfl
  · rw [vu_s] at hj ⊢
    show cpR (am 10) (40 * T + U) (40 * T + Y) (lL T - U) (40 * T + j) = va_cpy (lf T) (lf T) U Y (lL T - U) j ∧ ¬ va_cpy (lf T) (lf T) U Y (lL T - U) j = 0
    unfold cpR va_cpy
    by_cases q : Y ≤ j
    · rw [if_pos (by omega), if_pos (by omega)]
      have g := h.2 T hT hb (U + (j - Y)) (by omega)
      rw [show 40 * T + U + (40 * T + j - (40 * T + Y)) = 40 * T + (U + (j - Y)) by omega]
      exact g
    · rw [if_neg (by omega), if_neg (by omega)]
      exact h.2 T hT hb j (by omega)
theorem slR.join {b : Nat → Bool} {lf : Nat → Nat → Int32} {lL : Nat → Nat} {am : AA} (h : slR b lf lL am) (hL : ∀ i, i < 3 → lL i ≤ 40) {T S : Nat} (hT : T < 3) (hS : S < 3) (hb : b T = true) (hbS : b S = true) (h40 : lL T + lL S ≤ 40) : slR b (va_up lf T (va_cpy (lf S) (lf T) 0 (lL T) (lL S))) (va_up lL T (lL T + lL S)) (va_up (va_up am 10 (cpR (am 10) (40 * S) (40 * T + lL T) (lL S))) 9 (upd (am 9) T (nI (lL T + lL S)))) := by
  refine h.up (T := T) (fun t _ e => if_neg e) (fun t e => rfl) (fun t e => vu_n _ _ e) (fun t e => vu_n _ _ e) (fun t ht e j hj => ?_) ?_ (fun _ j hj => ?_)
  · have := hL t ht
    show cpR (am 10) (40 * S) (40 * T + lL T) (lL S) (40 * t + j) = am 10 (40 * t + j)
    unfold cpR
    rw [if_neg (by omega)]
  · rw [hb]
    show upd (am 9) T (nI (lL T + lL S)) T = _
    rw [pk_us, vu_s]; rfl
  · rw [vu_s] at hj ⊢
    show cpR (am 10) (40 * S) (40 * T + lL T) (lL S) (40 * T + j) = va_cpy (lf S) (lf T) 0 (lL T) (lL S) j ∧ ¬ va_cpy (lf S) (lf T) 0 (lL T) (lL S) j = 0
    unfold cpR va_cpy
    by_cases q : lL T ≤ j
    · rw [if_pos (by omega), if_pos (by omega)]
      have g := h.2 S hS hbS (0 + (j - lL T)) (by omega)
      rw [show 40 * S + (40 * T + j - (40 * T + lL T)) = 40 * S + (0 + (j - lL T)) by omega]
      exact g
    · rw [if_neg (by omega), if_neg (by omega)]
      exact h.2 T hT hb j (by omega)
theorem L_slip {G : GG} {hh : HH} (hd : HARDP) (hI : Inv G hh) (q : Int32) : SS G mX4_slip mX5_slip [.int q] hh := by
  have hI0 := hI
  obtain ⟨tf, tL, lf, lL, b, a1, v1, a, v, x, z, A, W, A2, W2, kb, am, vm, n, m, hC, t, htL, ⟨df, dL, dk, hdL⟩, sl, sf, hlL, th, ⟨rk, re, rc, rs, rd⟩, aT, ⟨a2, v2, aR⟩, nw, ⟨a3, v3, fo⟩, ho, hx, hz, hr, hs, kp, kf, ik, md, pT, pS, pW, pN, pL, pH, pK⟩ := hI
  obtain ⟨hn, hv, hc, hm, hv1, hc1, hr2⟩ := pN.n
  have hc1 : am 0 3 = nI m := hc1
  refine EVi.mono (w_slip G hh hC sl th sf hlL q) (fun y h1 hp => ?_)
  cases hE : erSlip q with
  | some e =>
    simp only [hE] at hp
    obtain ⟨rfl, rfl⟩ := hp
    refine ⟨⟨_, md.1⟩, EVi.mono (m_slip G _ md pS.1 hlL q) (fun y2 h2 hq => ?_)⟩
    simp only [hE] at hq
    obtain ⟨rfl, rfl⟩ := hq
    exact ⟨rfl, hI0⟩
  | none =>
    simp only [hE] at hp
    obtain ⟨rfl, th, sf, hF⟩ := hp
    have hC := hAt.rg hC (hF.e1 _ (by omega))
    have t := t.rg (fun i k1 k2 => hF.e1 i (by omega))
    have dk := dk.rg (fun i k1 k2 => hF.e1 i (by omega))
    have sl := hAt.rg sl (hF.e1 _ (by omega))
    have rd := hAt.rg rd (hF.e1 _ (by omega))
    have aT := aT.rg (fun i k1 k2 => hF.e1 i (by omega))
    have aR := aR.rg (fun i k1 k2 => hF.e1 i (by omega))
    have nw := nw.rg (fun i k1 k2 => hF.e1 i (by omega))
    have fo := fo.rg (fun i k1 k2 => hF.e1 i (by omega))
    have ho := hAt.rg ho (hF.e1 _ (by omega))
    have hr := hAt.rg hr (hF.e1 _ (by omega))
    have hs : HsAt _ _ 50 _ _ := fun i hi => (hs i hi).rg (fun j k1 k2 => hF.e1 j (by omega))
    have kp := hAt.rg kp (hF.e1 _ (by omega))
    have kf := fun i hi => (kf i hi).rg (fun j k1 k2 => hF.e1 j (by omega))
    have ik := hAt.rg ik (hF.e1 _ (by omega))
    have md := md.rg (fun i k1 k2 => hF.e1 i (by omega))
    refine ⟨⟨_, md.1⟩, EVi.mono (m_slip G _ md pS.1 hlL q) (fun y2 h2 hq => ?_)⟩
    simp only [hE] at hq
    obtain ⟨rfl, md, hF⟩ := hq
    have hC := hAt.rg hC (hF _ (by omega))
    have t := t.rg (fun i k1 k2 => hF i (by omega))
    have dk := dk.rg (fun i k1 k2 => hF i (by omega))
    have sl := hAt.rg sl (hF _ (by omega))
    have sf := fun i hi => (sf i hi).rg (fun j k1 k2 => hF j (by omega))
    have th := hAt.rg th (hF _ (by omega))
    have rd := hAt.rg rd (hF _ (by omega))
    have aT := aT.rg (fun i k1 k2 => hF i (by omega))
    have aR := aR.rg (fun i k1 k2 => hF i (by omega))
    have nw := nw.rg (fun i k1 k2 => hF i (by omega))
    have fo := fo.rg (fun i k1 k2 => hF i (by omega))
    have ho := hAt.rg ho (hF _ (by omega))
    have hr := hAt.rg hr (hF _ (by omega))
    have hs : HsAt _ _ 50 _ _ := fun i hi => (hs i hi).rg (fun j k1 k2 => hF j (by omega))
    have kp := hAt.rg kp (hF _ (by omega))
    have kf := fun i hi => (kf i hi).rg (fun j k1 k2 => hF j (by omega))
    have ik := hAt.rg ik (hF _ (by omega))
    exact ⟨rfl, ⟨_, _, _, _, _, _, _, _, _, _, _, _, _, _, _, _, _, _, _, _, hC, t, htL, ⟨_, _, dk, hdL⟩, sl, sf, lL_up hlL _ (Nat.zero_le _), th, ⟨_, _, _, _, rd⟩, aT, ⟨_, _, aR⟩, nw, ⟨_, _, fo⟩, ho, hx, hz, hr, hs, kp, kf, ik, md, pT.cg rfl rfl, pS.slip _, pW, pN.cg (fun _ _ => rfl) rfl rfl rfl rfl, pL.cg (fun _ _ _ => rfl) rfl rfl rfl rfl, pH.cg (fun _ _ _ => rfl) rfl rfl rfl rfl rfl hz, pK.cg (fun _ _ _ => rfl) rfl rfl rfl rfl rfl⟩⟩
theorem L_insert {G : GG} {hh : HH} (hd : HARDP) (hI : Inv G hh) (q k u : Int32) : SS G mX4_insert mX5_insert [.int q, .int k, .int u] hh := by
  have hI0 := hI
  obtain ⟨tf, tL, lf, lL, b, a1, v1, a, v, x, z, A, W, A2, W2, kb, am, vm, n, m, hC, t, htL, ⟨df, dL, dk, hdL⟩, sl, sf, hlL, th, ⟨rk, re, rc, rs, rd⟩, aT, ⟨a2, v2, aR⟩, nw, ⟨a3, v3, fo⟩, ho, hx, hz, hr, hs, kp, kf, ik, md, pT, pS, pW, pN, pL, pH, pK⟩ := hI
  obtain ⟨hn, hv, hc, hm, hv1, hc1, hr2⟩ := pN.n
  have hc1 : am 0 3 = nI m := hc1
  refine EVi.mono (w_insert G hh hC sl th sf hlL q k u) (fun y h1 hp => ?_)
  cases hE : erIns b lL q k u with
  | some e =>
    simp only [hE] at hp
    obtain ⟨rfl, rfl⟩ := hp
    refine ⟨⟨_, md.1⟩, EVi.mono (m_insert G _ md pS.1 hlL q k u) (fun y2 h2 hq => ?_)⟩
    simp only [hE] at hq
    obtain ⟨rfl, rfl⟩ := hq
    exact ⟨rfl, hI0⟩
  | none =>
    simp only [hE] at hp
    obtain ⟨rfl, sf, th, hF⟩ := hp
    obtain ⟨n1, n2, n3, n4, n5⟩ := erIns_n hE hlL
    have hC := hAt.rg hC (hF.e1 _ (by omega))
    have t := t.rg (fun i k1 k2 => hF.e1 i (by omega))
    have dk := dk.rg (fun i k1 k2 => hF.e1 i (by omega))
    have sl := hAt.rg sl (hF.e1 _ (by omega))
    have rd := hAt.rg rd (hF.e1 _ (by omega))
    have aT := aT.rg (fun i k1 k2 => hF.e1 i (by omega))
    have aR := aR.rg (fun i k1 k2 => hF.e1 i (by omega))
    have nw := nw.rg (fun i k1 k2 => hF.e1 i (by omega))
    have fo := fo.rg (fun i k1 k2 => hF.e1 i (by omega))
    have ho := hAt.rg ho (hF.e1 _ (by omega))
    have hr := hAt.rg hr (hF.e1 _ (by omega))
    have hs : HsAt _ _ 50 _ _ := fun i hi => (hs i hi).rg (fun j k1 k2 => hF.e1 j (by omega))
    have kp := hAt.rg kp (hF.e1 _ (by omega))
    have kf := fun i hi => (kf i hi).rg (fun j k1 k2 => hF.e1 j (by omega))
    have ik := hAt.rg ik (hF.e1 _ (by omega))
    have md := md.rg (fun i k1 k2 => hF.e1 i (by omega))
    refine ⟨⟨_, md.1⟩, EVi.mono (m_insert G _ md pS.1 hlL q k u) (fun y2 h2 hq => ?_)⟩
    simp only [hE] at hq
    obtain ⟨rfl, md, hF⟩ := hq
    have hC := hAt.rg hC (hF _ (by omega))
    have t := t.rg (fun i k1 k2 => hF i (by omega))
    have dk := dk.rg (fun i k1 k2 => hF i (by omega))
    have sl := hAt.rg sl (hF _ (by omega))
    have sf := fun i hi => (sf i hi).rg (fun j k1 k2 => hF j (by omega))
    have th := hAt.rg th (hF _ (by omega))
    have rd := hAt.rg rd (hF _ (by omega))
    have aT := aT.rg (fun i k1 k2 => hF i (by omega))
    have aR := aR.rg (fun i k1 k2 => hF i (by omega))
    have nw := nw.rg (fun i k1 k2 => hF i (by omega))
    have fo := fo.rg (fun i k1 k2 => hF i (by omega))
    have ho := hAt.rg ho (hF _ (by omega))
    have hr := hAt.rg hr (hF _ (by omega))
    have hs : HsAt _ _ 50 _ _ := fun i hi => (hs i hi).rg (fun j k1 k2 => hF j (by omega))
    have kp := hAt.rg kp (hF _ (by omega))
    have kf := fun i hi => (kf i hi).rg (fun j k1 k2 => hF j (by omega))
    have ik := hAt.rg ik (hF _ (by omega))
    exact ⟨rfl, ⟨_, _, _, _, _, _, _, _, _, _, _, _, _, _, _, _, _, _, _, _, hC, t, htL, ⟨_, _, dk, hdL⟩, sl, sf, lL_up hlL _ n5, th, ⟨_, _, _, _, rd⟩, aT, ⟨_, _, aR⟩, nw, ⟨_, _, fo⟩, ho, hx, hz, hr, hs, kp, kf, ik, md, pT.cg rfl rfl, pS.ins hlL n1 n3 n4 n5 n2, pW, pN.cg (fun _ _ => rfl) rfl rfl rfl rfl, pL.cg (fun _ _ _ => rfl) rfl rfl rfl rfl, pH.cg (fun _ _ _ => rfl) rfl rfl rfl rfl rfl hz, pK.cg (fun _ _ _ => rfl) rfl rfl rfl rfl rfl⟩⟩
theorem L_cut {G : GG} {hh : HH} (hd : HARDP) (hI : Inv G hh) (q k u : Int32) : SS G mX4_cut mX5_cut [.int q, .int k, .int u] hh := by
  have hI0 := hI
  obtain ⟨tf, tL, lf, lL, b, a1, v1, a, v, x, z, A, W, A2, W2, kb, am, vm, n, m, hC, t, htL, ⟨df, dL, dk, hdL⟩, sl, sf, hlL, th, ⟨rk, re, rc, rs, rd⟩, aT, ⟨a2, v2, aR⟩, nw, ⟨a3, v3, fo⟩, ho, hx, hz, hr, hs, kp, kf, ik, md, pT, pS, pW, pN, pL, pH, pK⟩ := hI
  obtain ⟨hn, hv, hc, hm, hv1, hc1, hr2⟩ := pN.n
  have hc1 : am 0 3 = nI m := hc1
  refine EVi.mono (w_cut G hh hC sl th sf hlL q k u) (fun y h1 hp => ?_)
  cases hE : erCut b lL q k u with
  | some e =>
    simp only [hE] at hp
    obtain ⟨rfl, rfl⟩ := hp
    refine ⟨⟨_, md.1⟩, EVi.mono (m_cut G _ md pS.1 hlL q k u) (fun y2 h2 hq => ?_)⟩
    simp only [hE] at hq
    obtain ⟨rfl, rfl⟩ := hq
    exact ⟨rfl, hI0⟩
  | none =>
    simp only [hE] at hp
    obtain ⟨rfl, sf, th, hF⟩ := hp
    obtain ⟨n1, n2, n3, n4⟩ := erCut_n hE hlL
    have hC := hAt.rg hC (hF.e1 _ (by omega))
    have t := t.rg (fun i k1 k2 => hF.e1 i (by omega))
    have dk := dk.rg (fun i k1 k2 => hF.e1 i (by omega))
    have sl := hAt.rg sl (hF.e1 _ (by omega))
    have rd := hAt.rg rd (hF.e1 _ (by omega))
    have aT := aT.rg (fun i k1 k2 => hF.e1 i (by omega))
    have aR := aR.rg (fun i k1 k2 => hF.e1 i (by omega))
    have nw := nw.rg (fun i k1 k2 => hF.e1 i (by omega))
    have fo := fo.rg (fun i k1 k2 => hF.e1 i (by omega))
    have ho := hAt.rg ho (hF.e1 _ (by omega))
    have hr := hAt.rg hr (hF.e1 _ (by omega))
    have hs : HsAt _ _ 50 _ _ := fun i hi => (hs i hi).rg (fun j k1 k2 => hF.e1 j (by omega))
    have kp := hAt.rg kp (hF.e1 _ (by omega))
    have kf := fun i hi => (kf i hi).rg (fun j k1 k2 => hF.e1 j (by omega))
    have ik := hAt.rg ik (hF.e1 _ (by omega))
    have md := md.rg (fun i k1 k2 => hF.e1 i (by omega))
    refine ⟨⟨_, md.1⟩, EVi.mono (m_cut G _ md pS.1 hlL q k u) (fun y2 h2 hq => ?_)⟩
    simp only [hE] at hq
    obtain ⟨rfl, md, hF⟩ := hq
    have hC := hAt.rg hC (hF _ (by omega))
    have t := t.rg (fun i k1 k2 => hF i (by omega))
    have dk := dk.rg (fun i k1 k2 => hF i (by omega))
    have sl := hAt.rg sl (hF _ (by omega))
    have sf := fun i hi => (sf i hi).rg (fun j k1 k2 => hF j (by omega))
    have th := hAt.rg th (hF _ (by omega))
    have rd := hAt.rg rd (hF _ (by omega))
    have aT := aT.rg (fun i k1 k2 => hF i (by omega))
    have aR := aR.rg (fun i k1 k2 => hF i (by omega))
    have nw := nw.rg (fun i k1 k2 => hF i (by omega))
    have fo := fo.rg (fun i k1 k2 => hF i (by omega))
    have ho := hAt.rg ho (hF _ (by omega))
    have hr := hAt.rg hr (hF _ (by omega))
    have hs : HsAt _ _ 50 _ _ := fun i hi => (hs i hi).rg (fun j k1 k2 => hF j (by omega))
    have kp := hAt.rg kp (hF _ (by omega))
    have kf := fun i hi => (kf i hi).rg (fun j k1 k2 => hF j (by omega))
    have ik := hAt.rg ik (hF _ (by omega))
    exact ⟨rfl, ⟨_, _, _, _, _, _, _, _, _, _, _, _, _, _, _, _, _, _, _, _, hC, t, htL, ⟨_, _, dk, hdL⟩, sl, sf, lL_up hlL _ (by have := hlL _ n1; omega), th, ⟨_, _, _, _, rd⟩, aT, ⟨_, _, aR⟩, nw, ⟨_, _, fo⟩, ho, hx, hz, hr, hs, kp, kf, ik, md, pT.cg rfl rfl, pS.cut hlL n1 n2 n3 n4, pW, pN.cg (fun _ _ => rfl) rfl rfl rfl rfl, pL.cg (fun _ _ _ => rfl) rfl rfl rfl rfl, pH.cg (fun _ _ _ => rfl) rfl rfl rfl rfl rfl hz, pK.cg (fun _ _ _ => rfl) rfl rfl rfl rfl rfl⟩⟩
theorem L_join {G : GG} {hh : HH} (hd : HARDP) (hI : Inv G hh) (q u : Int32) : SS G mX4_join mX5_join [.int q, .int u] hh := by
  have hI0 := hI
  obtain ⟨tf, tL, lf, lL, b, a1, v1, a, v, x, z, A, W, A2, W2, kb, am, vm, n, m, hC, t, htL, ⟨df, dL, dk, hdL⟩, sl, sf, hlL, th, ⟨rk, re, rc, rs, rd⟩, aT, ⟨a2, v2, aR⟩, nw, ⟨a3, v3, fo⟩, ho, hx, hz, hr, hs, kp, kf, ik, md, pT, pS, pW, pN, pL, pH, pK⟩ := hI
  obtain ⟨hn, hv, hc, hm, hv1, hc1, hr2⟩ := pN.n
  have hc1 : am 0 3 = nI m := hc1
  refine EVi.mono (w_join G hh hC sl th sf hlL q u) (fun y h1 hp => ?_)
  cases hE : erJoin b lL q u with
  | some e =>
    simp only [hE] at hp
    obtain ⟨rfl, rfl⟩ := hp
    refine ⟨⟨_, md.1⟩, EVi.mono (m_join G _ md pS.1 hlL q u) (fun y2 h2 hq => ?_)⟩
    simp only [hE] at hq
    obtain ⟨rfl, rfl⟩ := hq
    exact ⟨rfl, hI0⟩
  | none =>
    simp only [hE] at hp
    obtain ⟨rfl, sf, th, hF⟩ := hp
    obtain ⟨n1, n2, n3, n4, n5⟩ := erJoin_n hE
    have hC := hAt.rg hC (hF.e1 _ (by omega))
    have t := t.rg (fun i k1 k2 => hF.e1 i (by omega))
    have dk := dk.rg (fun i k1 k2 => hF.e1 i (by omega))
    have sl := hAt.rg sl (hF.e1 _ (by omega))
    have rd := hAt.rg rd (hF.e1 _ (by omega))
    have aT := aT.rg (fun i k1 k2 => hF.e1 i (by omega))
    have aR := aR.rg (fun i k1 k2 => hF.e1 i (by omega))
    have nw := nw.rg (fun i k1 k2 => hF.e1 i (by omega))
    have fo := fo.rg (fun i k1 k2 => hF.e1 i (by omega))
    have ho := hAt.rg ho (hF.e1 _ (by omega))
    have hr := hAt.rg hr (hF.e1 _ (by omega))
    have hs : HsAt _ _ 50 _ _ := fun i hi => (hs i hi).rg (fun j k1 k2 => hF.e1 j (by omega))
    have kp := hAt.rg kp (hF.e1 _ (by omega))
    have kf := fun i hi => (kf i hi).rg (fun j k1 k2 => hF.e1 j (by omega))
    have ik := hAt.rg ik (hF.e1 _ (by omega))
    have md := md.rg (fun i k1 k2 => hF.e1 i (by omega))
    refine ⟨⟨_, md.1⟩, EVi.mono (m_join G _ md pS.1 hlL q u) (fun y2 h2 hq => ?_)⟩
    simp only [hE] at hq
    obtain ⟨rfl, md, hF⟩ := hq
    have hC := hAt.rg hC (hF _ (by omega))
    have t := t.rg (fun i k1 k2 => hF i (by omega))
    have dk := dk.rg (fun i k1 k2 => hF i (by omega))
    have sl := hAt.rg sl (hF _ (by omega))
    have sf := fun i hi => (sf i hi).rg (fun j k1 k2 => hF j (by omega))
    have th := hAt.rg th (hF _ (by omega))
    have rd := hAt.rg rd (hF _ (by omega))
    have aT := aT.rg (fun i k1 k2 => hF i (by omega))
    have aR := aR.rg (fun i k1 k2 => hF i (by omega))
    have nw := nw.rg (fun i k1 k2 => hF i (by omega))
    have fo := fo.rg (fun i k1 k2 => hF i (by omega))
    have ho := hAt.rg ho (hF _ (by omega))
    have hr := hAt.rg hr (hF _ (by omega))
    have hs : HsAt _ _ 50 _ _ := fun i hi => (hs i hi).rg (fun j k1 k2 => hF j (by omega))
    have kp := hAt.rg kp (hF _ (by omega))
    have kf := fun i hi => (kf i hi).rg (fun j k1 k2 => hF j (by omega))
    have ik := hAt.rg ik (hF _ (by omega))
    exact ⟨rfl, ⟨_, _, _, _, _, _, _, _, _, _, _, _, _, _, _, _, _, _, _, _, hC, t, htL, ⟨_, _, dk, hdL⟩, sl, sf, lL_up hlL _ n5, th, ⟨_, _, _, _, rd⟩, aT, ⟨_, _, aR⟩, nw, ⟨_, _, fo⟩, ho, hx, hz, hr, hs, kp, kf, ik, md, pT.cg rfl rfl, pS.join hlL n1 n2 n3 n4 n5, pW, pN.cg (fun _ _ => rfl) rfl rfl rfl rfl, pL.cg (fun _ _ _ => rfl) rfl rfl rfl rfl, pH.cg (fun _ _ _ => rfl) rfl rfl rfl rfl rfl hz, pK.cg (fun _ _ _ => rfl) rfl rfl rfl rfl rfl⟩⟩
theorem L_drop {G : GG} {hh : HH} (hd : HARDP) (hI : Inv G hh) (q : Int32) : SS G mX4_drop mX5_drop [.int q] hh := by
  have hI0 := hI
  obtain ⟨tf, tL, lf, lL, b, a1, v1, a, v, x, z, A, W, A2, W2, kb, am, vm, n, m, hC, t, htL, ⟨df, dL, dk, hdL⟩, sl, sf, hlL, th, ⟨rk, re, rc, rs, rd⟩, aT, ⟨a2, v2, aR⟩, nw, ⟨a3, v3, fo⟩, ho, hx, hz, hr, hs, kp, kf, ik, md, pT, pS, pW, pN, pL, pH, pK⟩ := hI
  obtain ⟨hn, hv, hc, hm, hv1, hc1, hr2⟩ := pN.n
  have hc1 : am 0 3 = nI m := hc1
  refine EVi.mono (w_drop G hh hC sl th sf hlL q) (fun y h1 hp => ?_)
  cases hE : erDrop b q with
  | some e =>
    simp only [hE] at hp
    obtain ⟨rfl, rfl⟩ := hp
    refine ⟨⟨_, md.1⟩, EVi.mono (m_drop G _ md pS.1 hlL q) (fun y2 h2 hq => ?_)⟩
    simp only [hE] at hq
    obtain ⟨rfl, hq⟩ := hq
    refine ⟨rfl, ?_⟩
    rcases hq with rfl | ⟨i9, -, -, hb9, md, hF⟩
    · exact hI0
    · have hC := hAt.rg hC (hF _ (by omega))
      have t := t.rg (fun i k1 k2 => hF i (by omega))
      have dk := dk.rg (fun i k1 k2 => hF i (by omega))
      have sl := hAt.rg sl (hF _ (by omega))
      have sf := fun i hi => (sf i hi).rg (fun j k1 k2 => hF j (by omega))
      have th := hAt.rg th (hF _ (by omega))
      have rd := hAt.rg rd (hF _ (by omega))
      have aT := aT.rg (fun i k1 k2 => hF i (by omega))
      have aR := aR.rg (fun i k1 k2 => hF i (by omega))
      have nw := nw.rg (fun i k1 k2 => hF i (by omega))
      have fo := fo.rg (fun i k1 k2 => hF i (by omega))
      have ho := hAt.rg ho (hF _ (by omega))
      have hr := hAt.rg hr (hF _ (by omega))
      have hs : HsAt _ _ 50 _ _ := fun i hi => (hs i hi).rg (fun j k1 k2 => hF j (by omega))
      have kp := hAt.rg kp (hF _ (by omega))
      have kf := fun i hi => (kf i hi).rg (fun j k1 k2 => hF j (by omega))
      have ik := hAt.rg ik (hF _ (by omega))
      exact ⟨_, _, _, _, _, _, _, _, _, _, _, _, _, _, _, _, _, _, _, _, hC, t, htL, ⟨_, _, dk, hdL⟩, sl, sf, hlL, th, ⟨_, _, _, _, rd⟩, aT, ⟨_, _, aR⟩, nw, ⟨_, _, fo⟩, ho, hx, hz, hr, hs, kp, kf, ik, md, pT.cg rfl rfl, pS.drop0 hb9, pW, pN.cg (fun _ _ => rfl) rfl rfl rfl rfl, pL.cg (fun _ _ _ => rfl) rfl rfl rfl rfl, pH.cg (fun _ _ _ => rfl) rfl rfl rfl rfl rfl hz, pK.cg (fun _ _ _ => rfl) rfl rfl rfl rfl rfl⟩
  | none =>
    simp only [hE] at hp
    obtain ⟨rfl, th, sf, hF⟩ := hp
    have hC := hAt.rg hC (hF.e1 _ (by omega))
    have t := t.rg (fun i k1 k2 => hF.e1 i (by omega))
    have dk := dk.rg (fun i k1 k2 => hF.e1 i (by omega))
    have sl := hAt.rg sl (hF.e1 _ (by omega))
    have rd := hAt.rg rd (hF.e1 _ (by omega))
    have aT := aT.rg (fun i k1 k2 => hF.e1 i (by omega))
    have aR := aR.rg (fun i k1 k2 => hF.e1 i (by omega))
    have nw := nw.rg (fun i k1 k2 => hF.e1 i (by omega))
    have fo := fo.rg (fun i k1 k2 => hF.e1 i (by omega))
    have ho := hAt.rg ho (hF.e1 _ (by omega))
    have hr := hAt.rg hr (hF.e1 _ (by omega))
    have hs : HsAt _ _ 50 _ _ := fun i hi => (hs i hi).rg (fun j k1 k2 => hF.e1 j (by omega))
    have kp := hAt.rg kp (hF.e1 _ (by omega))
    have kf := fun i hi => (kf i hi).rg (fun j k1 k2 => hF.e1 j (by omega))
    have ik := hAt.rg ik (hF.e1 _ (by omega))
    have md := md.rg (fun i k1 k2 => hF.e1 i (by omega))
    refine ⟨⟨_, md.1⟩, EVi.mono (m_drop G _ md pS.1 hlL q) (fun y2 h2 hq => ?_)⟩
    simp only [hE] at hq
    obtain ⟨rfl, md, hF⟩ := hq
    have hC := hAt.rg hC (hF _ (by omega))
    have t := t.rg (fun i k1 k2 => hF i (by omega))
    have dk := dk.rg (fun i k1 k2 => hF i (by omega))
    have sl := hAt.rg sl (hF _ (by omega))
    have sf := fun i hi => (sf i hi).rg (fun j k1 k2 => hF j (by omega))
    have th := hAt.rg th (hF _ (by omega))
    have rd := hAt.rg rd (hF _ (by omega))
    have aT := aT.rg (fun i k1 k2 => hF i (by omega))
    have aR := aR.rg (fun i k1 k2 => hF i (by omega))
    have nw := nw.rg (fun i k1 k2 => hF i (by omega))
    have fo := fo.rg (fun i k1 k2 => hF i (by omega))
    have ho := hAt.rg ho (hF _ (by omega))
    have hr := hAt.rg hr (hF _ (by omega))
    have hs : HsAt _ _ 50 _ _ := fun i hi => (hs i hi).rg (fun j k1 k2 => hF j (by omega))
    have kp := hAt.rg kp (hF _ (by omega))
    have kf := fun i hi => (kf i hi).rg (fun j k1 k2 => hF j (by omega))
    have ik := hAt.rg ik (hF _ (by omega))
    exact ⟨rfl, ⟨_, _, _, _, _, _, _, _, _, _, _, _, _, _, _, _, _, _, _, _, hC, t, htL, ⟨_, _, dk, hdL⟩, sl, sf, hlL, th, ⟨_, _, _, _, rd⟩, aT, ⟨_, _, aR⟩, nw, ⟨_, _, fo⟩, ho, hx, hz, hr, hs, kp, kf, ik, md, pT.cg rfl rfl, pS.drop _, pW, pN.cg (fun _ _ => rfl) rfl rfl rfl rfl, pL.cg (fun _ _ _ => rfl) rfl rfl rfl rfl, pH.cg (fun _ _ _ => rfl) rfl rfl rfl rfl rfl hz, pK.cg (fun _ _ _ => rfl) rfl rfl rfl rfl rfl⟩⟩
