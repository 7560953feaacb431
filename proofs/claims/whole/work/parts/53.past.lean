theorem kpR_up {r : Nat → Int32} {z j : Nat} (hz : z ≤ 8) (hj : 693 ≤ j) : kpR r z j = r j := by
  unfold kpR
  split
  · rw [cpR_out (by omega), cpR_out (by omega)]
  · rw [cpR_out (by omega)]
/-- one state more is remembered -/
theorem hiR.push {n x z m : Nat} {A : Nat → AA} {W : Nat → VV} {am am' : AA} {vm vm' : VV} {a : AA} {v : VV} (h : hiR n x z A W am vm) (pN : SR n m a v am vm 0) (hx : x < 8) (hz : z ≤ 8) (g : Nat → Int32) (h0 : ∀ j, 77 ≤ j → am' 0 j = kpR (am 0) z j) (h3 : am' 3 = am 3) (h4 : am' 4 = am 4) (h1 : vm' 1 = vm 1) (h2 : vm' 2 = vm 2) (h5 : vm' 5 = nI (hiZ z)) : hiR n (hiO x z) (hiZ z) (va_up A ((x + z) % 8) (va_up a 7 g)) (va_up W ((x + z) % 8) v) am' vm' := by
  refine ⟨h5, fun i hi => ?_⟩
  by_cases q : z < 8
  · have eZ : hiZ z = z + 1 := if_pos q
    have eO : hiO x z = x := if_pos q
    rw [eZ] at hi
    rw [eO]
    by_cases e : i = z
    · subst e
      rw [vu_s, vu_s]
      refine ⟨m, (pN.cg (fun j hj => ?_) h3 h4 h1 h2).ca (up7 a g) eqV.rf⟩
      rw [h0 _ (by omega)]
      unfold kpR
      rw [if_neg (by omega), cpR_in hj]
    · have ne : (x + i) % 8 ≠ (x + z) % 8 := by omega
      rw [vu_n _ _ ne, vu_n _ _ ne]
      obtain ⟨m', hm'⟩ := h.2 i (by omega)
      refine ⟨m', hm'.cg (fun j hj => ?_) h3 h4 h1 h2⟩
      rw [h0 _ (by omega)]
      unfold kpR
      rw [if_neg (by omega), cpR_out (by omega)]
  · have e8 : z = 8 := by omega
    subst e8
    have eZ : hiZ 8 = 8 := if_neg q
    have eO : hiO x 8 = (x + 1) % 8 := if_neg q
    rw [eZ] at hi
    rw [eO]
    by_cases e : i = 7
    · subst e
      rw [show ((x + 1) % 8 + 7) % 8 = (x + 8) % 8 by omega, vu_s, vu_s]
      refine ⟨m, (pN.cg (fun j hj => ?_) h3 h4 h1 h2).ca (up7 a g) eqV.rf⟩
      rw [h0 _ (by omega)]
      unfold kpR
      rw [if_pos rfl, show 77 + 77 * 7 + j = 616 + j by omega, cpR_in hj, cpR_out (by omega)]
    · have ne : ((x + 1) % 8 + i) % 8 ≠ (x + 8) % 8 := by omega
      rw [vu_n _ _ ne, vu_n _ _ ne, show ((x + 1) % 8 + i) % 8 = (x + (i + 1)) % 8 by omega]
      obtain ⟨m', hm'⟩ := h.2 (i + 1) (by omega)
      refine ⟨m', hm'.cg (fun j hj => ?_) h3 h4 h1 h2⟩
      rw [h0 _ (by omega)]
      unfold kpR
      rw [if_pos rfl, cpR_out (by omega), show 77 + 77 * i + j = 77 + (77 * i + j) by omega, cpR_in (by omega)]
      congr 1
      omega
theorem hiO_lt {x z : Nat} (hx : x < 8) : hiO x z < 8 := by
  unfold hiO
  split
  · exact hx
  · omega
theorem hiZ_le {z : Nat} (hz : z ≤ 8) : hiZ z ≤ 8 := by
  unfold hiZ
  split
  · omega
  · exact hz
theorem erAway_cg {v v' : VV} (h : v 9 = v' 9) (n : Nat) (j s : Int32) : erAway v n j s = erAway v' n j s := by
  unfold erAway
  rw [h]
theorem SR.away {n m z : Nat} {a : AA} {v : VV} {am : AA} {vm : VV} (h : SR n m a v am vm 0) (w : Int32) (vm' : VV) (h1 : vm' 1 = vm 1) (h2 : vm' 2 = vm 2) : SR n m a (va_up v 9 (v 9 ^^^ w)) (va_up am 0 (upd (kpR (am 0) z) 4 (am 0 4 ^^^ w))) vm' 0 := by
  have hn := h.2.1.1
  have hm := h.2.2.2.2.1
  have o : ∀ i, i < 77 → i ≠ 4 → upd (kpR (am 0) z) 4 (am 0 4 ^^^ w) i = am 0 i := fun i i1 i2 => by
    unfold upd
    rw [if_neg i2, kpR_lo i1]
  refine ⟨⟨fun f j hf hj => ?_, fun f c f1 f2 hc => ?_, fun i i1 i2 => ?_⟩, ?_⟩
  · rcases (show f = 0 ∨ f = 1 ∨ f = 2 ∨ f = 3 by omega) with rfl | rfl | rfl | rfl
    · exact h.1.1 0 j (by omega) hj
    · exact h.1.1 1 j (by omega) hj
    · exact (h.1.1 2 j (by omega) hj).trans (o (0 + 5 + j) (by omega) (by omega)).symm
    · exact (h.1.1 3 j (by omega) hj).trans (o (0 + 11 + j) (by omega) (by omega)).symm
  · rcases (show f = 4 ∨ f = 5 ∨ f = 6 by omega) with rfl | rfl | rfl
    · exact (h.1.2.1 4 c (by omega) (by omega) hc).trans (o (0 + 17 + c) (by omega) (by omega)).symm
    · exact (h.1.2.1 5 c (by omega) (by omega) hc).trans (o (0 + 37 + c) (by omega) (by omega)).symm
    · exact (h.1.2.1 6 c (by omega) (by omega) hc).trans (o (0 + 57 + c) (by omega) (by omega)).symm
  · rcases (show i = 8 ∨ i = 9 ∨ i = 10 ∨ i = 11 ∨ i = 12 ∨ i = 13 ∨ i = 14 by omega) with rfl | rfl | rfl | rfl | rfl | rfl | rfl
    · exact (h.1.2.2 8 (by omega) (by omega)).trans h1.symm
    · show v 9 ^^^ w = am 0 4 ^^^ w
      rw [show v 9 = am 0 4 from h.1.2.2 9 (by omega) (by omega)]
    · exact (h.1.2.2 10 (by omega) (by omega)).trans h2.symm
    · exact (h.1.2.2 11 (by omega) (by omega)).trans (o 0 (by omega) (by omega)).symm
    · exact (h.1.2.2 12 (by omega) (by omega)).trans (o 1 (by omega) (by omega)).symm
    · exact (h.1.2.2 13 (by omega) (by omega)).trans (o 2 (by omega) (by omega)).symm
    · exact (h.1.2.2 14 (by omega) (by omega)).trans (o 3 (by omega) (by omega)).symm
  · exact ⟨h.2.1.cg (fun _ _ => rfl) (fun _ _ => rfl) rfl h.2.1.2.2.1, h.2.2⟩
theorem erKeep_n {k : Int32} (h : erKeep k = none) : k.toNatClampNeg < 2 := by
  unfold erKeep at h
  split at h
  · rename_i q; exact ixJ (n := 2) (by omega) ⟨Int32.not_lt.mp q.1, q.2⟩
  · cases h
theorem erBack_n {kb : Nat → Bool} {k : Int32} (h : erBack kb k = none) : k.toNatClampNeg < 2 ∧ kb k.toNatClampNeg = true := by
  unfold erBack at h
  split at h
  · rename_i q
    split at h
    · rename_i r; exact ⟨ixJ (n := 2) (by omega) ⟨Int32.not_lt.mp q.1, q.2⟩, r⟩
    · cases h
  · cases h
theorem keR.keep {n m K : Nat} {kb : Nat → Bool} {A2 : Nat → AA} {W2 : Nat → VV} {am : AA} {vm : VV} {a : AA} {v : VV} (h : keR n kb A2 W2 am vm) (pN : SR n m a v am vm 0) (hK : K < 2) (g : Nat → Int32) : keR n (va_up kb K true) (va_up A2 K (va_up a 7 g)) (va_up W2 K v) (va_up (va_up am 0 (cpR (am 0) 0 (693 + 77 * K) 77)) 6 (upd (am 6) K 1)) vm := fun i hi => by
  by_cases e : i = K
  · subst e
    simp only [vu_s]
    refine ⟨pk_us, fun _ => ⟨m, (pN.cg (am' := va_up (va_up am 0 (cpR (am 0) 0 (693 + 77 * i) 77)) 6 (upd (am 6) i 1)) (vm' := vm) (B' := 693 + 77 * i) (fun j hj => ?_) rfl rfl rfl rfl).ca (up7 a g) eqV.rf⟩⟩
    show cpR (am 0) 0 (693 + 77 * i) 77 (693 + 77 * i + j) = am 0 (0 + j)
    rw [cpR_in hj]
  · rw [vu_n _ _ e, vu_n _ _ e, vu_n _ _ e]
    obtain ⟨g1, g2⟩ := h i hi
    refine ⟨(pk_un e).trans g1, fun hk => ?_⟩
    obtain ⟨m', hm'⟩ := g2 hk
    refine ⟨m', hm'.cg (fun j hj => ?_) rfl rfl rfl rfl⟩
    show cpR (am 0) 0 (693 + 77 * K) 77 (693 + 77 * i + j) = _
    rw [cpR_out (by omega)]
/-- a state out of another part of the row -/
theorem SR.back {n m B : Nat} {a : AA} {v : VV} {am : AA} {vm : VV} (h : SR n m a v am vm B) (g : Nat → Int32) (vm' : VV) (h1 : vm' 1 = vm 1) (h2 : vm' 2 = vm 2) : SR n m (va_up a 7 g) v (va_up am 0 (cpR (am 0) B 0 77)) vm' 0 := (h.cg (am' := va_up am 0 (cpR (am 0) B 0 77)) (B' := 0) (fun j hj => by
  show cpR (am 0) B 0 77 (0 + j) = am 0 (B + j)
  rw [cpR_in hj]) rfl rfl h1 h2).ca (up7 a g) eqV.rf
theorem L_away {G : GG} {hh : HH} (hd : HARDP) (hI : Inv G hh) (j s : Int32) : SS G mX4_away mX5_away [.int j, .int s] hh := by
  have hI0 := hI
  obtain ⟨tf, tL, lf, lL, b, a1, v1, a, v, x, z, A, W, A2, W2, kb, am, vm, n, m, hC, t, htL, ⟨df, dL, dk, hdL⟩, sl, sf, hlL, th, ⟨rk, re, rc, rs, rd⟩, aT, ⟨a2, v2, aR⟩, nw, ⟨a3, v3, fo⟩, ho, hx, hz, hr, hs, kp, kf, ik, md, pT, pS, pW, pN, pL, pH, pK⟩ := hI
  obtain ⟨hn, hv, hc, hm, hv1, hc1, hr2⟩ := pN.n
  have hc1 : am 0 3 = nI m := hc1
  refine EVi.mono (w_away G hh hC nw ho hx hz hr hs hn hv j s) (fun y h1 hp => ?_)
  cases hE : erAway v n j s with
  | some e =>
    simp only [hE] at hp
    obtain ⟨rfl, rfl⟩ := hp
    refine ⟨⟨_, md.1⟩, EVi.mono (m_away G _ md hn hv1 hz pH.1 j s) (fun y2 h2 hq => ?_)⟩
    rw [erAway_cg (v := mV am vm 0) (v' := v) (pN.1.2.2 9 (by omega) (by omega)).symm] at hq
    simp only [hE] at hq
    obtain ⟨rfl, rfl⟩ := hq
    exact ⟨rfl, hI0⟩
  | none =>
    simp only [hE] at hp
    obtain ⟨rfl, nw, ho, hr, hs, hF⟩ := hp
    have hC := hAt.rg hC (hF.e2 _ (by omega))
    have t := t.rg (fun i k1 k2 => hF.e2 i (by omega))
    have dk := dk.rg (fun i k1 k2 => hF.e2 i (by omega))
    have sl := hAt.rg sl (hF.e2 _ (by omega))
    have sf := fun i hi => (sf i hi).rg (fun j k1 k2 => hF.e2 j (by omega))
    have th := hAt.rg th (hF.e2 _ (by omega))
    have rd := hAt.rg rd (hF.e2 _ (by omega))
    have aT := aT.rg (fun i k1 k2 => hF.e2 i (by omega))
    have aR := aR.rg (fun i k1 k2 => hF.e2 i (by omega))
    have fo := fo.rg (fun i k1 k2 => hF.e2 i (by omega))
    have kp := hAt.rg kp (hF.e2 _ (by omega))
    have kf := fun i hi => (kf i hi).rg (fun j k1 k2 => hF.e2 j (by omega))
    have ik := hAt.rg ik (hF.e2 _ (by omega))
    have md := md.rg (fun i k1 k2 => hF.e2 i (by omega))
    refine ⟨⟨_, md.1⟩, EVi.mono (m_away G _ md hn hv1 hz pH.1 j s) (fun y2 h2 hq => ?_)⟩
    rw [erAway_cg (v := mV am vm 0) (v' := v) (pN.1.2.2 9 (by omega) (by omega)).symm] at hq
    simp only [hE] at hq
    obtain ⟨rfl, md, hF⟩ := hq
    have hC := hAt.rg hC (hF _ (by omega))
    have t := t.rg (fun i k1 k2 => hF i (by omega))
    have dk := dk.rg (fun i k1 k2 => hF i (by omega))
    have sl := hAt.rg sl (hF _ (by omega))
    have sf := fun i hi => (sf i hi).rg (fun j k1 k2 => hF j (by omega))
    have th := hAt.rg th (hF _ (by omega))
    have rd := hAt.rg rd (hF _ (by omega))
    have aT := aT.rg (fun i k1 k2 => hF i (by omega))
    have aR := aR.rg (fun i k1 k2 => hF i (by omega))
    have nw := nw.rg (fun i k1 k2 => hF i (by omega))
    have fo := fo.rg (fun i k1 k2 => hF i (by omega))
    have ho := hAt.rg ho (hF _ (by omega))
    have hr := hAt.rg hr (hF _ (by omega))
    have hs : HsAt _ _ 50 _ _ := fun i hi => (hs i hi).rg (fun j k1 k2 => hF j (by omega))
    have kp := hAt.rg kp (hF _ (by omega))
    have kf := fun i hi => (kf i hi).rg (fun j k1 k2 => hF j (by omega))
    have ik := hAt.rg ik (hF _ (by omega))
    exact ⟨rfl, ⟨_, _, _, _, _, _, _, _, _, _, _, _, _, _, _, _, _, _, _, _, hC, t, htL, ⟨_, _, dk, hdL⟩, sl, sf, hlL, th, ⟨_, _, _, _, rd⟩, aT, ⟨_, _, aR⟩, nw, ⟨_, _, fo⟩, ho, hiO_lt hx, hiZ_le hz, hr, hs, kp, kf, ik, md, pT.cg rfl rfl, pS.cg rfl rfl, pW, pN.away _ _ rfl rfl, pL.cg (fun j k1 _ => (if_neg (by omega)).trans (kpR_up hz (by omega))) rfl rfl rfl rfl, pH.push pN hx hz _ (fun j k1 => if_neg (by omega)) rfl rfl rfl rfl rfl, pK.cg (fun j k1 _ => (if_neg (by omega)).trans (kpR_up hz (by omega))) rfl rfl rfl rfl rfl⟩⟩
theorem L_undo {G : GG} {hh : HH} (hd : HARDP) (hI : Inv G hh)  : SS G mX4_undo mX5_undo [] hh := by
  have hI0 := hI
  obtain ⟨tf, tL, lf, lL, b, a1, v1, a, v, x, z, A, W, A2, W2, kb, am, vm, n, m, hC, t, htL, ⟨df, dL, dk, hdL⟩, sl, sf, hlL, th, ⟨rk, re, rc, rs, rd⟩, aT, ⟨a2, v2, aR⟩, nw, ⟨a3, v3, fo⟩, ho, hx, hz, hr, hs, kp, kf, ik, md, pT, pS, pW, pN, pL, pH, pK⟩ := hI
  obtain ⟨hn, hv, hc, hm, hv1, hc1, hr2⟩ := pN.n
  have hc1 : am 0 3 = nI m := hc1
  refine EVi.mono (w_undo G hh hC nw ho hx hz hr hs) (fun y h1 hp => ?_)
  cases hE : erUndo z with
  | some e =>
    simp only [hE] at hp
    obtain ⟨rfl, rfl⟩ := hp
    refine ⟨⟨_, md.1⟩, EVi.mono (m_undo G _ md hz pH.1) (fun y2 h2 hq => ?_)⟩
    simp only [hE] at hq
    obtain ⟨rfl, rfl⟩ := hq
    exact ⟨rfl, hI0⟩
  | none =>
    simp only [hE] at hp
    obtain ⟨rfl, nw, ho, hr, hs, hF⟩ := hp
    have z1 : 1 ≤ z := by (unfold erUndo at hE; split at hE; assumption; cases hE)
    obtain ⟨m9, hm9⟩ := pH.2 (z - 1) (by omega)
    have hC := hAt.rg hC (hF.e2 _ (by omega))
    have t := t.rg (fun i k1 k2 => hF.e2 i (by omega))
    have dk := dk.rg (fun i k1 k2 => hF.e2 i (by omega))
    have sl := hAt.rg sl (hF.e2 _ (by omega))
    have sf := fun i hi => (sf i hi).rg (fun j k1 k2 => hF.e2 j (by omega))
    have th := hAt.rg th (hF.e2 _ (by omega))
    have rd := hAt.rg rd (hF.e2 _ (by omega))
    have aT := aT.rg (fun i k1 k2 => hF.e2 i (by omega))
    have aR := aR.rg (fun i k1 k2 => hF.e2 i (by omega))
    have fo := fo.rg (fun i k1 k2 => hF.e2 i (by omega))
    have kp := hAt.rg kp (hF.e2 _ (by omega))
    have kf := fun i hi => (kf i hi).rg (fun j k1 k2 => hF.e2 j (by omega))
    have ik := hAt.rg ik (hF.e2 _ (by omega))
    have md := md.rg (fun i k1 k2 => hF.e2 i (by omega))
    refine ⟨⟨_, md.1⟩, EVi.mono (m_undo G _ md hz pH.1) (fun y2 h2 hq => ?_)⟩
    simp only [hE] at hq
    obtain ⟨rfl, md, hF⟩ := hq
    have hC := hAt.rg hC (hF _ (by omega))
    have t := t.rg (fun i k1 k2 => hF i (by omega))
    have dk := dk.rg (fun i k1 k2 => hF i (by omega))
    have sl := hAt.rg sl (hF _ (by omega))
    have sf := fun i hi => (sf i hi).rg (fun j k1 k2 => hF j (by omega))
    have th := hAt.rg th (hF _ (by omega))
    have rd := hAt.rg rd (hF _ (by omega))
    have aT := aT.rg (fun i k1 k2 => hF i (by omega))
    have aR := aR.rg (fun i k1 k2 => hF i (by omega))
    have nw := nw.rg (fun i k1 k2 => hF i (by omega))
    have fo := fo.rg (fun i k1 k2 => hF i (by omega))
    have ho := hAt.rg ho (hF _ (by omega))
    have hr := hAt.rg hr (hF _ (by omega))
    have hs : HsAt _ _ 50 _ _ := fun i hi => (hs i hi).rg (fun j k1 k2 => hF j (by omega))
    have kp := hAt.rg kp (hF _ (by omega))
    have kf := fun i hi => (kf i hi).rg (fun j k1 k2 => hF j (by omega))
    have ik := hAt.rg ik (hF _ (by omega))
    exact ⟨rfl, ⟨_, _, _, _, _, _, _, _, _, _, _, _, _, _, _, _, _, _, _, _, hC, t, htL, ⟨_, _, dk, hdL⟩, sl, sf, hlL, th, ⟨_, _, _, _, rd⟩, aT, ⟨_, _, aR⟩, nw, ⟨_, _, fo⟩, ho, hx, Nat.le_trans (Nat.sub_le z 1) hz, hr, hs, kp, kf, ik, md, pT.cg rfl rfl, pS.cg rfl rfl, pW, hm9.back _ _ rfl rfl, pL.cg (fun j k1 _ => cpR_out (by omega)) rfl rfl rfl rfl, ⟨rfl, fun i hi => by (obtain ⟨m8, hm8⟩ := pH.2 i (by omega); exact ⟨m8, hm8.cg (fun j hj => cpR_out (by omega)) rfl rfl rfl rfl⟩)⟩, pK.cg (fun j k1 _ => cpR_out (by omega)) rfl rfl rfl rfl rfl⟩⟩
theorem L_keep {G : GG} {hh : HH} (hd : HARDP) (hI : Inv G hh) (k : Int32) : SS G mX4_keep mX5_keep [.int k] hh := by
  have hI0 := hI
  obtain ⟨tf, tL, lf, lL, b, a1, v1, a, v, x, z, A, W, A2, W2, kb, am, vm, n, m, hC, t, htL, ⟨df, dL, dk, hdL⟩, sl, sf, hlL, th, ⟨rk, re, rc, rs, rd⟩, aT, ⟨a2, v2, aR⟩, nw, ⟨a3, v3, fo⟩, ho, hx, hz, hr, hs, kp, kf, ik, md, pT, pS, pW, pN, pL, pH, pK⟩ := hI
  obtain ⟨hn, hv, hc, hm, hv1, hc1, hr2⟩ := pN.n
  have hc1 : am 0 3 = nI m := hc1
  refine EVi.mono (w_keep G hh hC nw kp kf ik k) (fun y h1 hp => ?_)
  cases hE : erKeep k with
  | some e =>
    simp only [hE] at hp
    obtain ⟨rfl, rfl⟩ := hp
    refine ⟨⟨_, md.1⟩, EVi.mono (m_keep G _ md k) (fun y2 h2 hq => ?_)⟩
    simp only [hE] at hq
    obtain ⟨rfl, rfl⟩ := hq
    exact ⟨rfl, hI0⟩
  | none =>
    simp only [hE] at hp
    obtain ⟨rfl, kf, ik, hF⟩ := hp
    have hK := erKeep_n hE
    have hC := hAt.rg hC (hF.e1 _ (by omega))
    have t := t.rg (fun i k1 k2 => hF.e1 i (by omega))
    have dk := dk.rg (fun i k1 k2 => hF.e1 i (by omega))
    have sl := hAt.rg sl (hF.e1 _ (by omega))
    have sf := fun i hi => (sf i hi).rg (fun j k1 k2 => hF.e1 j (by omega))
    have th := hAt.rg th (hF.e1 _ (by omega))
    have rd := hAt.rg rd (hF.e1 _ (by omega))
    have aT := aT.rg (fun i k1 k2 => hF.e1 i (by omega))
    have aR := aR.rg (fun i k1 k2 => hF.e1 i (by omega))
    have nw := nw.rg (fun i k1 k2 => hF.e1 i (by omega))
    have fo := fo.rg (fun i k1 k2 => hF.e1 i (by omega))
    have ho := hAt.rg ho (hF.e1 _ (by omega))
    have hr := hAt.rg hr (hF.e1 _ (by omega))
    have hs : HsAt _ _ 50 _ _ := fun i hi => (hs i hi).rg (fun j k1 k2 => hF.e1 j (by omega))
    have kp := hAt.rg kp (hF.e1 _ (by omega))
    have md := md.rg (fun i k1 k2 => hF.e1 i (by omega))
    refine ⟨⟨_, md.1⟩, EVi.mono (m_keep G _ md k) (fun y2 h2 hq => ?_)⟩
    simp only [hE] at hq
    obtain ⟨rfl, md, hF⟩ := hq
    have hC := hAt.rg hC (hF _ (by omega))
    have t := t.rg (fun i k1 k2 => hF i (by omega))
    have dk := dk.rg (fun i k1 k2 => hF i (by omega))
    have sl := hAt.rg sl (hF _ (by omega))
    have sf := fun i hi => (sf i hi).rg (fun j k1 k2 => hF j (by omega))
    have th := hAt.rg th (hF _ (by omega))
    have rd := hAt.rg rd (hF _ (by omega))
    have aT := aT.rg (fun i k1 k2 => hF i (by omega))
    have aR := aR.rg (fun i k1 k2 => hF i (by omega))
    have nw := nw.rg (fun i k1 k2 => hF i (by omega))
    have fo := fo.rg (fun i k1 k2 => hF i (by omega))
    have ho := hAt.rg ho (hF _ (by omega))
    have hr := hAt.rg hr (hF _ (by omega))
    have hs : HsAt _ _ 50 _ _ := fun i hi => (hs i hi).rg (fun j k1 k2 => hF j (by omega))
    have kp := hAt.rg kp (hF _ (by omega))
    have kf := fun i hi => (kf i hi).rg (fun j k1 k2 => hF j (by omega))
    have ik := hAt.rg ik (hF _ (by omega))
    exact ⟨hc1.trans hc.symm, ⟨_, _, _, _, _, _, _, _, _, _, _, _, _, _, _, _, _, _, _, _, hC, t, htL, ⟨_, _, dk, hdL⟩, sl, sf, hlL, th, ⟨_, _, _, _, rd⟩, aT, ⟨_, _, aR⟩, nw, ⟨_, _, fo⟩, ho, hx, hz, hr, hs, kp, kf, ik, md, pT.cg rfl rfl, pS.cg rfl rfl, pW, pN.cg (fun j hj => cpR_out (by omega)) rfl rfl rfl rfl, pL.cg (fun j k1 _ => cpR_out (by omega)) rfl rfl rfl rfl, pH.cg (fun j k1 k2 => cpR_out (by omega)) rfl rfl rfl rfl rfl hz, pK.keep pN hK _⟩⟩
theorem L_back {G : GG} {hh : HH} (hd : HARDP) (hI : Inv G hh) (k : Int32) : SS G mX4_back mX5_back [.int k] hh := by
  have hI0 := hI
  obtain ⟨tf, tL, lf, lL, b, a1, v1, a, v, x, z, A, W, A2, W2, kb, am, vm, n, m, hC, t, htL, ⟨df, dL, dk, hdL⟩, sl, sf, hlL, th, ⟨rk, re, rc, rs, rd⟩, aT, ⟨a2, v2, aR⟩, nw, ⟨a3, v3, fo⟩, ho, hx, hz, hr, hs, kp, kf, ik, md, pT, pS, pW, pN, pL, pH, pK⟩ := hI
  obtain ⟨hn, hv, hc, hm, hv1, hc1, hr2⟩ := pN.n
  have hc1 : am 0 3 = nI m := hc1
  refine EVi.mono (w_back G hh hC nw kp kf ik ho hx hz k) (fun y h1 hp => ?_)
  cases hE : erBack kb k with
  | some e =>
    simp only [hE] at hp
    obtain ⟨rfl, rfl⟩ := hp
    refine ⟨⟨_, md.1⟩, EVi.mono (m_back G _ md (kb := kb) (fun i hi => (pK i hi).1) k) (fun y2 h2 hq => ?_)⟩
    simp only [hE] at hq
    obtain ⟨rfl, rfl⟩ := hq
    exact ⟨rfl, hI0⟩
  | none =>
    simp only [hE] at hp
    obtain ⟨rfl, nw, ho, hF⟩ := hp
    obtain ⟨hK, hkb⟩ := erBack_n hE
    obtain ⟨m9, hm9⟩ := (pK _ hK).2 hkb
    have hC := hAt.rg hC (hF.e2 _ (by omega))
    have t := t.rg (fun i k1 k2 => hF.e2 i (by omega))
    have dk := dk.rg (fun i k1 k2 => hF.e2 i (by omega))
    have sl := hAt.rg sl (hF.e2 _ (by omega))
    have sf := fun i hi => (sf i hi).rg (fun j k1 k2 => hF.e2 j (by omega))
    have th := hAt.rg th (hF.e2 _ (by omega))
    have rd := hAt.rg rd (hF.e2 _ (by omega))
    have aT := aT.rg (fun i k1 k2 => hF.e2 i (by omega))
    have aR := aR.rg (fun i k1 k2 => hF.e2 i (by omega))
    have fo := fo.rg (fun i k1 k2 => hF.e2 i (by omega))
    have hr := hAt.rg hr (hF.e2 _ (by omega))
    have hs : HsAt _ _ 50 _ _ := fun i hi => (hs i hi).rg (fun j k1 k2 => hF.e2 j (by omega))
    have kp := hAt.rg kp (hF.e2 _ (by omega))
    have kf := fun i hi => (kf i hi).rg (fun j k1 k2 => hF.e2 j (by omega))
    have ik := hAt.rg ik (hF.e2 _ (by omega))
    have md := md.rg (fun i k1 k2 => hF.e2 i (by omega))
    refine ⟨⟨_, md.1⟩, EVi.mono (m_back G _ md (kb := kb) (fun i hi => (pK i hi).1) k) (fun y2 h2 hq => ?_)⟩
    simp only [hE] at hq
    obtain ⟨rfl, md, hF⟩ := hq
    have hC := hAt.rg hC (hF _ (by omega))
    have t := t.rg (fun i k1 k2 => hF i (by omega))
    have dk := dk.rg (fun i k1 k2 => hF i (by omega))
    have sl := hAt.rg sl (hF _ (by omega))
    have sf := fun i hi => (sf i hi).rg (fun j k1 k2 => hF j (by omega))
    have th := hAt.rg th (hF _ (by omega))
    have rd := hAt.rg rd (hF _ (by omega))
    have aT := aT.rg (fun i k1 k2 => hF i (by omega))
    have aR := aR.rg (fun i k1 k2 => hF i (by omega))
    have nw := nw.rg (fun i k1 k2 => hF i (by omega))
    have fo := fo.rg (fun i k1 k2 => hF i (by omega))
    have ho := hAt.rg ho (hF _ (by omega))
    have hr := hAt.rg hr (hF _ (by omega))
    have hs : HsAt _ _ 50 _ _ := fun i hi => (hs i hi).rg (fun j k1 k2 => hF j (by omega))
    have kp := hAt.rg kp (hF _ (by omega))
    have kf := fun i hi => (kf i hi).rg (fun j k1 k2 => hF j (by omega))
    have ik := hAt.rg ik (hF _ (by omega))
    exact ⟨hm9.n.2.2.2.2.2.1.trans hm9.n.2.2.1.symm, ⟨_, _, _, _, _, _, _, _, _, _, 0, _, _, _, _, _, _, _, _, _, hC, t, htL, ⟨_, _, dk, hdL⟩, sl, sf, hlL, th, ⟨_, _, _, _, rd⟩, aT, ⟨_, _, aR⟩, nw, ⟨_, _, fo⟩, ho, hx, Nat.zero_le _, hr, hs, kp, kf, ik, md, pT.cg rfl rfl, pS.cg rfl rfl, pW, hm9.back _ _ rfl rfl, pL.cg (fun j k1 _ => cpR_out (by omega)) rfl rfl rfl rfl, ⟨rfl, fun i hi => absurd hi (Nat.not_lt_zero i)⟩, pK.cg (fun j k1 _ => cpR_out (by omega)) rfl rfl rfl rfl rfl⟩⟩
