theorem Tl.ca {n : Nat} {c c' : AA} {u : VV} {r st ve : Nat → Int32} {jn ru : Int32} (h : Tl n c u r st ve jn ru) (hc : ∀ f, f < 4 → c' f = c f) : Tl n c' u r st ve jn ru := by
  obtain ⟨h1, h2, h3, h4, h5, h6, h7, h8, h9, h10, h11⟩ := h
  refine ⟨h1, h2, h3, fun j hj => ?_, h5, h6, h7, h8, h9, h10, h11⟩
  rw [hc 0 (by omega), hc 1 (by omega), hc 2 (by omega), hc 3 (by omega)]
  exact h4 j hj
theorem up7' (a : AA) (g : Nat → Int32) : ∀ f, f < 4 → va_up a 7 g f = a f := fun f hf => if_neg (by omega)
/-- a state as the texts tell it -/
theorem Tl.SR {n : Nat} {c : AA} {u : VV} {am : AA} {vm : VV} (h : Tl n c u (fun j => am 0 (847 + j)) (am 3) (am 4) (vm 1) (vm 2)) (h0 : ∀ j, j < 77 → am 0 j = am 0 (847 + j)) : SR n 0 c u am vm 0 := by
  obtain ⟨h1, h2, h3, h4, h5, h6, h7, h8, h9, ⟨h11, h12, h13, h14⟩, ⟨r0, r1, r2, r3⟩⟩ := h
  refine ⟨⟨fun f j hf hj => ?_, fun f c _ _ hc => absurd hc (Nat.not_lt_zero c), fun i i1 i2 => ?_⟩, ⟨h1, by rw [h8]; exact h9, by rw [h12]; decide, fun j hj => ?_, fun e => ?_⟩, h2, h14, by omega, fun c hc => absurd hc (Nat.not_lt_zero c)⟩
  · obtain ⟨a1, a2, a3, a4, a5, a6⟩ := h4 j hj
    rcases (show f = 0 ∨ f = 1 ∨ f = 2 ∨ f = 3 by omega) with rfl | rfl | rfl | rfl
    · exact a1
    · exact a2
    · show c 2 j = am 0 (0 + 5 + j)
      rw [h0 _ (by omega), a3, Nat.zero_add]
    · show c 3 j = am 0 (0 + 11 + j)
      rw [h0 _ (by omega), a4, Nat.zero_add]
      exact (h6 j (by omega)).symm
  · rcases (show i = 8 ∨ i = 9 ∨ i = 10 ∨ i = 11 ∨ i = 12 ∨ i = 13 ∨ i = 14 by omega) with rfl | rfl | rfl | rfl | rfl | rfl | rfl
    · exact h2.trans h3.symm
    · exact h7.trans (h0 4 (by omega)).symm
    · exact h8
    · exact h11.trans (r0.symm.trans (h0 0 (by omega)).symm)
    · exact h12.trans (r1.symm.trans (h0 1 (by omega)).symm)
    · exact h13.trans (r2.symm.trans (h0 2 (by omega)).symm)
    · exact h14.trans (r3.symm.trans (h0 3 (by omega)).symm)
  · obtain ⟨a1, a2, a3, a4, a5, a6⟩ := h4 j hj
    rw [a1, a4]
    exact ⟨Int32.le_iff_toInt_le.mp a5, Int32.le_iff_toInt_le.mp a6, (by decide : (-99 : Int) ≤ (0 : Int32).toInt), (by decide : (0 : Int32).toInt ≤ 99)⟩
  · subst e
    rw [(h4 0 (by omega)).2.2.2.1, (h4 1 (by omega)).2.2.2.1, (h4 2 (by omega)).2.2.2.1, (h4 3 (by omega)).2.2.2.1, (h4 4 (by omega)).2.2.2.1, (h4 5 (by omega)).2.2.2.1]
    decide
theorem L_fault {G : GG} {hh : HH} (hd : HARDP) (hI : Inv G hh)  : SS G mX4_fault mX5_fault [] hh := by
  have hI0 := hI
  obtain ⟨tf, tL, lf, lL, b, a1, v1, a, v, x, z, A, W, A2, W2, kb, am, vm, n, m, hC, t, htL, ⟨df, dL, dk, hdL⟩, sl, sf, hlL, th, ⟨rk, re, rc, rs, rd⟩, aT, ⟨a2, v2, aR⟩, nw, ⟨a3, v3, fo⟩, ho, hx, hz, hr, hs, kp, kf, ik, md, pT, pS, pW, pN, pL, pH, pK⟩ := hI
  obtain ⟨hn, hv, hc, hm, hv1, hc1, hr2⟩ := pN.n
  have hc1 : am 0 3 = nI m := hc1
  have hv11 := pL.2.1
  have e7 := pT.2
  refine EVi.mono (w_fault G hh hC t htL rd aT aR hn hv11) (fun y h1 hp => ?_)
  obtain ⟨rfl, ⟨kd, s1, e1, rd⟩, aR, hF⟩ := hp
  obtain ⟨s9, rfl⟩ := nI_all s1
  have hC := hAt.rg hC (hF.e2 _ (by omega))
  have t := t.rg (fun i k1 k2 => hF.e2 i (by omega))
  have dk := dk.rg (fun i k1 k2 => hF.e2 i (by omega))
  have sl := hAt.rg sl (hF.e2 _ (by omega))
  have sf := fun i hi => (sf i hi).rg (fun j k1 k2 => hF.e2 j (by omega))
  have th := hAt.rg th (hF.e2 _ (by omega))
  have aT := aT.rg (fun i k1 k2 => hF.e2 i (by omega))
  have nw := nw.rg (fun i k1 k2 => hF.e2 i (by omega))
  have fo := fo.rg (fun i k1 k2 => hF.e2 i (by omega))
  have ho := hAt.rg ho (hF.e2 _ (by omega))
  have hr := hAt.rg hr (hF.e2 _ (by omega))
  have hs : HsAt _ _ 50 _ _ := fun i hi => (hs i hi).rg (fun j k1 k2 => hF.e2 j (by omega))
  have kp := hAt.rg kp (hF.e2 _ (by omega))
  have kf := fun i hi => (kf i hi).rg (fun j k1 k2 => hF.e2 j (by omega))
  have ik := hAt.rg ik (hF.e2 _ (by omega))
  have md := md.rg (fun i k1 k2 => hF.e2 i (by omega))
  refine ⟨⟨_, md.1⟩, EVi.mono (m_fault G _ htL pT.1 md hn hv1 pW) (fun y2 h2 hq => ?_)⟩
  obtain ⟨rfl, am', vm', md, hF, hK, hS⟩ := hq
  have hC := hAt.rg hC (hF _ (by omega))
  have t := t.rg (fun i k1 k2 => hF i (by omega))
  have dk := dk.rg (fun i k1 k2 => hF i (by omega))
  have sl := hAt.rg sl (hF _ (by omega))
  have sf := fun i hi => (sf i hi).rg (fun j k1 k2 => hF j (by omega))
  have th := hAt.rg th (hF _ (by omega))
  have rd := hAt.rg rd (hF _ (by omega))
  have aT := aT.rg (fun i k1 k2 => hF i (by omega))
  have aR := aR.rg (fun i k1 k2 => hF i (by omega))
  have nw := nw.rg (fun i k1 k2 => hF i (by omega))
  have fo := fo.rg (fun i k1 k2 => hF i (by omega))
  have ho := hAt.rg ho (hF _ (by omega))
  have hr := hAt.rg hr (hF _ (by omega))
  have hs : HsAt _ _ 50 _ _ := fun i hi => (hs i hi).rg (fun j k1 k2 => hF j (by omega))
  have kp := hAt.rg kp (hF _ (by omega))
  have kf := fun i hi => (kf i hi).rg (fun j k1 k2 => hF j (by omega))
  have ik := hAt.rg ik (hF _ (by omega))
  refine ⟨?_, ⟨_, _, _, _, _, _, _, _, _, _, _, _, _, _, _, _, _, _, _, _, hC, t, htL, ⟨_, _, dk, hdL⟩, sl, sf, hlL, th, ⟨_, _, _, _, rd⟩, aT, ⟨_, _, aR⟩, nw, ⟨_, _, fo⟩, ho, hx, hz, hr, hs, kp, kf, ik, md, pT.cg (hK.1 7 (by decide) (by decide) (by decide) (by decide)) (hK.2.2 8 (by decide) (by decide) (by decide)), pS.cg (hK.1 9 (by decide) (by decide) (by decide) (by decide)) (hK.1 10 (by decide) (by decide) (by decide) (by decide)), (fun j hj => by rw [hK.1 17 (by decide) (by decide) (by decide) (by decide)]; exact pW j hj), pN.cg (fun j hj => congrFun hS.1 _) hS.2.1 hS.2.2.1 hS.2.2.2.1 hS.2.2.2.2, pL.cg (fun j _ _ => congrFun hS.1 _) hS.2.1 hS.2.2.1 hS.2.2.2.1 hS.2.2.2.2, pH.cg (fun j _ _ => congrFun hS.1 _) hS.2.1 hS.2.2.1 hS.2.2.2.1 hS.2.2.2.2 (hK.2.2 5 (by decide) (by decide) (by decide)) hz, pK.cg (fun j _ _ => congrFun hS.1 _) hS.2.1 hS.2.2.1 hS.2.2.2.1 hS.2.2.2.2 (hK.1 6 (by decide) (by decide) (by decide) (by decide))⟩⟩
  rw [e7]
  exact (mrd_rd tf tL rs (va_up a1 7 (a2 7)) v1 hn hv11).1.symm
theorem lp_le {f : Nat → Int32} {L : Nat} : ∀ (d s n c : Nat), s ≤ L → (lp f L d s n c).2.1 ≤ L
  | 0, s, n, c, h => by
    show (if L ≤ s then (true, s, c) else (false, s, c)).2.1 ≤ L
    split <;> exact h
  | d + 1, s, n, c, h => by
    show (if L ≤ s then (true, s, c) else if f s = 59 then (if (mc f L (nx f L s) n).1 = true then lp f L d (mc f L (nx f L s) n).2.1 (mc f L (nx f L s) n).2.2 (c + 1) else (false, (mc f L (nx f L s) n).2.1, c + 1)) else (false, s, c)).2.1 ≤ L
    have hm := mc_le (f := f) (nx_le f h) n
    split
    · exact h
    · split
      · split
        · exact lp_le d _ _ _ hm
        · exact hm
      · exact h
theorem mrd_le {f : Nat → Int32} {L : Nat} (n : Nat) : (mrd f L n).2.1 ≤ L := by
  have hm := mc_le (f := f) (tkS_le f (Nat.zero_le L)) n
  unfold mrd
  split
  · exact lp_le 23 _ _ _ hm
  · exact hm
theorem L_wheel {G : GG} {hh : HH} (hd : HARDP) (hI : Inv G hh)  : SS G mX4_wheel mX5_wheel [] hh := by
  have hI0 := hI
  obtain ⟨tf, tL, lf, lL, b, a1, v1, a, v, x, z, A, W, A2, W2, kb, am, vm, n, m, hC, t, htL, ⟨df, dL, dk, hdL⟩, sl, sf, hlL, th, ⟨rk, re, rc, rs, rd⟩, aT, ⟨a2, v2, aR⟩, nw, ⟨a3, v3, fo⟩, ho, hx, hz, hr, hs, kp, kf, ik, md, pT, pS, pW, pN, pL, pH, pK⟩ := hI
  obtain ⟨hn, hv, hc, hm, hv1, hc1, hr2⟩ := pN.n
  have hc1 : am 0 3 = nI m := hc1
  have hv11 := pL.2.1
  have e7 := pT.2
  have hT : Tl n (va_up a1 7 (a2 7)) v1 (fun j => am 0 (847 + j)) (am 3) (am 4) (vm 1) (vm 2) := Tl.ca pL (up7' a1 _)
  have hmr := mrd_rd tf tL rs (va_up a1 7 (a2 7)) v1 hn hv11
  refine EVi.mono (w_wheel G hh hC t htL rd aT aR nw ho hx hz ik th hn hv11) (fun y h1 hp => ?_)
  by_cases q : (rdL tf tL 24 rs 0 (va_up a1 7 (a2 7)) v1 0).1 = -1
  · rw [if_pos q] at hp
    have hM : (mrd tf tL n).1 = true := by
      cases e : (mrd tf tL n).1
      · rw [e, if_neg (show ¬ false = true by decide)] at hmr
        exact absurd (hmr.1.symm.trans q) (nI_nm1 (by have := mrd_le (f := tf) (L := tL) n; omega))
      · rfl
    obtain ⟨rfl, t, ⟨kd, s1, e1, c1, rd⟩, ⟨g1, aT⟩, ⟨a2', v2', aR⟩, ⟨g2, nw⟩, ho, ik, th, hF⟩ := hp
    obtain ⟨s9, rfl⟩ := nI_all s1
    have hC := hAt.rg hC (hF.e4 _ (by omega))
    have dk := dk.rg (fun i k1 k2 => hF.e4 i (by omega))
    have sl := hAt.rg sl (hF.e4 _ (by omega))
    have sf := fun i hi => (sf i hi).rg (fun j k1 k2 => hF.e4 j (by omega))
    have fo := fo.rg (fun i k1 k2 => hF.e4 i (by omega))
    have hr := hAt.rg hr (hF.e4 _ (by omega))
    have hs : HsAt _ _ 50 _ _ := fun i hi => (hs i hi).rg (fun j k1 k2 => hF.e4 j (by omega))
    have kp := hAt.rg kp (hF.e4 _ (by omega))
    have kf := fun i hi => (kf i hi).rg (fun j k1 k2 => hF.e4 j (by omega))
    have md := md.rg (fun i k1 k2 => hF.e4 i (by omega))
    refine ⟨⟨_, md.1⟩, EVi.mono (m_wheel G _ htL pT.1 md hn hv1 pW rs (va_up a1 7 (a2 7)) v1 hT) (fun y2 h2 hq => ?_)⟩
    rw [e7, if_pos hM] at hq
    obtain ⟨rfl, am', vm', md, hF, ⟨n', hT2⟩, hrow, h8, h5, h6, h9, h17, h7⟩ := hq
    have hC := hAt.rg hC (hF _ (by omega))
    have t := t.rg (fun i k1 k2 => hF i (by omega))
    have dk := dk.rg (fun i k1 k2 => hF i (by omega))
    have sl := hAt.rg sl (hF _ (by omega))
    have sf := fun i hi => (sf i hi).rg (fun j k1 k2 => hF j (by omega))
    have th := hAt.rg th (hF _ (by omega))
    have rd := hAt.rg rd (hF _ (by omega))
    have aT := aT.rg (fun i k1 k2 => hF i (by omega))
    have aR := aR.rg (fun i k1 k2 => hF i (by omega))
    have nw := nw.rg (fun i k1 k2 => hF i (by omega))
    have fo := fo.rg (fun i k1 k2 => hF i (by omega))
    have ho := hAt.rg ho (hF _ (by omega))
    have hr := hAt.rg hr (hF _ (by omega))
    have hs : HsAt _ _ 50 _ _ := fun i hi => (hs i hi).rg (fun j k1 k2 => hF j (by omega))
    have kp := hAt.rg kp (hF _ (by omega))
    have kf := fun i hi => (kf i hi).rg (fun j k1 k2 => hF j (by omega))
    have ik := hAt.rg ik (hF _ (by omega))
    refine ⟨by rw [hmr.2 hM], ⟨_, 0, _, _, (fun _ => false), _, _, _, _, _, 0, _, _, _, _, (fun _ => false), _, _, n', 0, hC, t, Nat.zero_le _, ⟨_, _, dk, hdL⟩, sl, sf, hlL, th, ⟨_, _, _, _, rd⟩, aT, ⟨_, _, aR⟩, nw, ⟨_, _, fo⟩, ho, hx, Nat.zero_le _, hr, hs, kp, kf, ik, md, ⟨h8, h7.trans pT.2⟩, ⟨fun t ht => h9 t ht, fun t ht q9 => Bool.noConfusion q9⟩, (fun j hj => by rw [h17]; exact pW j hj), (Tl.SR hT2 hrow).ca (up7 _ g2) eqV.rf, Tl.ca hT2 (up7' _ g1), ⟨h5, fun i hi => absurd hi (Nat.not_lt_zero i)⟩, (fun i hi => ⟨h6 i hi, fun q9 => Bool.noConfusion q9⟩)⟩⟩
  · rw [if_neg q] at hp
    have hM : ¬ (mrd tf tL n).1 = true := fun e => q (by rw [hmr.1, if_pos e])
    obtain ⟨rfl, ⟨kd, s1, e1, c1, rd⟩, ⟨a2', v2', aR⟩, hF⟩ := hp
    obtain ⟨s9, rfl⟩ := nI_all s1
    have hC := hAt.rg hC (hF.e2 _ (by omega))
    have t := t.rg (fun i k1 k2 => hF.e2 i (by omega))
    have dk := dk.rg (fun i k1 k2 => hF.e2 i (by omega))
    have sl := hAt.rg sl (hF.e2 _ (by omega))
    have sf := fun i hi => (sf i hi).rg (fun j k1 k2 => hF.e2 j (by omega))
    have th := hAt.rg th (hF.e2 _ (by omega))
    have aT := aT.rg (fun i k1 k2 => hF.e2 i (by omega))
    have nw := nw.rg (fun i k1 k2 => hF.e2 i (by omega))
    have fo := fo.rg (fun i k1 k2 => hF.e2 i (by omega))
    have ho := hAt.rg ho (hF.e2 _ (by omega))
    have hr := hAt.rg hr (hF.e2 _ (by omega))
    have hs : HsAt _ _ 50 _ _ := fun i hi => (hs i hi).rg (fun j k1 k2 => hF.e2 j (by omega))
    have kp := hAt.rg kp (hF.e2 _ (by omega))
    have kf := fun i hi => (kf i hi).rg (fun j k1 k2 => hF.e2 j (by omega))
    have ik := hAt.rg ik (hF.e2 _ (by omega))
    have md := md.rg (fun i k1 k2 => hF.e2 i (by omega))
    refine ⟨⟨_, md.1⟩, EVi.mono (m_wheel G _ htL pT.1 md hn hv1 pW rs (va_up a1 7 (a2 7)) v1 hT) (fun y2 h2 hq => ?_)⟩
    rw [e7, if_neg hM] at hq
    obtain ⟨rfl, am', vm', md, hF, hK, hS⟩ := hq
    have hC := hAt.rg hC (hF _ (by omega))
    have t := t.rg (fun i k1 k2 => hF i (by omega))
    have dk := dk.rg (fun i k1 k2 => hF i (by omega))
    have sl := hAt.rg sl (hF _ (by omega))
    have sf := fun i hi => (sf i hi).rg (fun j k1 k2 => hF j (by omega))
    have th := hAt.rg th (hF _ (by omega))
    have rd := hAt.rg rd (hF _ (by omega))
    have aT := aT.rg (fun i k1 k2 => hF i (by omega))
    have aR := aR.rg (fun i k1 k2 => hF i (by omega))
    have nw := nw.rg (fun i k1 k2 => hF i (by omega))
    have fo := fo.rg (fun i k1 k2 => hF i (by omega))
    have ho := hAt.rg ho (hF _ (by omega))
    have hr := hAt.rg hr (hF _ (by omega))
    have hs : HsAt _ _ 50 _ _ := fun i hi => (hs i hi).rg (fun j k1 k2 => hF j (by omega))
    have kp := hAt.rg kp (hF _ (by omega))
    have kf := fun i hi => (kf i hi).rg (fun j k1 k2 => hF j (by omega))
    have ik := hAt.rg ik (hF _ (by omega))
    exact ⟨rfl, ⟨_, _, _, _, _, _, _, _, _, _, _, _, _, _, _, _, _, _, _, _, hC, t, htL, ⟨_, _, dk, hdL⟩, sl, sf, hlL, th, ⟨_, _, _, _, rd⟩, aT, ⟨_, _, aR⟩, nw, ⟨_, _, fo⟩, ho, hx, hz, hr, hs, kp, kf, ik, md, pT.cg (hK.1 7 (by decide) (by decide) (by decide) (by decide)) (hK.2.2 8 (by decide) (by decide) (by decide)), pS.cg (hK.1 9 (by decide) (by decide) (by decide) (by decide)) (hK.1 10 (by decide) (by decide) (by decide) (by decide)), (fun j hj => by rw [hK.1 17 (by decide) (by decide) (by decide) (by decide)]; exact pW j hj), pN.cg (fun j hj => congrFun hS.1 _) hS.2.1 hS.2.2.1 hS.2.2.2.1 hS.2.2.2.2, pL.cg (fun j _ _ => congrFun hS.1 _) hS.2.1 hS.2.2.1 hS.2.2.2.1 hS.2.2.2.2, pH.cg (fun j _ _ => congrFun hS.1 _) hS.2.1 hS.2.2.1 hS.2.2.2.1 hS.2.2.2.2 (hK.2.2 5 (by decide) (by decide) (by decide)) hz, pK.cg (fun j _ _ => congrFun hS.1 _) hS.2.1 hS.2.2.1 hS.2.2.2.1 hS.2.2.2.2 (hK.1 6 (by decide) (by decide) (by decide) (by decide))⟩⟩
