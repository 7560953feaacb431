theorem erWrite_n {tL : Nat} {x : Int32} (h : erWrite tL x = none) : tL + 1 ≤ 200 := by
  unfold erWrite at h
  split at h
  · split at h
    · assumption
    · cases h
  · cases h
theorem L_write {G : GG} {hh : HH} (hd : HARDP) (hI : Inv G hh) (q : Int32) : SS G mX4_write mX5_write [.int q] hh := by
  have hI0 := hI
  obtain ⟨tf, tL, lf, lL, b, a1, v1, a, v, x, z, A, W, A2, W2, kb, am, vm, n, m, hC, t, htL, ⟨df, dL, dk, hdL⟩, sl, sf, hlL, th, ⟨rk, re, rc, rs, rd⟩, aT, ⟨a2, v2, aR⟩, nw, ⟨a3, v3, fo⟩, ho, hx, hz, hr, hs, kp, kf, ik, md, pT, pS, pW, pN, pL, pH, pK⟩ := hI
  obtain ⟨hn, hv, hc, hm, hv1, hc1, hr2⟩ := pN.n
  have hc1 : am 0 3 = nI m := hc1
  refine EVi.mono (w_write G hh hC t htL q) (fun y h1 hp => ?_)
  cases hE : erWrite tL q with
  | some e =>
    simp only [hE] at hp
    obtain ⟨rfl, rfl⟩ := hp
    refine ⟨⟨_, md.1⟩, EVi.mono (m_write G _ md htL pT.1 q) (fun y2 h2 hq => ?_)⟩
    simp only [hE] at hq
    obtain ⟨rfl, rfl⟩ := hq
    exact ⟨rfl, hI0⟩
  | none =>
    simp only [hE] at hp
    obtain ⟨rfl, t, hF⟩ := hp
    have hC := hAt.rg hC (hF _ (by omega))
    have dk := dk.rg (fun i k1 k2 => hF i (by omega))
    have sl := hAt.rg sl (hF _ (by omega))
    have sf := fun i hi => (sf i hi).rg (fun j k1 k2 => hF j (by omega))
    have th := hAt.rg th (hF _ (by omega))
    have rd := hAt.rg rd (hF _ (by omega))
    have aT := aT.rg (fun i k1 k2 => hF i (by omega))
    have aR := aR.rg (fun i k1 k2 => hF i (by omega))
    have nw := nw.rg (fun i k1 k2 => hF i (by omega))
    have fo := fo.rg (fun i k1 k2 => hF i (by omega))
    have ho := hAt.rg ho (hF _ (by omega))
    have hr := hAt.rg hr (hF _ (by omega))
    have hs : HsAt _ _ 50 _ _ := fun i hi => (hs i hi).rg (fun j k1 k2 => hF j (by omega))
    have kp := hAt.rg kp (hF _ (by omega))
    have kf := fun i hi => (kf i hi).rg (fun j k1 k2 => hF j (by omega))
    have ik := hAt.rg ik (hF _ (by omega))
    have md := md.rg (fun i k1 k2 => hF i (by omega))
    refine ⟨⟨_, md.1⟩, EVi.mono (m_write G _ md htL pT.1 q) (fun y2 h2 hq => ?_)⟩
    simp only [hE] at hq
    obtain ⟨rfl, md, hF⟩ := hq
    have hC := hAt.rg hC (hF _ (by omega))
    have t := t.rg (fun i k1 k2 => hF i (by omega))
    have dk := dk.rg (fun i k1 k2 => hF i (by omega))
    have sl := hAt.rg sl (hF _ (by omega))
    have sf := fun i hi => (sf i hi).rg (fun j k1 k2 => hF j (by omega))
    have th := hAt.rg th (hF _ (by omega))
    have rd := hAt.rg rd (hF _ (by omega))
    have aT := aT.rg (fun i k1 k2 => hF i (by omega))
    have aR := aR.rg (fun i k1 k2 => hF i (by omega))
    have nw := nw.rg (fun i k1 k2 => hF i (by omega))
    have fo := fo.rg (fun i k1 k2 => hF i (by omega))
    have ho := hAt.rg ho (hF _ (by omega))
    have hr := hAt.rg hr (hF _ (by omega))
    have hs : HsAt _ _ 50 _ _ := fun i hi => (hs i hi).rg (fun j k1 k2 => hF j (by omega))
    have kp := hAt.rg kp (hF _ (by omega))
    have kf := fun i hi => (kf i hi).rg (fun j k1 k2 => hF j (by omega))
    have ik := hAt.rg ik (hF _ (by omega))
    exact ⟨rfl, ⟨_, _, _, _, _, _, _, _, _, _, _, _, _, _, _, _, _, _, _, _, hC, t, erWrite_n hE, ⟨_, _, dk, hdL⟩, sl, sf, hlL, th, ⟨_, _, _, _, rd⟩, aT, ⟨_, _, aR⟩, nw, ⟨_, _, fo⟩, ho, hx, hz, hr, hs, kp, kf, ik, md, ⟨rfl, by (show upd (am 7) tL q = upd tf tL q; rw [pT.2])⟩, pS.cg rfl rfl, pW, pN.cg (fun _ _ => rfl) rfl rfl rfl rfl, pL.cg (fun _ _ _ => rfl) rfl rfl rfl rfl, pH.cg (fun _ _ _ => rfl) rfl rfl rfl rfl rfl hz, pK.cg (fun _ _ _ => rfl) rfl rfl rfl rfl rfl⟩⟩
theorem L_erase {G : GG} {hh : HH} (hd : HARDP) (hI : Inv G hh)  : SS G mX4_erase mX5_erase [] hh := by
  have hI0 := hI
  obtain ⟨tf, tL, lf, lL, b, a1, v1, a, v, x, z, A, W, A2, W2, kb, am, vm, n, m, hC, t, htL, ⟨df, dL, dk, hdL⟩, sl, sf, hlL, th, ⟨rk, re, rc, rs, rd⟩, aT, ⟨a2, v2, aR⟩, nw, ⟨a3, v3, fo⟩, ho, hx, hz, hr, hs, kp, kf, ik, md, pT, pS, pW, pN, pL, pH, pK⟩ := hI
  obtain ⟨hn, hv, hc, hm, hv1, hc1, hr2⟩ := pN.n
  have hc1 : am 0 3 = nI m := hc1
  refine EVi.mono (w_erase G hh hC t htL) (fun y h1 hp => ?_)
  obtain ⟨rfl, t, hF⟩ := hp
  have hC := hAt.rg hC (hF _ (by omega))
  have dk := dk.rg (fun i k1 k2 => hF i (by omega))
  have sl := hAt.rg sl (hF _ (by omega))
  have sf := fun i hi => (sf i hi).rg (fun j k1 k2 => hF j (by omega))
  have th := hAt.rg th (hF _ (by omega))
  have rd := hAt.rg rd (hF _ (by omega))
  have aT := aT.rg (fun i k1 k2 => hF i (by omega))
  have aR := aR.rg (fun i k1 k2 => hF i (by omega))
  have nw := nw.rg (fun i k1 k2 => hF i (by omega))
  have fo := fo.rg (fun i k1 k2 => hF i (by omega))
  have ho := hAt.rg ho (hF _ (by omega))
  have hr := hAt.rg hr (hF _ (by omega))
  have hs : HsAt _ _ 50 _ _ := fun i hi => (hs i hi).rg (fun j k1 k2 => hF j (by omega))
  have kp := hAt.rg kp (hF _ (by omega))
  have kf := fun i hi => (kf i hi).rg (fun j k1 k2 => hF j (by omega))
  have ik := hAt.rg ik (hF _ (by omega))
  have md := md.rg (fun i k1 k2 => hF i (by omega))
  refine ⟨⟨_, md.1⟩, EVi.mono (m_erase G _ md) (fun y2 h2 hq => ?_)⟩
  obtain ⟨rfl, md, hF⟩ := hq
  have hC := hAt.rg hC (hF _ (by omega))
  have t := t.rg (fun i k1 k2 => hF i (by omega))
  have dk := dk.rg (fun i k1 k2 => hF i (by omega))
  have sl := hAt.rg sl (hF _ (by omega))
  have sf := fun i hi => (sf i hi).rg (fun j k1 k2 => hF j (by omega))
  have th := hAt.rg th (hF _ (by omega))
  have rd := hAt.rg rd (hF _ (by omega))
  have aT := aT.rg (fun i k1 k2 => hF i (by omega))
  have aR := aR.rg (fun i k1 k2 => hF i (by omega))
  have nw := nw.rg (fun i k1 k2 => hF i (by omega))
  have fo := fo.rg (fun i k1 k2 => hF i (by omega))
  have ho := hAt.rg ho (hF _ (by omega))
  have hr := hAt.rg hr (hF _ (by omega))
  have hs : HsAt _ _ 50 _ _ := fun i hi => (hs i hi).rg (fun j k1 k2 => hF j (by omega))
  have kp := hAt.rg kp (hF _ (by omega))
  have kf := fun i hi => (kf i hi).rg (fun j k1 k2 => hF j (by omega))
  have ik := hAt.rg ik (hF _ (by omega))
  exact ⟨pT.1, ⟨_, 0, _, _, _, _, _, _, _, _, _, _, _, _, _, _, _, _, _, _, hC, t, Nat.zero_le _, ⟨_, _, dk, hdL⟩, sl, sf, hlL, th, ⟨_, _, _, _, rd⟩, aT, ⟨_, _, aR⟩, nw, ⟨_, _, fo⟩, ho, hx, hz, hr, hs, kp, kf, ik, md, ⟨rfl, pT.2⟩, pS.cg rfl rfl, pW, pN.cg (fun _ _ => rfl) rfl rfl rfl rfl, pL.cg (fun _ _ _ => rfl) rfl rfl rfl rfl, pH.cg (fun _ _ _ => rfl) rfl rfl rfl rfl rfl hz, pK.cg (fun _ _ _ => rfl) rfl rfl rfl rfl rfl⟩⟩
theorem L_writing {G : GG} {hh : HH} (hd : HARDP) (hI : Inv G hh) (k : Int32) : SS G mX4_writing mX5_writing [.int k] hh := by
  have hI0 := hI
  obtain ⟨tf, tL, lf, lL, b, a1, v1, a, v, x, z, A, W, A2, W2, kb, am, vm, n, m, hC, t, htL, ⟨df, dL, dk, hdL⟩, sl, sf, hlL, th, ⟨rk, re, rc, rs, rd⟩, aT, ⟨a2, v2, aR⟩, nw, ⟨a3, v3, fo⟩, ho, hx, hz, hr, hs, kp, kf, ik, md, pT, pS, pW, pN, pL, pH, pK⟩ := hI
  obtain ⟨hn, hv, hc, hm, hv1, hc1, hr2⟩ := pN.n
  have hc1 : am 0 3 = nI m := hc1
  have hwl : (wrl a m).length ≤ 130 := by rw [wrl_len]; omega
  refine EVi.mono (w_writing G hh hC nw dk hdL hm hc k) (fun y h1 hp => ?_)
  obtain ⟨rfl, hp⟩ := hp
  rcases hp with rfl | ⟨⟨f9, dk, -⟩, hF⟩
  · refine ⟨⟨_, md.1⟩, EVi.mono (m_writing G _ md hm hc1 k) (fun y2 h2 hq => ?_)⟩
    obtain ⟨rfl, hq⟩ := hq
    refine ⟨(by (unfold anWriting; rw [ag_wrl pN.1])), ?_⟩
    rcases hq with rfl | ⟨⟨f8, md, -⟩, hF⟩
    · exact ⟨_, _, _, _, _, _, _, _, _, _, _, _, _, _, _, _, _, _, _, _, hC, t, htL, ⟨_, _, dk, hdL⟩, sl, sf, hlL, th, ⟨_, _, _, _, rd⟩, aT, ⟨_, _, aR⟩, nw, ⟨_, _, fo⟩, ho, hx, hz, hr, hs, kp, kf, ik, md, pT, pS, pW, pN, pL, pH, pK⟩
    · have hC := hAt.rg hC (hF _ (by omega))
      have t := t.rg (fun i k1 k2 => hF i (by omega))
      have dk := dk.rg (fun i k1 k2 => hF i (by omega))
      have sl := hAt.rg sl (hF _ (by omega))
      have sf := fun i hi => (sf i hi).rg (fun j k1 k2 => hF j (by omega))
      have th := hAt.rg th (hF _ (by omega))
      have rd := hAt.rg rd (hF _ (by omega))
      have aT := aT.rg (fun i k1 k2 => hF i (by omega))
      have aR := aR.rg (fun i k1 k2 => hF i (by omega))
      have nw := nw.rg (fun i k1 k2 => hF i (by omega))
      have fo := fo.rg (fun i k1 k2 => hF i (by omega))
      have ho := hAt.rg ho (hF _ (by omega))
      have hr := hAt.rg hr (hF _ (by omega))
      have hs : HsAt _ _ 50 _ _ := fun i hi => (hs i hi).rg (fun j k1 k2 => hF j (by omega))
      have kp := hAt.rg kp (hF _ (by omega))
      have kf := fun i hi => (kf i hi).rg (fun j k1 k2 => hF j (by omega))
      have ik := hAt.rg ik (hF _ (by omega))
      exact ⟨_, _, _, _, _, _, _, _, _, _, _, _, _, _, _, _, _, _, _, _, hC, t, htL, ⟨_, _, dk, hdL⟩, sl, sf, hlL, th, ⟨_, _, _, _, rd⟩, aT, ⟨_, _, aR⟩, nw, ⟨_, _, fo⟩, ho, hx, hz, hr, hs, kp, kf, ik, md, pT.cg rfl rfl, pS.cg rfl rfl, pW, pN.cg (fun _ _ => rfl) rfl rfl rfl rfl, pL.cg (fun _ _ _ => rfl) rfl rfl rfl rfl, pH.cg (fun _ _ _ => rfl) rfl rfl rfl rfl rfl hz, pK.cg (fun _ _ _ => rfl) rfl rfl rfl rfl rfl⟩
  · have hdL := hwl
    have hC := hAt.rg hC (hF _ (by omega))
    have t := t.rg (fun i k1 k2 => hF i (by omega))
    have sl := hAt.rg sl (hF _ (by omega))
    have sf := fun i hi => (sf i hi).rg (fun j k1 k2 => hF j (by omega))
    have th := hAt.rg th (hF _ (by omega))
    have rd := hAt.rg rd (hF _ (by omega))
    have aT := aT.rg (fun i k1 k2 => hF i (by omega))
    have aR := aR.rg (fun i k1 k2 => hF i (by omega))
    have nw := nw.rg (fun i k1 k2 => hF i (by omega))
    have fo := fo.rg (fun i k1 k2 => hF i (by omega))
    have ho := hAt.rg ho (hF _ (by omega))
    have hr := hAt.rg hr (hF _ (by omega))
    have hs : HsAt _ _ 50 _ _ := fun i hi => (hs i hi).rg (fun j k1 k2 => hF j (by omega))
    have kp := hAt.rg kp (hF _ (by omega))
    have kf := fun i hi => (kf i hi).rg (fun j k1 k2 => hF j (by omega))
    have ik := hAt.rg ik (hF _ (by omega))
    have md := md.rg (fun i k1 k2 => hF i (by omega))
    refine ⟨⟨_, md.1⟩, EVi.mono (m_writing G _ md hm hc1 k) (fun y2 h2 hq => ?_)⟩
    obtain ⟨rfl, hq⟩ := hq
    refine ⟨(by (unfold anWriting; rw [ag_wrl pN.1])), ?_⟩
    rcases hq with rfl | ⟨⟨f8, md, -⟩, hF⟩
    · exact ⟨_, _, _, _, _, _, _, _, _, _, _, _, _, _, _, _, _, _, _, _, hC, t, htL, ⟨_, _, dk, hdL⟩, sl, sf, hlL, th, ⟨_, _, _, _, rd⟩, aT, ⟨_, _, aR⟩, nw, ⟨_, _, fo⟩, ho, hx, hz, hr, hs, kp, kf, ik, md, pT, pS, pW, pN, pL, pH, pK⟩
    · have hC := hAt.rg hC (hF _ (by omega))
      have t := t.rg (fun i k1 k2 => hF i (by omega))
      have dk := dk.rg (fun i k1 k2 => hF i (by omega))
      have sl := hAt.rg sl (hF _ (by omega))
      have sf := fun i hi => (sf i hi).rg (fun j k1 k2 => hF j (by omega))
      have th := hAt.rg th (hF _ (by omega))
      have rd := hAt.rg rd (hF _ (by omega))
      have aT := aT.rg (fun i k1 k2 => hF i (by omega))
      have aR := aR.rg (fun i k1 k2 => hF i (by omega))
      have nw := nw.rg (fun i k1 k2 => hF i (by omega))
      have fo := fo.rg (fun i k1 k2 => hF i (by omega))
      have ho := hAt.rg ho (hF _ (by omega))
      have hr := hAt.rg hr (hF _ (by omega))
      have hs : HsAt _ _ 50 _ _ := fun i hi => (hs i hi).rg (fun j k1 k2 => hF j (by omega))
      have kp := hAt.rg kp (hF _ (by omega))
      have kf := fun i hi => (kf i hi).rg (fun j k1 k2 => hF j (by omega))
      have ik := hAt.rg ik (hF _ (by omega))
      exact ⟨_, _, _, _, _, _, _, _, _, _, _, _, _, _, _, _, _, _, _, _, hC, t, htL, ⟨_, _, dk, hdL⟩, sl, sf, hlL, th, ⟨_, _, _, _, rd⟩, aT, ⟨_, _, aR⟩, nw, ⟨_, _, fo⟩, ho, hx, hz, hr, hs, kp, kf, ik, md, pT.cg rfl rfl, pS.cg rfl rfl, pW, pN.cg (fun _ _ => rfl) rfl rfl rfl rfl, pL.cg (fun _ _ _ => rfl) rfl rfl rfl rfl, pH.cg (fun _ _ _ => rfl) rfl rfl rfl rfl rfl hz, pK.cg (fun _ _ _ => rfl) rfl rfl rfl rfl rfl⟩
theorem L_find {G : GG} {hh : HH} (hd : HARDP) (hI : Inv G hh) (q w : Int32) : SS G mX4_find mX5_find [.int q, .int w] hh := by
  have hI0 := hI
  obtain ⟨tf, tL, lf, lL, b, a1, v1, a, v, x, z, A, W, A2, W2, kb, am, vm, n, m, hC, t, htL, ⟨df, dL, dk, hdL⟩, sl, sf, hlL, th, ⟨rk, re, rc, rs, rd⟩, aT, ⟨a2, v2, aR⟩, nw, ⟨a3, v3, fo⟩, ho, hx, hz, hr, hs, kp, kf, ik, md, pT, pS, pW, pN, pL, pH, pK⟩ := hI
  obtain ⟨hn, hv, hc, hm, hv1, hc1, hr2⟩ := pN.n
  have hc1 : am 0 3 = nI m := hc1
  have hwl : (wrl a m).length ≤ 130 := by rw [wrl_len]; omega
  refine EVi.mono (w_find G hh hC nw dk hdL sl th sf hlL hm hc q w) (fun y h1 hp => ?_)
  obtain ⟨rfl, hp⟩ := hp
  rcases hp with rfl | ⟨⟨f9, dk, -⟩, hF⟩
  · refine ⟨⟨_, md.1⟩, EVi.mono (m_find G _ md pS.1 hlL hm hc1 q w) (fun y2 h2 hq => ?_)⟩
    obtain ⟨rfl, hq⟩ := hq
    refine ⟨(by (rw [← ag_wrl pN.1]; exact pS.ag.find _ q w)), ?_⟩
    rcases hq with rfl | ⟨⟨f8, md, -⟩, hF⟩
    · exact ⟨_, _, _, _, _, _, _, _, _, _, _, _, _, _, _, _, _, _, _, _, hC, t, htL, ⟨_, _, dk, hdL⟩, sl, sf, hlL, th, ⟨_, _, _, _, rd⟩, aT, ⟨_, _, aR⟩, nw, ⟨_, _, fo⟩, ho, hx, hz, hr, hs, kp, kf, ik, md, pT, pS, pW, pN, pL, pH, pK⟩
    · have hC := hAt.rg hC (hF _ (by omega))
      have t := t.rg (fun i k1 k2 => hF i (by omega))
      have dk := dk.rg (fun i k1 k2 => hF i (by omega))
      have sl := hAt.rg sl (hF _ (by omega))
      have sf := fun i hi => (sf i hi).rg (fun j k1 k2 => hF j (by omega))
      have th := hAt.rg th (hF _ (by omega))
      have rd := hAt.rg rd (hF _ (by omega))
      have aT := aT.rg (fun i k1 k2 => hF i (by omega))
      have aR := aR.rg (fun i k1 k2 => hF i (by omega))
      have nw := nw.rg (fun i k1 k2 => hF i (by omega))
      have fo := fo.rg (fun i k1 k2 => hF i (by omega))
      have ho := hAt.rg ho (hF _ (by omega))
      have hr := hAt.rg hr (hF _ (by omega))
      have hs : HsAt _ _ 50 _ _ := fun i hi => (hs i hi).rg (fun j k1 k2 => hF j (by omega))
      have kp := hAt.rg kp (hF _ (by omega))
      have kf := fun i hi => (kf i hi).rg (fun j k1 k2 => hF j (by omega))
      have ik := hAt.rg ik (hF _ (by omega))
      exact ⟨_, _, _, _, _, _, _, _, _, _, _, _, _, _, _, _, _, _, _, _, hC, t, htL, ⟨_, _, dk, hdL⟩, sl, sf, hlL, th, ⟨_, _, _, _, rd⟩, aT, ⟨_, _, aR⟩, nw, ⟨_, _, fo⟩, ho, hx, hz, hr, hs, kp, kf, ik, md, pT.cg rfl rfl, pS.cg rfl rfl, pW, pN.cg (fun _ _ => rfl) rfl rfl rfl rfl, pL.cg (fun _ _ _ => rfl) rfl rfl rfl rfl, pH.cg (fun _ _ _ => rfl) rfl rfl rfl rfl rfl hz, pK.cg (fun _ _ _ => rfl) rfl rfl rfl rfl rfl⟩
  · have hdL := hwl
    have hC := hAt.rg hC (hF _ (by omega))
    have t := t.rg (fun i k1 k2 => hF i (by omega))
    have sl := hAt.rg sl (hF _ (by omega))
    have sf := fun i hi => (sf i hi).rg (fun j k1 k2 => hF j (by omega))
    have th := hAt.rg th (hF _ (by omega))
    have rd := hAt.rg rd (hF _ (by omega))
    have aT := aT.rg (fun i k1 k2 => hF i (by omega))
    have aR := aR.rg (fun i k1 k2 => hF i (by omega))
    have nw := nw.rg (fun i k1 k2 => hF i (by omega))
    have fo := fo.rg (fun i k1 k2 => hF i (by omega))
    have ho := hAt.rg ho (hF _ (by omega))
    have hr := hAt.rg hr (hF _ (by omega))
    have hs : HsAt _ _ 50 _ _ := fun i hi => (hs i hi).rg (fun j k1 k2 => hF j (by omega))
    have kp := hAt.rg kp (hF _ (by omega))
    have kf := fun i hi => (kf i hi).rg (fun j k1 k2 => hF j (by omega))
    have ik := hAt.rg ik (hF _ (by omega))
    have md := md.rg (fun i k1 k2 => hF i (by omega))
    refine ⟨⟨_, md.1⟩, EVi.mono (m_find G _ md pS.1 hlL hm hc1 q w) (fun y2 h2 hq => ?_)⟩
    obtain ⟨rfl, hq⟩ := hq
    refine ⟨(by (rw [← ag_wrl pN.1]; exact pS.ag.find _ q w)), ?_⟩
    rcases hq with rfl | ⟨⟨f8, md, -⟩, hF⟩
    · exact ⟨_, _, _, _, _, _, _, _, _, _, _, _, _, _, _, _, _, _, _, _, hC, t, htL, ⟨_, _, dk, hdL⟩, sl, sf, hlL, th, ⟨_, _, _, _, rd⟩, aT, ⟨_, _, aR⟩, nw, ⟨_, _, fo⟩, ho, hx, hz, hr, hs, kp, kf, ik, md, pT, pS, pW, pN, pL, pH, pK⟩
    · have hC := hAt.rg hC (hF _ (by omega))
      have t := t.rg (fun i k1 k2 => hF i (by omega))
      have dk := dk.rg (fun i k1 k2 => hF i (by omega))
      have sl := hAt.rg sl (hF _ (by omega))
      have sf := fun i hi => (sf i hi).rg (fun j k1 k2 => hF j (by omega))
      have th := hAt.rg th (hF _ (by omega))
      have rd := hAt.rg rd (hF _ (by omega))
      have aT := aT.rg (fun i k1 k2 => hF i (by omega))
      have aR := aR.rg (fun i k1 k2 => hF i (by omega))
      have nw := nw.rg (fun i k1 k2 => hF i (by omega))
      have fo := fo.rg (fun i k1 k2 => hF i (by omega))
      have ho := hAt.rg ho (hF _ (by omega))
      have hr := hAt.rg hr (hF _ (by omega))
      have hs : HsAt _ _ 50 _ _ := fun i hi => (hs i hi).rg (fun j k1 k2 => hF j (by omega))
      have kp := hAt.rg kp (hF _ (by omega))
      have kf := fun i hi => (kf i hi).rg (fun j k1 k2 => hF j (by omega))
      have ik := hAt.rg ik (hF _ (by omega))
      exact ⟨_, _, _, _, _, _, _, _, _, _, _, _, _, _, _, _, _, _, _, _, hC, t, htL, ⟨_, _, dk, hdL⟩, sl, sf, hlL, th, ⟨_, _, _, _, rd⟩, aT, ⟨_, _, aR⟩, nw, ⟨_, _, fo⟩, ho, hx, hz, hr, hs, kp, kf, ik, md, pT.cg rfl rfl, pS.cg rfl rfl, pW, pN.cg (fun _ _ => rfl) rfl rfl rfl rfl, pL.cg (fun _ _ _ => rfl) rfl rfl rfl rfl, pH.cg (fun _ _ _ => rfl) rfl rfl rfl rfl rfl hz, pK.cg (fun _ _ _ => rfl) rfl rfl rfl rfl rfl⟩
theorem L_told {G : GG} {hh : HH} (hd : HARDP) (hI : Inv G hh) (w : Int32) : SS G mX4_told mX5_told [.int w] hh := by
  have hI0 := hI
  obtain ⟨tf, tL, lf, lL, b, a1, v1, a, v, x, z, A, W, A2, W2, kb, am, vm, n, m, hC, t, htL, ⟨df, dL, dk, hdL⟩, sl, sf, hlL, th, ⟨rk, re, rc, rs, rd⟩, aT, ⟨a2, v2, aR⟩, nw, ⟨a3, v3, fo⟩, ho, hx, hz, hr, hs, kp, kf, ik, md, pT, pS, pW, pN, pL, pH, pK⟩ := hI
  obtain ⟨hn, hv, hc, hm, hv1, hc1, hr2⟩ := pN.n
  have hc1 : am 0 3 = nI m := hc1
  have hwl : (wrl a m).length ≤ 130 := by rw [wrl_len]; omega
  refine EVi.mono (w_told G hh hC nw dk hdL sl th sf hlL ho hx hz t htL hm hc w) (fun y h1 hp => ?_)
  obtain ⟨rfl, hp⟩ := hp
  rcases hp with rfl | ⟨⟨f9, dk, -⟩, hF⟩
  · refine ⟨⟨_, md.1⟩, EVi.mono (m_told G _ md pS.1 hlL hz pH.1 hm hc1 htL pT.1 w) (fun y2 h2 hq => ?_)⟩
    obtain ⟨rfl, hq⟩ := hq
    refine ⟨(by (unfold anTold; rw [← ag_wrl pN.1, ← pN.1.2.2 8 (by omega) (by omega), ← pN.1.2.2 14 (by omega) (by omega), ← pN.1.2.2 13 (by omega) (by omega), ← pN.1.2.2 10 (by omega) (by omega), ← pN.1.2.2 9 (by omega) (by omega), ← pN.1.2.2 11 (by omega) (by omega)])), ?_⟩
    rcases hq with rfl | ⟨⟨f8, md, -⟩, hF⟩
    · exact ⟨_, _, _, _, _, _, _, _, _, _, _, _, _, _, _, _, _, _, _, _, hC, t, htL, ⟨_, _, dk, hdL⟩, sl, sf, hlL, th, ⟨_, _, _, _, rd⟩, aT, ⟨_, _, aR⟩, nw, ⟨_, _, fo⟩, ho, hx, hz, hr, hs, kp, kf, ik, md, pT, pS, pW, pN, pL, pH, pK⟩
    · have hC := hAt.rg hC (hF _ (by omega))
      have t := t.rg (fun i k1 k2 => hF i (by omega))
      have dk := dk.rg (fun i k1 k2 => hF i (by omega))
      have sl := hAt.rg sl (hF _ (by omega))
      have sf := fun i hi => (sf i hi).rg (fun j k1 k2 => hF j (by omega))
      have th := hAt.rg th (hF _ (by omega))
      have rd := hAt.rg rd (hF _ (by omega))
      have aT := aT.rg (fun i k1 k2 => hF i (by omega))
      have aR := aR.rg (fun i k1 k2 => hF i (by omega))
      have nw := nw.rg (fun i k1 k2 => hF i (by omega))
      have fo := fo.rg (fun i k1 k2 => hF i (by omega))
      have ho := hAt.rg ho (hF _ (by omega))
      have hr := hAt.rg hr (hF _ (by omega))
      have hs : HsAt _ _ 50 _ _ := fun i hi => (hs i hi).rg (fun j k1 k2 => hF j (by omega))
      have kp := hAt.rg kp (hF _ (by omega))
      have kf := fun i hi => (kf i hi).rg (fun j k1 k2 => hF j (by omega))
      have ik := hAt.rg ik (hF _ (by omega))
      exact ⟨_, _, _, _, _, _, _, _, _, _, _, _, _, _, _, _, _, _, _, _, hC, t, htL, ⟨_, _, dk, hdL⟩, sl, sf, hlL, th, ⟨_, _, _, _, rd⟩, aT, ⟨_, _, aR⟩, nw, ⟨_, _, fo⟩, ho, hx, hz, hr, hs, kp, kf, ik, md, pT.cg rfl rfl, pS.cg rfl rfl, pW, pN.cg (fun _ _ => rfl) rfl rfl rfl rfl, pL.cg (fun _ _ _ => rfl) rfl rfl rfl rfl, pH.cg (fun _ _ _ => rfl) rfl rfl rfl rfl rfl hz, pK.cg (fun _ _ _ => rfl) rfl rfl rfl rfl rfl⟩
  · have hdL := hwl
    have hC := hAt.rg hC (hF _ (by omega))
    have t := t.rg (fun i k1 k2 => hF i (by omega))
    have sl := hAt.rg sl (hF _ (by omega))
    have sf := fun i hi => (sf i hi).rg (fun j k1 k2 => hF j (by omega))
    have th := hAt.rg th (hF _ (by omega))
    have rd := hAt.rg rd (hF _ (by omega))
    have aT := aT.rg (fun i k1 k2 => hF i (by omega))
    have aR := aR.rg (fun i k1 k2 => hF i (by omega))
    have nw := nw.rg (fun i k1 k2 => hF i (by omega))
    have fo := fo.rg (fun i k1 k2 => hF i (by omega))
    have ho := hAt.rg ho (hF _ (by omega))
    have hr := hAt.rg hr (hF _ (by omega))
    have hs : HsAt _ _ 50 _ _ := fun i hi => (hs i hi).rg (fun j k1 k2 => hF j (by omega))
    have kp := hAt.rg kp (hF _ (by omega))
    have kf := fun i hi => (kf i hi).rg (fun j k1 k2 => hF j (by omega))
    have ik := hAt.rg ik (hF _ (by omega))
    have md := md.rg (fun i k1 k2 => hF i (by omega))
    refine ⟨⟨_, md.1⟩, EVi.mono (m_told G _ md pS.1 hlL hz pH.1 hm hc1 htL pT.1 w) (fun y2 h2 hq => ?_)⟩
    obtain ⟨rfl, hq⟩ := hq
    refine ⟨(by (unfold anTold; rw [← ag_wrl pN.1, ← pN.1.2.2 8 (by omega) (by omega), ← pN.1.2.2 14 (by omega) (by omega), ← pN.1.2.2 13 (by omega) (by omega), ← pN.1.2.2 10 (by omega) (by omega), ← pN.1.2.2 9 (by omega) (by omega), ← pN.1.2.2 11 (by omega) (by omega)])), ?_⟩
    rcases hq with rfl | ⟨⟨f8, md, -⟩, hF⟩
    · exact ⟨_, _, _, _, _, _, _, _, _, _, _, _, _, _, _, _, _, _, _, _, hC, t, htL, ⟨_, _, dk, hdL⟩, sl, sf, hlL, th, ⟨_, _, _, _, rd⟩, aT, ⟨_, _, aR⟩, nw, ⟨_, _, fo⟩, ho, hx, hz, hr, hs, kp, kf, ik, md, pT, pS, pW, pN, pL, pH, pK⟩
    · have hC := hAt.rg hC (hF _ (by omega))
      have t := t.rg (fun i k1 k2 => hF i (by omega))
      have dk := dk.rg (fun i k1 k2 => hF i (by omega))
      have sl := hAt.rg sl (hF _ (by omega))
      have sf := fun i hi => (sf i hi).rg (fun j k1 k2 => hF j (by omega))
      have th := hAt.rg th (hF _ (by omega))
      have rd := hAt.rg rd (hF _ (by omega))
      have aT := aT.rg (fun i k1 k2 => hF i (by omega))
      have aR := aR.rg (fun i k1 k2 => hF i (by omega))
      have nw := nw.rg (fun i k1 k2 => hF i (by omega))
      have fo := fo.rg (fun i k1 k2 => hF i (by omega))
      have ho := hAt.rg ho (hF _ (by omega))
      have hr := hAt.rg hr (hF _ (by omega))
      have hs : HsAt _ _ 50 _ _ := fun i hi => (hs i hi).rg (fun j k1 k2 => hF j (by omega))
      have kp := hAt.rg kp (hF _ (by omega))
      have kf := fun i hi => (kf i hi).rg (fun j k1 k2 => hF j (by omega))
      have ik := hAt.rg ik (hF _ (by omega))
      exact ⟨_, _, _, _, _, _, _, _, _, _, _, _, _, _, _, _, _, _, _, _, hC, t, htL, ⟨_, _, dk, hdL⟩, sl, sf, hlL, th, ⟨_, _, _, _, rd⟩, aT, ⟨_, _, aR⟩, nw, ⟨_, _, fo⟩, ho, hx, hz, hr, hs, kp, kf, ik, md, pT.cg rfl rfl, pS.cg rfl rfl, pW, pN.cg (fun _ _ => rfl) rfl rfl rfl rfl, pL.cg (fun _ _ _ => rfl) rfl rfl rfl rfl, pH.cg (fun _ _ _ => rfl) rfl rfl rfl rfl rfl hz, pK.cg (fun _ _ _ => rfl) rfl rfl rfl rfl rfl⟩
theorem erSeal_n {s : Int32} (h : erSeal s = none) : ¬ s = 0 := by
  unfold erSeal at h
  split at h
  · rename_i q; intro e; subst e; exact absurd q (by decide)
  · cases h
theorem gd.seal {n m : Nat} {a : AA} {v : VV} (h : gd n m a v) {s : Int32} (hs : ¬ s = 0) : gd n 0 (sealA a) (sealV v s) := ⟨h.1.seal hs, h.2.1, rfl, by omega, fun c hc => absurd hc (Nat.not_lt_zero c)⟩
theorem SR.seal {n m : Nat} {a : AA} {v : VV} {am : AA} {vm : VV} (h : SR n m a v am vm 0) {s : Int32} (hs : ¬ s = 0) (vm' : VV) (h1 : vm' 1 = vm 1) (h2 : vm' 2 = vm 2) : SR n 0 (sealA a) (sealV v s) (va_up am 0 (seR (am 0) 0 s)) vm' 0 := by
  have hn := h.2.1.1
  refine ⟨⟨fun f j hf hj => ?_, fun f c _ _ hc => absurd hc (Nat.not_lt_zero c), fun i i1 i2 => ?_⟩, h.2.seal hs⟩
  · rcases (show f = 0 ∨ f = 1 ∨ f = 2 ∨ f = 3 by omega) with rfl | rfl | rfl | rfl
    · exact h.1.1 0 j (by omega) hj
    · exact h.1.1 1 j (by omega) hj
    · show a 2 j = seR (am 0) 0 s (0 + 5 + j)
      unfold seR zrF upd
      rw [if_neg (by omega), if_neg (by omega), if_neg (by omega), if_neg (by omega), if_neg (by omega)]
      exact h.1.1 2 j (by omega) hj
    · show (0 : Int32) = seR (am 0) 0 s (0 + 11 + j)
      unfold seR zrF
      rw [if_pos (by omega)]
  · rcases (show i = 8 ∨ i = 9 ∨ i = 10 ∨ i = 11 ∨ i = 12 ∨ i = 13 ∨ i = 14 by omega) with rfl | rfl | rfl | rfl | rfl | rfl | rfl
    · exact (h.1.2.2 8 (by omega) (by omega)).trans h1.symm
    · exact h.1.2.2 9 (by omega) (by omega)
    · exact (h.1.2.2 10 (by omega) (by omega)).trans h2.symm
    · rfl
    · rfl
    · rfl
    · rfl
theorem seR_hi {r : Nat → Int32} {s : Int32} {j : Nat} (h : 17 ≤ j) : seR r 0 s j = r j := by
  unfold seR zrF upd
  rw [if_neg (by omega), if_neg (by omega), if_neg (by omega), if_neg (by omega), if_neg (by omega)]
theorem L_seal {G : GG} {hh : HH} (hd : HARDP) (hI : Inv G hh) (s : Int32) : SS G mX4_seal mX5_seal [.int s] hh := by
  have hI0 := hI
  obtain ⟨tf, tL, lf, lL, b, a1, v1, a, v, x, z, A, W, A2, W2, kb, am, vm, n, m, hC, t, htL, ⟨df, dL, dk, hdL⟩, sl, sf, hlL, th, ⟨rk, re, rc, rs, rd⟩, aT, ⟨a2, v2, aR⟩, nw, ⟨a3, v3, fo⟩, ho, hx, hz, hr, hs, kp, kf, ik, md, pT, pS, pW, pN, pL, pH, pK⟩ := hI
  obtain ⟨hn, hv, hc, hm, hv1, hc1, hr2⟩ := pN.n
  have hc1 : am 0 3 = nI m := hc1
  refine EVi.mono (w_seal G hh hC nw ho hx hz s) (fun y h1 hp => ?_)
  cases hE : erSeal s with
  | some e =>
    simp only [hE] at hp
    obtain ⟨rfl, rfl⟩ := hp
    refine ⟨⟨_, md.1⟩, EVi.mono (m_seal G _ md s) (fun y2 h2 hq => ?_)⟩
    simp only [hE] at hq
    obtain ⟨rfl, rfl⟩ := hq
    exact ⟨rfl, hI0⟩
  | none =>
    simp only [hE] at hp
    obtain ⟨rfl, nw, ho, hF⟩ := hp
    have hC := hAt.rg hC (hF.e2 _ (by omega))
    have t := t.rg (fun i k1 k2 => hF.e2 i (by omega))
    have dk := dk.rg (fun i k1 k2 => hF.e2 i (by omega))
    have sl := hAt.rg sl (hF.e2 _ (by omega))
    have sf := fun i hi => (sf i hi).rg (fun j k1 k2 => hF.e2 j (by omega))
    have th := hAt.rg th (hF.e2 _ (by omega))
    have rd := hAt.rg rd (hF.e2 _ (by omega))
    have aT := aT.rg (fun i k1 k2 => hF.e2 i (by omega))
    have aR := aR.rg (fun i k1 k2 => hF.e2 i (by omega))
    have fo := fo.rg (fun i k1 k2 => hF.e2 i (by omega))
    have hr := hAt.rg hr (hF.e2 _ (by omega))
    have hs : HsAt _ _ 50 _ _ := fun i hi => (hs i hi).rg (fun j k1 k2 => hF.e2 j (by omega))
    have kp := hAt.rg kp (hF.e2 _ (by omega))
    have kf := fun i hi => (kf i hi).rg (fun j k1 k2 => hF.e2 j (by omega))
    have ik := hAt.rg ik (hF.e2 _ (by omega))
    have md := md.rg (fun i k1 k2 => hF.e2 i (by omega))
    refine ⟨⟨_, md.1⟩, EVi.mono (m_seal G _ md s) (fun y2 h2 hq => ?_)⟩
    simp only [hE] at hq
    obtain ⟨rfl, md, hF⟩ := hq
    have hC := hAt.rg hC (hF _ (by omega))
    have t := t.rg (fun i k1 k2 => hF i (by omega))
    have dk := dk.rg (fun i k1 k2 => hF i (by omega))
    have sl := hAt.rg sl (hF _ (by omega))
    have sf := fun i hi => (sf i hi).rg (fun j k1 k2 => hF j (by omega))
    have th := hAt.rg th (hF _ (by omega))
    have rd := hAt.rg rd (hF _ (by omega))
    have aT := aT.rg (fun i k1 k2 => hF i (by omega))
    have aR := aR.rg (fun i k1 k2 => hF i (by omega))
    have nw := nw.rg (fun i k1 k2 => hF i (by omega))
    have fo := fo.rg (fun i k1 k2 => hF i (by omega))
    have ho := hAt.rg ho (hF _ (by omega))
    have hr := hAt.rg hr (hF _ (by omega))
    have hs : HsAt _ _ 50 _ _ := fun i hi => (hs i hi).rg (fun j k1 k2 => hF j (by omega))
    have kp := hAt.rg kp (hF _ (by omega))
    have kf := fun i hi => (kf i hi).rg (fun j k1 k2 => hF j (by omega))
    have ik := hAt.rg ik (hF _ (by omega))
    exact ⟨hc1.trans hc.symm, ⟨_, _, _, _, _, _, _, _, _, _, 0, _, _, _, _, _, _, _, _, _, hC, t, htL, ⟨_, _, dk, hdL⟩, sl, sf, hlL, th, ⟨_, _, _, _, rd⟩, aT, ⟨_, _, aR⟩, nw, ⟨_, _, fo⟩, ho, hx, Nat.zero_le _, hr, hs, kp, kf, ik, md, pT.cg rfl rfl, pS.cg rfl rfl, pW, pN.seal (erSeal_n hE) _ rfl rfl, pL.cg (fun j k1 _ => seR_hi (by omega)) rfl rfl rfl rfl, ⟨rfl, fun i hi => absurd hi (Nat.not_lt_zero i)⟩, pK.cg (fun j k1 _ => seR_hi (by omega)) rfl rfl rfl rfl rfl⟩⟩
