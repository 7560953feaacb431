theorem agS.er {n m : Nat} {a a' : AA} {v v' : VV} (h : agS n m a v a' v') (s p : Int32) : erAsg a v n m s p = erAsg a' v' n m s p ∧ erNext a v n s p = erNext a' v' n s p := by
  unfold erAsg erNext
  rw [h.J.any]
  exact ⟨rfl, rfl⟩
theorem agS.erR {n m : Nat} {a a' : AA} {v v' : VV} (h : agS n m a v a' v') (hm : m ≤ 20) (i : Int32) : erRef a v n m i = erRef a' v' n m i := by
  unfold erRef
  by_cases q : 0 ≤ i ∧ i < nI m
  · have hi := ixJ (by omega) q
    rw [if_pos q, if_pos q, h.J.any, h.2.1 5 _ (by omega) (by omega) hi, h.2.1 6 _ (by omega) (by omega) hi]
  · rw [if_neg q, if_neg q]
theorem agS.all {n m : Nat} {a a' : AA} {v v' : VV} (h : agS n m a v a' v') : allFor a v n 0 m = allFor a' v' n 0 m := by
  unfold allFor
  rw [Bool.eq_iff_iff, List.all_eq_true, List.all_eq_true]
  constructor
  · intro k c hc
    have h1 := k c hc
    rw [List.mem_range'] at hc
    obtain ⟨i, hi, rfl⟩ := hc
    rw [← h.J.any, ← h.2.1 5 _ (by omega) (by omega) (by omega)]; exact h1
  · intro k c hc
    have h1 := k c hc
    rw [List.mem_range'] at hc
    obtain ⟨i, hi, rfl⟩ := hc
    rw [h.J.any, h.2.1 5 _ (by omega) (by omega) (by omega)]; exact h1
theorem agS.erC {n m : Nat} {a a' : AA} {v v' : VV} (h : agS n m a v a' v') (s w : Int32) : erCount a v n m s w = erCount a' v' n m s w ∧ erLike a v n m s = erLike a' v' n m s := by
  unfold erCount erLike
  rw [h.all]
  exact ⟨rfl, rfl⟩
theorem erAsg_n {a : AA} {v : VV} {n m : Nat} {s p : Int32} (h : erAsg a v n m s p = none) : anyFor a v p (-1) 0 n = true ∧ m < 20 := by
  unfold erAsg at h
  split at h
  · split at h
    · rename_i q
      split at h
      · rename_i r; exact ⟨q, r⟩
      · cases h
    · cases h
  · cases h
theorem erNext_n {a : AA} {v : VV} {n : Nat} {s p : Int32} (h : erNext a v n s p = none) : anyFor a v p (-1) 0 n = true := by
  unfold erNext at h
  split at h
  · split at h
    · assumption
    · cases h
  · cases h
theorem erRef_n {a : AA} {v : VV} {n m : Nat} {i : Int32} (hm : m ≤ 20) (h : erRef a v n m i = none) : i.toNatClampNeg < m ∧ anyFor a v (a 5 i.toNatClampNeg) (a 6 i.toNatClampNeg) 0 n = true := by
  unfold erRef at h
  split at h
  · rename_i q
    split at h
    · rename_i r; exact ⟨ixJ (by omega) q, r⟩
    · cases h
  · cases h
theorem erCount_n {a : AA} {v : VV} {n m : Nat} {s w : Int32} (h : erCount a v n m s w = none) : allFor a v n 0 m = true ∧ ¬ s = 0 := by
  unfold erCount at h
  split at h
  · rename_i q
    split at h
    · rename_i r
      exact ⟨r, fun e => by subst e; exact absurd q.1 (by decide)⟩
    · cases h
  · cases h
theorem erLike_n {a : AA} {v : VV} {n m : Nat} {y : Int32} (h : erLike a v n m y = none) : allFor a v n 0 m = true := by
  unfold erLike at h
  split at h
  · split at h
    · assumption
    · cases h
  · cases h
theorem SR.gm {n m : Nat} {a : AA} {v : VV} {am : AA} {vm : VV} {B : Nat} (pN : SR n m a v am vm B) : gdJ n (mA am B) (mV am vm B) := pN.2.1.cg (fun j hj => (pN.1.1 0 j (by omega) hj).symm) (fun j hj => (pN.1.1 3 j (by omega) hj).symm) (pN.1.2.2 10 (by omega) (by omega)).symm (by rw [← pN.1.2.2 12 (by omega) (by omega)]; exact pN.2.1.2.2.1)
/-- a case more: both states go on alike -/
theorem agS.add {n m : Nat} {a a' : AA} {v v' : VV} (h : agS n m a v a' v') (s p : Int32) (J K : Nat) : agS n (m + 1) (addA a v s p n J m) (addV v K m) (addA a' v' s p n J m) (addV v' K m) := by
  refine ⟨fun f j hf hj => ?_, fun f c f1 f2 hc => ?_, fun i i1 i2 => ?_⟩
  · have g := (h.J.set (nI J)).1 f j hf hj
    rcases (show f = 0 ∨ f = 1 ∨ f = 2 ∨ f = 3 by omega) with rfl | rfl | rfl | rfl <;> exact g
  · rcases (show f = 4 ∨ f = 5 ∨ f = 6 by omega) with rfl | rfl | rfl
    · show upd (a 4) m s c = upd (a' 4) m s c
      unfold upd
      by_cases e : c = m
      · rw [if_pos e, if_pos e]
      · rw [if_neg e, if_neg e]; exact h.2.1 4 c (by omega) (by omega) (by omega)
    · show upd (a 5) m p c = upd (a' 5) m p c
      unfold upd
      by_cases e : c = m
      · rw [if_pos e, if_pos e]
      · rw [if_neg e, if_neg e]; exact h.2.1 5 c (by omega) (by omega) (by omega)
    · show upd (a 6) m (nI J) c = upd (a' 6) m (nI J) c
      unfold upd
      by_cases e : c = m
      · rw [if_pos e, if_pos e]
      · rw [if_neg e, if_neg e]; exact h.2.1 6 c (by omega) (by omega) (by omega)
  · have g := h.2.2 i i1 i2
    have g12 := h.2.2 12 (by omega) (by omega)
    have g13 := h.2.2 13 (by omega) (by omega)
    rcases (show i = 8 ∨ i = 9 ∨ i = 10 ∨ i = 11 ∨ i = 12 ∨ i = 13 ∨ i = 14 by omega) with rfl | rfl | rfl | rfl | rfl | rfl | rfl
    · exact g
    · exact g
    · exact g
    · exact g
    · show itT K (v 12) = itT K (v' 12)
      rw [g12]
    · show v 13 + nI K = v' 13 + nI K
      rw [g13]
    · rfl
theorem gd.add (hd : HARDP) {n m : Nat} {a : AA} {v : VV} (h : gd n m a v) (hm : m < 20) (s p : Int32) {J : Nat} (hJ : J < n) (K : Nat) : gd n (m + 1) (addA a v s p n J m) (addV v K m) := by
  refine ⟨h.1.add hd s p hJ K m, h.2.1, rfl, by omega, fun c hc => ?_⟩
  show ∃ jo, jo < n ∧ upd (a 6) m (nI J) c = nI jo
  unfold upd
  by_cases e : c = m
  · rw [if_pos e]; exact ⟨J, hJ, rfl⟩
  · rw [if_neg e]; exact h.2.2.2.2 c (by omega)
theorem brA_ag {n m T : Nat} {a a' : AA} {v v' : VV} (h : agS n m a v a' v') (hT : T < m) : agJ n (brA a T) v (brA a' T) v' := by
  refine ⟨fun f j hf hj => ?_, h.J.2⟩
  have e6 := h.2.1 6 T (by omega) (by omega) hT
  have e5 := h.2.1 5 T (by omega) (by omega) hT
  rcases (show f = 0 ∨ f = 1 ∨ f = 2 ∨ f = 3 by omega) with rfl | rfl | rfl | rfl
  · exact h.1 0 j (by omega) hj
  · exact h.1 1 j (by omega) hj
  · show upd (a 2) (a 6 T).toNatClampNeg (a 2 (a 6 T).toNatClampNeg ||| ((1 : Int32) <<< (a 5 T &&& 31))) j = upd (a' 2) (a' 6 T).toNatClampNeg (a' 2 (a' 6 T).toNatClampNeg ||| ((1 : Int32) <<< (a' 5 T &&& 31))) j
    rw [e6, e5]
    unfold upd
    by_cases e : j = (a' 6 T).toNatClampNeg
    · rw [if_pos e, if_pos e, ← e, h.1 2 j (by omega) hj]
    · rw [if_neg e, if_neg e]; exact h.1 2 j (by omega) hj
  · exact h.1 3 j (by omega) hj
theorem agS.agn {n m T : Nat} {a a' : AA} {v v' : VV} (h : agS n m a v a' v') (hT : T < m) (J K : Nat) : agS n m (agnA (brA a T) v n J T) (vct v (itT K (v 12)) (v 13 + nI K)) (agnA (brA a' T) v' n J T) (vct v' (itT K (v' 12)) (v' 13 + nI K)) := by
  refine ⟨fun f j hf hj => ?_, fun f c f1 f2 hc => ?_, fun i i1 i2 => ?_⟩
  · have g := ((brA_ag h hT).set (nI J)).1 f j hf hj
    rcases (show f = 0 ∨ f = 1 ∨ f = 2 ∨ f = 3 by omega) with rfl | rfl | rfl | rfl <;> exact g
  · rcases (show f = 4 ∨ f = 5 ∨ f = 6 by omega) with rfl | rfl | rfl
    · exact h.2.1 4 c (by omega) (by omega) hc
    · exact h.2.1 5 c (by omega) (by omega) hc
    · show upd (a 6) T (nI J) c = upd (a' 6) T (nI J) c
      unfold upd
      by_cases e : c = T
      · rw [if_pos e, if_pos e]
      · rw [if_neg e, if_neg e]; exact h.2.1 6 c (by omega) (by omega) hc
  · have g := h.2.2 i i1 i2
    have g12 := h.2.2 12 (by omega) (by omega)
    have g13 := h.2.2 13 (by omega) (by omega)
    rcases (show i = 8 ∨ i = 9 ∨ i = 10 ∨ i = 11 ∨ i = 12 ∨ i = 13 ∨ i = 14 by omega) with rfl | rfl | rfl | rfl | rfl | rfl | rfl
    · exact g
    · exact g
    · exact g
    · exact g
    · show itT K (v 12) = itT K (v' 12)
      rw [g12]
    · show v 13 + nI K = v' 13 + nI K
      rw [g13]
    · exact g
theorem gd.agn (hd : HARDP) {n m T : Nat} {a : AA} {v : VV} (h : gd n m a v) {J : Nat} (hJ : J < n) (K : Nat) : gd n m (agnA (brA a T) v n J T) (vct v (itT K (v 12)) (v 13 + nI K)) := by
  refine ⟨(h.1.bar T).agn hd hJ T K _, h.2.1, h.2.2.1, h.2.2.2.1, fun c hc => ?_⟩
  show ∃ jo, jo < n ∧ upd (a 6) T (nI J) c = nI jo
  unfold upd
  by_cases e : c = T
  · rw [if_pos e]; exact ⟨J, hJ, rfl⟩
  · rw [if_neg e]; exact h.2.2.2.2 c hc
theorem HX_ref (hd : HARDP) {n m : Nat} {a : AA} {v : VV} (hg : gdJ n a v) (h6 : ∀ c, c < m → ∃ jo, jo < 6 ∧ a 6 c = nI jo) (hm : m ≤ 20) : ∀ i, i < m → erRef a v n m (nI i) = none → HX (brA a i) v (a 4 i) (a 5 i) n := fun i hi hE => by
  obtain ⟨-, ha⟩ := erRef_n hm hE
  rw [nI_clamp (by omega)] at ha
  obtain ⟨jo, hjo, e6⟩ := h6 i hi
  obtain ⟨j, hj, hf⟩ := any_bar hjo e6 ha
  exact HX_of hd (hg.bar i) _ _ hj hf
/-- recounts go on alike -/
theorem rc_ag {w : Int32} {a a' : AA} {n m : Nat} (ha : ∀ f c, 4 ≤ f → f < 7 → c < m → a f c = a' f c) : ∀ (d i s : Nat) (b b' : AA) (u u' : VV), i + d ≤ m → agJ n b u b' u' → u 12 = u' 12 → u 13 = u' 13 → okR a n d i b u → (rcW w a n m d i s b u).1 = (rcW w a' n m d i s b' u').1 ∧ (rcW w a n m d i s b u).2.2 13 = (rcW w a' n m d i s b' u').2.2 13
  | 0, _, _, _, _, _, _, _, _, _, h13, _ => ⟨rfl, h13⟩
  | d + 1, i, s, b, b', u, u', hi, hg, h12, h13, hok => by
    have hn := hok.1.n0
    have e4 := ha 4 i (by omega) (by omega) (by omega)
    have e5 := ha 5 i (by omega) (by omega) (by omega)
    have e6 := ha 6 i (by omega) (by omega) (by omega)
    have ek := hg.kk hn h12 (a 4 i) (a 5 i)
    have ej := hg.jj hn h12 (a 4 i) (a 5 i)
    have l : rcW w a n m (d + 1) i s b u = if nI (s + m - i) < w then (s, b, u) else rcW w a n m d (i + 1) (if nI (jF b u (a 4 i) (a 5 i) n) = a 6 i then s + 1 else s) (addA b u (a 4 i) (a 5 i) n (jF b u (a 4 i) (a 5 i) n) i) (addV u (Kf b u (a 4 i) (a 5 i) n) i) := rfl
    have r : rcW w a' n m (d + 1) i s b' u' = if nI (s + m - i) < w then (s, b', u') else rcW w a' n m d (i + 1) (if nI (jF b' u' (a' 4 i) (a' 5 i) n) = a' 6 i then s + 1 else s) (addA b' u' (a' 4 i) (a' 5 i) n (jF b' u' (a' 4 i) (a' 5 i) n) i) (addV u' (Kf b' u' (a' 4 i) (a' 5 i) n) i) := rfl
    rw [l, r, ← e4, ← e5, ← e6, ← ek, ← ej]
    by_cases q : nI (s + m - i) < w
    · rw [if_pos q, if_pos q]; exact ⟨rfl, h13⟩
    · rw [if_neg q, if_neg q]
      refine rc_ag ha d (i + 1) _ _ _ _ _ (by omega) ⟨fun f j hf hj => ?_, hg.2⟩ ?_ ?_ hok.2
      · have g := (hg.set (nI (jF b u (a 4 i) (a 5 i) n))).1 f j hf hj
        rcases (show f = 0 ∨ f = 1 ∨ f = 2 ∨ f = 3 by omega) with rfl | rfl | rfl | rfl <;> exact g
      · show itT _ (u 12) = itT _ (u' 12)
        rw [h12]
      · show u 13 + _ = u' 13 + _
        rw [h13]
theorem seal_ag {n m : Nat} {a a' : AA} {v v' : VV} (h : agS n m a v a' v') (s : Int32) : agJ n (sealA a) (sealV v s) (sealA a') (sealV v' s) := by
  refine ⟨fun f j hf hj => ?_, h.J.2⟩
  rcases (show f = 0 ∨ f = 1 ∨ f = 2 ∨ f = 3 by omega) with rfl | rfl | rfl | rfl
  · exact h.1 0 j (by omega) hj
  · exact h.1 1 j (by omega) hj
  · exact h.1 2 j (by omega) hj
  · rfl
theorem rcF_ag {n m : Nat} {a a' : AA} {v v' : VV} (h : agS n m a v a' v') (w s : Int32) (hok : okR a n m 0 (sealA a) (sealV v s)) : (rcF w a v n m s).1 = (rcF w a' v' n m s).1 ∧ (rcF w a v n m s).2.2 13 = (rcF w a' v' n m s).2.2 13 := rc_ag h.2.1 m 0 0 _ _ _ _ (by omega) (seal_ag h s) rfl rfl hok
theorem lkL_ag {n m : Nat} {a a' : AA} {v v' : VV} (h : agS n m a v a' v') (y : Int32) (hok : ∀ k, 1 ≤ k → k ≤ 300 → okR a n m 0 (sealA a) (sealV v (nI k))) : ∀ (d k : Nat), 1 ≤ k → k + d ≤ 301 → lkL a v n m y d k = lkL a' v' n m y d k
  | 0, _, _, _ => rfl
  | d + 1, k, h1, h2 => by
    have l : lkL a v n m y (d + 1) k = if y ≤ nI (rcF y a v n m (nI k)).1 then nI k else lkL a v n m y d (k + 1) := rfl
    have r : lkL a' v' n m y (d + 1) k = if y ≤ nI (rcF y a' v' n m (nI k)).1 then nI k else lkL a' v' n m y d (k + 1) := rfl
    rw [l, r, (rcF_ag h y (nI k) (hok k h1 (by omega))).1, lkL_ag h y hok d (k + 1) (by omega) (by omega)]
theorem seed_ne {k : Nat} (h1 : 1 ≤ k) (h2 : k ≤ 300) : ¬ nI k = 0 := fun e => absurd ((nI_eq (b := 0) (by omega) (by decide)).mp e) (by omega)
theorem L_assign {G : GG} {hh : HH} (hd : HARDP) (hI : Inv G hh) (s p : Int32) : SS G mX4_assign mX5_assign [.int s, .int p] hh := by
  have hI0 := hI
  obtain ⟨tf, tL, lf, lL, b, a1, v1, a, v, x, z, A, W, A2, W2, kb, am, vm, n, m, hC, t, htL, ⟨df, dL, dk, hdL⟩, sl, sf, hlL, th, ⟨rk, re, rc, rs, rd⟩, aT, ⟨a2, v2, aR⟩, nw, ⟨a3, v3, fo⟩, ho, hx, hz, hr, hs, kp, kf, ik, md, pT, pS, pW, pN, pL, pH, pK⟩ := hI
  obtain ⟨hn, hv, hc, hm, hv1, hc1, hr2⟩ := pN.n
  have hc1 : am 0 3 = nI m := hc1
  refine EVi.mono (w_assign G hh hC nw ho hx hz hr hs hn hv hm hc s p (fun q9 => HX_any hd pN.2.1 s (erAsg_n q9).1)) (fun y h1 hp => ?_)
  cases hE : erAsg a v n m s p with
  | some e =>
    simp only [hE] at hp
    obtain ⟨rfl, rfl⟩ := hp
    refine ⟨⟨_, md.1⟩, EVi.mono (m_assign G _ md hn hv1 hr2 hm hc1 hz pH.1 s p (fun q9 => HX_any hd pN.gm s (erAsg_n q9).1)) (fun y2 h2 hq => ?_)⟩
    rw [← (pN.1.er s p).1] at hq
    simp only [hE] at hq
    obtain ⟨rfl, rfl⟩ := hq
    exact ⟨rfl, hI0⟩
  | none =>
    simp only [hE] at hp
    obtain ⟨rfl, ⟨g, nw⟩, ho, hr, hs, hF⟩ := hp
    obtain ⟨ha, hm20⟩ := erAsg_n hE
    have hX := HX_any hd pN.2.1 s ha
    have hn0 := hX.n0
    have e12 : v 12 = mV am vm 0 12 := pN.1.2.2 12 (by omega) (by omega)
    have eJ := pN.1.J.jj hn0 e12 s p
    have eK := pN.1.J.kk hn0 e12 s p
    have hJ : jF a v s p n < n := jud_lt hn0
    have hC := hAt.rg hC (hF.e2 _ (by omega))
    have t := t.rg (fun i k1 k2 => hF.e2 i (by omega))
    have dk := dk.rg (fun i k1 k2 => hF.e2 i (by omega))
    have sl := hAt.rg sl (hF.e2 _ (by omega))
    have sf := fun i hi => (sf i hi).rg (fun j k1 k2 => hF.e2 j (by omega))
    have th := hAt.rg th (hF.e2 _ (by omega))
    have rd := hAt.rg rd (hF.e2 _ (by omega))
    have aT := aT.rg (fun i k1 k2 => hF.e2 i (by omega))
    have aR := aR.rg (fun i k1 k2 => hF.e2 i (by omega))
    have fo := fo.rg (fun i k1 k2 => hF.e2 i (by omega))
    have kp := hAt.rg kp (hF.e2 _ (by omega))
    have kf := fun i hi => (kf i hi).rg (fun j k1 k2 => hF.e2 j (by omega))
    have ik := hAt.rg ik (hF.e2 _ (by omega))
    have md := md.rg (fun i k1 k2 => hF.e2 i (by omega))
    refine ⟨⟨_, md.1⟩, EVi.mono (m_assign G _ md hn hv1 hr2 hm hc1 hz pH.1 s p (fun q9 => HX_any hd pN.gm s (erAsg_n q9).1)) (fun y2 h2 hq => ?_)⟩
    rw [← (pN.1.er s p).1] at hq
    simp only [hE] at hq
    obtain ⟨rfl, R, md, hR, hV, hF⟩ := hq
    have hC := hAt.rg hC (hF _ (by omega))
    have t := t.rg (fun i k1 k2 => hF i (by omega))
    have dk := dk.rg (fun i k1 k2 => hF i (by omega))
    have sl := hAt.rg sl (hF _ (by omega))
    have sf := fun i hi => (sf i hi).rg (fun j k1 k2 => hF j (by omega))
    have th := hAt.rg th (hF _ (by omega))
    have rd := hAt.rg rd (hF _ (by omega))
    have aT := aT.rg (fun i k1 k2 => hF i (by omega))
    have aR := aR.rg (fun i k1 k2 => hF i (by omega))
    have nw := nw.rg (fun i k1 k2 => hF i (by omega))
    have fo := fo.rg (fun i k1 k2 => hF i (by omega))
    have ho := hAt.rg ho (hF _ (by omega))
    have hr := hAt.rg hr (hF _ (by omega))
    have hs : HsAt _ _ 50 _ _ := fun i hi => (hs i hi).rg (fun j k1 k2 => hF j (by omega))
    have kp := hAt.rg kp (hF _ (by omega))
    have kf := fun i hi => (kf i hi).rg (fun j k1 k2 => hF j (by omega))
    have ik := hAt.rg ik (hF _ (by omega))
    exact ⟨by rw [eJ], ⟨_, _, _, _, _, _, _, _, _, _, _, _, _, _, _, _, _, _, _, _, hC, t, htL, ⟨_, _, dk, hdL⟩, sl, sf, hlL, th, ⟨_, _, _, _, rd⟩, aT, ⟨_, _, aR⟩, nw, ⟨_, _, fo⟩, ho, hiO_lt hx, hiZ_le hz, hr, hs, kp, kf, ik, md, pT.cg rfl rfl, pS.cg rfl rfl, pW, (SR.of (pN.2.add hd hm20 s p hJ _) (pN.1.add s p _ _) (by (rw [← eJ, ← eK] at hV; exact hV))).ca (up7 _ g) eqV.rf, pL.cg (fun j k1 _ => (hR j (by omega)).trans (kpR_up hz (by omega))) rfl rfl rfl rfl, pH.push pN hx hz _ hR rfl rfl rfl rfl rfl, pK.cg (fun j k1 _ => (hR j (by omega)).trans (kpR_up hz (by omega))) rfl rfl rfl rfl rfl⟩⟩
theorem L_refuse {G : GG} {hh : HH} (hd : HARDP) (hI : Inv G hh) (t9 : Int32) : SS G mX4_refuse mX5_refuse [.int t9] hh := by
  have hI0 := hI
  obtain ⟨tf, tL, lf, lL, b, a1, v1, a, v, x, z, A, W, A2, W2, kb, am, vm, n, m, hC, t, htL, ⟨df, dL, dk, hdL⟩, sl, sf, hlL, th, ⟨rk, re, rc, rs, rd⟩, aT, ⟨a2, v2, aR⟩, nw, ⟨a3, v3, fo⟩, ho, hx, hz, hr, hs, kp, kf, ik, md, pT, pS, pW, pN, pL, pH, pK⟩ := hI
  obtain ⟨hn, hv, hc, hm, hv1, hc1, hr2⟩ := pN.n
  have hc1 : am 0 3 = nI m := hc1
  refine EVi.mono (w_refuse G hh hC nw ho hx hz hr hs hn hv hm hc t9 (fun i hi => by (obtain ⟨jo, h1, h2⟩ := pN.2.2.2.2.2 i hi; exact ⟨jo, by omega, h2⟩)) (HX_ref hd pN.2.1 (fun i hi => by (obtain ⟨jo, h1, h2⟩ := pN.2.2.2.2.2 i hi; exact ⟨jo, by omega, h2⟩)) hm)) (fun y h1 hp => ?_)
  cases hE : erRef a v n m t9 with
  | some e =>
    simp only [hE] at hp
    obtain ⟨rfl, rfl⟩ := hp
    refine ⟨⟨_, md.1⟩, EVi.mono (m_refuse G _ md hn hv1 hr2 hm hc1 hz pH.1 t9 (fun i hi => by (obtain ⟨jo, h1, h2⟩ := pN.2.2.2.2.2 i hi; exact ⟨jo, by omega, (show am 0 (57 + i) = mA am 0 6 i from by (show am 0 (57 + i) = am 0 (0 + 57 + i); rw [Nat.zero_add])).trans ((pN.1.2.1 6 i (by omega) (by omega) hi).symm.trans h2)⟩)) (HX_ref hd pN.gm (fun i hi => by (obtain ⟨jo, h1, h2⟩ := pN.2.2.2.2.2 i hi; exact ⟨jo, by omega, (pN.1.2.1 6 i (by omega) (by omega) hi).symm.trans h2⟩)) hm)) (fun y2 h2 hq => ?_)⟩
    rw [← pN.1.erR hm t9] at hq
    simp only [hE] at hq
    obtain ⟨rfl, rfl⟩ := hq
    exact ⟨rfl, hI0⟩
  | none =>
    simp only [hE] at hp
    obtain ⟨rfl, ⟨g, nw⟩, ho, hr, hs, hF⟩ := hp
    obtain ⟨hT, ha⟩ := erRef_n hm hE
    obtain ⟨jo, hjo, e6⟩ := pN.2.2.2.2.2 _ hT
    obtain ⟨j, hj, hf⟩ := any_bar (by omega) e6 ha
    have hX := HX_of hd (pN.2.1.bar t9.toNatClampNeg) (a 4 t9.toNatClampNeg) (a 5 t9.toNatClampNeg) hj hf
    have hn0 := hX.n0
    have e12 : v 12 = mV am vm 0 12 := pN.1.2.2 12 (by omega) (by omega)
    have e4 := pN.1.2.1 4 _ (by omega) (by omega) hT
    have e5 := pN.1.2.1 5 _ (by omega) (by omega) hT
    have eJ : jR a v n t9.toNatClampNeg = jR (mA am 0) (mV am vm 0) n t9.toNatClampNeg := by
      unfold jR
      rw [(brA_ag pN.1 hT).jj hn0 e12, e4, e5]
    have eK : Kf (brA a t9.toNatClampNeg) v (a 4 t9.toNatClampNeg) (a 5 t9.toNatClampNeg) n = Kf (brA (mA am 0) t9.toNatClampNeg) (mV am vm 0) (mA am 0 4 t9.toNatClampNeg) (mA am 0 5 t9.toNatClampNeg) n := by
      rw [(brA_ag pN.1 hT).kk hn0 e12, e4, e5]
    have hJ : jR a v n t9.toNatClampNeg < n := jud_lt hn0
    have hC := hAt.rg hC (hF.e2 _ (by omega))
    have t := t.rg (fun i k1 k2 => hF.e2 i (by omega))
    have dk := dk.rg (fun i k1 k2 => hF.e2 i (by omega))
    have sl := hAt.rg sl (hF.e2 _ (by omega))
    have sf := fun i hi => (sf i hi).rg (fun j k1 k2 => hF.e2 j (by omega))
    have th := hAt.rg th (hF.e2 _ (by omega))
    have rd := hAt.rg rd (hF.e2 _ (by omega))
    have aT := aT.rg (fun i k1 k2 => hF.e2 i (by omega))
    have aR := aR.rg (fun i k1 k2 => hF.e2 i (by omega))
    have fo := fo.rg (fun i k1 k2 => hF.e2 i (by omega))
    have kp := hAt.rg kp (hF.e2 _ (by omega))
    have kf := fun i hi => (kf i hi).rg (fun j k1 k2 => hF.e2 j (by omega))
    have ik := hAt.rg ik (hF.e2 _ (by omega))
    have md := md.rg (fun i k1 k2 => hF.e2 i (by omega))
    refine ⟨⟨_, md.1⟩, EVi.mono (m_refuse G _ md hn hv1 hr2 hm hc1 hz pH.1 t9 (fun i hi => by (obtain ⟨jo, h1, h2⟩ := pN.2.2.2.2.2 i hi; exact ⟨jo, by omega, (show am 0 (57 + i) = mA am 0 6 i from by (show am 0 (57 + i) = am 0 (0 + 57 + i); rw [Nat.zero_add])).trans ((pN.1.2.1 6 i (by omega) (by omega) hi).symm.trans h2)⟩)) (HX_ref hd pN.gm (fun i hi => by (obtain ⟨jo, h1, h2⟩ := pN.2.2.2.2.2 i hi; exact ⟨jo, by omega, (pN.1.2.1 6 i (by omega) (by omega) hi).symm.trans h2⟩)) hm)) (fun y2 h2 hq => ?_)⟩
    rw [← pN.1.erR hm t9] at hq
    simp only [hE] at hq
    obtain ⟨rfl, R, md, hR, hV, hF⟩ := hq
    have hC := hAt.rg hC (hF _ (by omega))
    have t := t.rg (fun i k1 k2 => hF i (by omega))
    have dk := dk.rg (fun i k1 k2 => hF i (by omega))
    have sl := hAt.rg sl (hF _ (by omega))
    have sf := fun i hi => (sf i hi).rg (fun j k1 k2 => hF j (by omega))
    have th := hAt.rg th (hF _ (by omega))
    have rd := hAt.rg rd (hF _ (by omega))
    have aT := aT.rg (fun i k1 k2 => hF i (by omega))
    have aR := aR.rg (fun i k1 k2 => hF i (by omega))
    have nw := nw.rg (fun i k1 k2 => hF i (by omega))
    have fo := fo.rg (fun i k1 k2 => hF i (by omega))
    have ho := hAt.rg ho (hF _ (by omega))
    have hr := hAt.rg hr (hF _ (by omega))
    have hs : HsAt _ _ 50 _ _ := fun i hi => (hs i hi).rg (fun j k1 k2 => hF j (by omega))
    have kp := hAt.rg kp (hF _ (by omega))
    have kf := fun i hi => (kf i hi).rg (fun j k1 k2 => hF j (by omega))
    have ik := hAt.rg ik (hF _ (by omega))
    exact ⟨by rw [eJ], ⟨_, _, _, _, _, _, _, _, _, _, _, _, _, _, _, _, _, _, _, _, hC, t, htL, ⟨_, _, dk, hdL⟩, sl, sf, hlL, th, ⟨_, _, _, _, rd⟩, aT, ⟨_, _, aR⟩, nw, ⟨_, _, fo⟩, ho, hiO_lt hx, hiZ_le hz, hr, hs, kp, kf, ik, md, pT.cg rfl rfl, pS.cg rfl rfl, pW, (SR.of (pN.2.agn hd hJ _) (pN.1.agn hT _ _) (by (rw [← eJ, ← eK] at hV; exact hV))).ca (up7 _ g) eqV.rf, pL.cg (fun j k1 _ => (hR j (by omega)).trans (kpR_up hz (by omega))) rfl rfl rfl rfl, pH.push pN hx hz _ hR rfl rfl rfl rfl rfl, pK.cg (fun j k1 _ => (hR j (by omega)).trans (kpR_up hz (by omega))) rfl rfl rfl rfl rfl⟩⟩
theorem L_next {G : GG} {hh : HH} (hd : HARDP) (hI : Inv G hh) (s p : Int32) : SS G mX4_next mX5_next [.int s, .int p] hh := by
  have hI0 := hI
  obtain ⟨tf, tL, lf, lL, b, a1, v1, a, v, x, z, A, W, A2, W2, kb, am, vm, n, m, hC, t, htL, ⟨df, dL, dk, hdL⟩, sl, sf, hlL, th, ⟨rk, re, rc, rs, rd⟩, aT, ⟨a2, v2, aR⟩, nw, ⟨a3, v3, fo⟩, ho, hx, hz, hr, hs, kp, kf, ik, md, pT, pS, pW, pN, pL, pH, pK⟩ := hI
  obtain ⟨hn, hv, hc, hm, hv1, hc1, hr2⟩ := pN.n
  have hc1 : am 0 3 = nI m := hc1
  refine EVi.mono (w_next G hh hC nw fo hn hv s p (fun q9 => HX_any hd pN.2.1 s (erNext_n q9))) (fun y h1 hp => ?_)
  cases hE : erNext a v n s p with
  | some e =>
    simp only [hE] at hp
    obtain ⟨rfl, rfl⟩ := hp
    refine ⟨⟨_, md.1⟩, EVi.mono (m_next G _ md hn hv1 hr2 s p (fun q9 => HX_any hd pN.gm s (erNext_n q9))) (fun y2 h2 hq => ?_)⟩
    rw [← (pN.1.er s p).2] at hq
    simp only [hE] at hq
    obtain ⟨rfl, rfl⟩ := hq
    exact ⟨rfl, hI0⟩
  | none =>
    simp only [hE] at hp
    obtain ⟨rfl, ⟨a3, v3, fo⟩, hF⟩ := hp
    have hX := HX_any hd pN.2.1 s (erNext_n hE)
    have hn0 := hX.n0
    have e12 : v 12 = mV am vm 0 12 := pN.1.2.2 12 (by omega) (by omega)
    have eJ := pN.1.J.jj hn0 e12 s p
    have hC := hAt.rg hC (hF _ (by omega))
    have t := t.rg (fun i k1 k2 => hF i (by omega))
    have dk := dk.rg (fun i k1 k2 => hF i (by omega))
    have sl := hAt.rg sl (hF _ (by omega))
    have sf := fun i hi => (sf i hi).rg (fun j k1 k2 => hF j (by omega))
    have th := hAt.rg th (hF _ (by omega))
    have rd := hAt.rg rd (hF _ (by omega))
    have aT := aT.rg (fun i k1 k2 => hF i (by omega))
    have aR := aR.rg (fun i k1 k2 => hF i (by omega))
    have nw := nw.rg (fun i k1 k2 => hF i (by omega))
    have ho := hAt.rg ho (hF _ (by omega))
    have hr := hAt.rg hr (hF _ (by omega))
    have hs : HsAt _ _ 50 _ _ := fun i hi => (hs i hi).rg (fun j k1 k2 => hF j (by omega))
    have kp := hAt.rg kp (hF _ (by omega))
    have kf := fun i hi => (kf i hi).rg (fun j k1 k2 => hF j (by omega))
    have ik := hAt.rg ik (hF _ (by omega))
    have md := md.rg (fun i k1 k2 => hF i (by omega))
    refine ⟨⟨_, md.1⟩, EVi.mono (m_next G _ md hn hv1 hr2 s p (fun q9 => HX_any hd pN.gm s (erNext_n q9))) (fun y2 h2 hq => ?_)⟩
    rw [← (pN.1.er s p).2] at hq
    simp only [hE] at hq
    obtain ⟨rfl, R, md, hR, hF⟩ := hq
    have hC := hAt.rg hC (hF _ (by omega))
    have t := t.rg (fun i k1 k2 => hF i (by omega))
    have dk := dk.rg (fun i k1 k2 => hF i (by omega))
    have sl := hAt.rg sl (hF _ (by omega))
    have sf := fun i hi => (sf i hi).rg (fun j k1 k2 => hF j (by omega))
    have th := hAt.rg th (hF _ (by omega))
    have rd := hAt.rg rd (hF _ (by omega))
    have aT := aT.rg (fun i k1 k2 => hF i (by omega))
    have aR := aR.rg (fun i k1 k2 => hF i (by omega))
    have nw := nw.rg (fun i k1 k2 => hF i (by omega))
    have fo := fo.rg (fun i k1 k2 => hF i (by omega))
    have ho := hAt.rg ho (hF _ (by omega))
    have hr := hAt.rg hr (hF _ (by omega))
    have hs : HsAt _ _ 50 _ _ := fun i hi => (hs i hi).rg (fun j k1 k2 => hF j (by omega))
    have kp := hAt.rg kp (hF _ (by omega))
    have kf := fun i hi => (kf i hi).rg (fun j k1 k2 => hF j (by omega))
    have ik := hAt.rg ik (hF _ (by omega))
    exact ⟨by rw [eJ], ⟨_, _, _, _, _, _, _, _, _, _, _, _, _, _, _, _, _, _, _, _, hC, t, htL, ⟨_, _, dk, hdL⟩, sl, sf, hlL, th, ⟨_, _, _, _, rd⟩, aT, ⟨_, _, aR⟩, nw, ⟨_, _, fo⟩, ho, hx, hz, hr, hs, kp, kf, ik, md, pT.cg rfl rfl, pS.cg rfl rfl, pW, pN.cg (fun j hj => hR _ (by omega)) rfl rfl rfl rfl, pL.cg (fun j k1 k2 => hR j (by omega)) rfl rfl rfl rfl, pH.cg (fun j k1 k2 => hR j (by omega)) rfl rfl rfl rfl rfl hz, pK.cg (fun j k1 k2 => hR j (by omega)) rfl rfl rfl rfl rfl⟩⟩
theorem L_count {G : GG} {hh : HH} (hd : HARDP) (hI : Inv G hh) (s w : Int32) : SS G mX4_count mX5_count [.int s, .int w] hh := by
  have hI0 := hI
  obtain ⟨tf, tL, lf, lL, b, a1, v1, a, v, x, z, A, W, A2, W2, kb, am, vm, n, m, hC, t, htL, ⟨df, dL, dk, hdL⟩, sl, sf, hlL, th, ⟨rk, re, rc, rs, rd⟩, aT, ⟨a2, v2, aR⟩, nw, ⟨a3, v3, fo⟩, ho, hx, hz, hr, hs, kp, kf, ik, md, pT, pS, pW, pN, pL, pH, pK⟩ := hI
  obtain ⟨hn, hv, hc, hm, hv1, hc1, hr2⟩ := pN.n
  have hc1 : am 0 3 = nI m := hc1
  refine EVi.mono (w_count G hh hC nw fo hn hv hm hc s w (fun q9 => okR_seal hd pN.2.1 (erCount_n q9).1 (erCount_n q9).2)) (fun y h1 hp => ?_)
  cases hE : erCount a v n m s w with
  | some e =>
    simp only [hE] at hp
    obtain ⟨rfl, rfl⟩ := hp
    refine ⟨⟨_, md.1⟩, EVi.mono (m_count G _ md hn hv1 hr2 hm hc1 s w (fun q9 => okR_seal hd pN.gm (erCount_n q9).1 (erCount_n q9).2)) (fun y2 h2 hq => ?_)⟩
    rw [← (pN.1.erC s w).1] at hq
    simp only [hE] at hq
    obtain ⟨rfl, rfl⟩ := hq
    exact ⟨rfl, hI0⟩
  | none =>
    simp only [hE] at hp
    obtain ⟨rfl, ⟨a3, v3, fo⟩, hF⟩ := hp
    have eR := rcF_ag pN.1 0 s (okR_seal hd pN.2.1 (erCount_n hE).1 (erCount_n hE).2)
    have hC := hAt.rg hC (hF _ (by omega))
    have t := t.rg (fun i k1 k2 => hF i (by omega))
    have dk := dk.rg (fun i k1 k2 => hF i (by omega))
    have sl := hAt.rg sl (hF _ (by omega))
    have sf := fun i hi => (sf i hi).rg (fun j k1 k2 => hF j (by omega))
    have th := hAt.rg th (hF _ (by omega))
    have rd := hAt.rg rd (hF _ (by omega))
    have aT := aT.rg (fun i k1 k2 => hF i (by omega))
    have aR := aR.rg (fun i k1 k2 => hF i (by omega))
    have nw := nw.rg (fun i k1 k2 => hF i (by omega))
    have ho := hAt.rg ho (hF _ (by omega))
    have hr := hAt.rg hr (hF _ (by omega))
    have hs : HsAt _ _ 50 _ _ := fun i hi => (hs i hi).rg (fun j k1 k2 => hF j (by omega))
    have kp := hAt.rg kp (hF _ (by omega))
    have kf := fun i hi => (kf i hi).rg (fun j k1 k2 => hF j (by omega))
    have ik := hAt.rg ik (hF _ (by omega))
    have md := md.rg (fun i k1 k2 => hF i (by omega))
    refine ⟨⟨_, md.1⟩, EVi.mono (m_count G _ md hn hv1 hr2 hm hc1 s w (fun q9 => okR_seal hd pN.gm (erCount_n q9).1 (erCount_n q9).2)) (fun y2 h2 hq => ?_)⟩
    rw [← (pN.1.erC s w).1] at hq
    simp only [hE] at hq
    obtain ⟨rfl, R, md, hR, hF⟩ := hq
    have hC := hAt.rg hC (hF _ (by omega))
    have t := t.rg (fun i k1 k2 => hF i (by omega))
    have dk := dk.rg (fun i k1 k2 => hF i (by omega))
    have sl := hAt.rg sl (hF _ (by omega))
    have sf := fun i hi => (sf i hi).rg (fun j k1 k2 => hF j (by omega))
    have th := hAt.rg th (hF _ (by omega))
    have rd := hAt.rg rd (hF _ (by omega))
    have aT := aT.rg (fun i k1 k2 => hF i (by omega))
    have aR := aR.rg (fun i k1 k2 => hF i (by omega))
    have nw := nw.rg (fun i k1 k2 => hF i (by omega))
    have fo := fo.rg (fun i k1 k2 => hF i (by omega))
    have ho := hAt.rg ho (hF _ (by omega))
    have hr := hAt.rg hr (hF _ (by omega))
    have hs : HsAt _ _ 50 _ _ := fun i hi => (hs i hi).rg (fun j k1 k2 => hF j (by omega))
    have kp := hAt.rg kp (hF _ (by omega))
    have kf := fun i hi => (kf i hi).rg (fun j k1 k2 => hF j (by omega))
    have ik := hAt.rg ik (hF _ (by omega))
    exact ⟨by rw [eR.1, eR.2], ⟨_, _, _, _, _, _, _, _, _, _, _, _, _, _, _, _, _, _, _, _, hC, t, htL, ⟨_, _, dk, hdL⟩, sl, sf, hlL, th, ⟨_, _, _, _, rd⟩, aT, ⟨_, _, aR⟩, nw, ⟨_, _, fo⟩, ho, hx, hz, hr, hs, kp, kf, ik, md, pT.cg rfl rfl, pS.cg rfl rfl, pW, pN.cg (fun j hj => hR _ (by omega)) rfl rfl rfl rfl, pL.cg (fun j k1 k2 => hR j (by omega)) rfl rfl rfl rfl, pH.cg (fun j k1 k2 => hR j (by omega)) rfl rfl rfl rfl rfl hz, pK.cg (fun j k1 k2 => hR j (by omega)) rfl rfl rfl rfl rfl⟩⟩
theorem L_like {G : GG} {hh : HH} (hd : HARDP) (hI : Inv G hh) (w : Int32) : SS G mX4_like mX5_like [.int w] hh := by
  have hI0 := hI
  obtain ⟨tf, tL, lf, lL, b, a1, v1, a, v, x, z, A, W, A2, W2, kb, am, vm, n, m, hC, t, htL, ⟨df, dL, dk, hdL⟩, sl, sf, hlL, th, ⟨rk, re, rc, rs, rd⟩, aT, ⟨a2, v2, aR⟩, nw, ⟨a3, v3, fo⟩, ho, hx, hz, hr, hs, kp, kf, ik, md, pT, pS, pW, pN, pL, pH, pK⟩ := hI
  obtain ⟨hn, hv, hc, hm, hv1, hc1, hr2⟩ := pN.n
  have hc1 : am 0 3 = nI m := hc1
  refine EVi.mono (w_like G hh hC nw fo hn hv hm hc w (fun q9 k k1 k2 => okR_seal hd pN.2.1 (erLike_n q9) (seed_ne k1 k2))) (fun y h1 hp => ?_)
  cases hE : erLike a v n m w with
  | some e =>
    simp only [hE] at hp
    obtain ⟨rfl, rfl⟩ := hp
    refine ⟨⟨_, md.1⟩, EVi.mono (m_like G _ md hn hv1 hr2 hm hc1 w (fun q9 k k1 k2 => okR_seal hd pN.gm (erLike_n q9) (seed_ne k1 k2))) (fun y2 h2 hq => ?_)⟩
    rw [← (pN.1.erC w w).2] at hq
    simp only [hE] at hq
    obtain ⟨rfl, rfl⟩ := hq
    exact ⟨rfl, hI0⟩
  | none =>
    simp only [hE] at hp
    obtain ⟨rfl, ⟨a3, v3, fo⟩, hF⟩ := hp
    have eR := lkL_ag pN.1 w (fun k k1 k2 => okR_seal hd pN.2.1 (erLike_n hE) (seed_ne k1 k2)) 300 1 (by omega) (by omega)
    have hC := hAt.rg hC (hF _ (by omega))
    have t := t.rg (fun i k1 k2 => hF i (by omega))
    have dk := dk.rg (fun i k1 k2 => hF i (by omega))
    have sl := hAt.rg sl (hF _ (by omega))
    have sf := fun i hi => (sf i hi).rg (fun j k1 k2 => hF j (by omega))
    have th := hAt.rg th (hF _ (by omega))
    have rd := hAt.rg rd (hF _ (by omega))
    have aT := aT.rg (fun i k1 k2 => hF i (by omega))
    have aR := aR.rg (fun i k1 k2 => hF i (by omega))
    have nw := nw.rg (fun i k1 k2 => hF i (by omega))
    have ho := hAt.rg ho (hF _ (by omega))
    have hr := hAt.rg hr (hF _ (by omega))
    have hs : HsAt _ _ 50 _ _ := fun i hi => (hs i hi).rg (fun j k1 k2 => hF j (by omega))
    have kp := hAt.rg kp (hF _ (by omega))
    have kf := fun i hi => (kf i hi).rg (fun j k1 k2 => hF j (by omega))
    have ik := hAt.rg ik (hF _ (by omega))
    have md := md.rg (fun i k1 k2 => hF i (by omega))
    refine ⟨⟨_, md.1⟩, EVi.mono (m_like G _ md hn hv1 hr2 hm hc1 w (fun q9 k k1 k2 => okR_seal hd pN.gm (erLike_n q9) (seed_ne k1 k2))) (fun y2 h2 hq => ?_)⟩
    rw [← (pN.1.erC w w).2] at hq
    simp only [hE] at hq
    obtain ⟨rfl, R, md, hR, hF⟩ := hq
    have hC := hAt.rg hC (hF _ (by omega))
    have t := t.rg (fun i k1 k2 => hF i (by omega))
    have dk := dk.rg (fun i k1 k2 => hF i (by omega))
    have sl := hAt.rg sl (hF _ (by omega))
    have sf := fun i hi => (sf i hi).rg (fun j k1 k2 => hF j (by omega))
    have th := hAt.rg th (hF _ (by omega))
    have rd := hAt.rg rd (hF _ (by omega))
    have aT := aT.rg (fun i k1 k2 => hF i (by omega))
    have aR := aR.rg (fun i k1 k2 => hF i (by omega))
    have nw := nw.rg (fun i k1 k2 => hF i (by omega))
    have fo := fo.rg (fun i k1 k2 => hF i (by omega))
    have ho := hAt.rg ho (hF _ (by omega))
    have hr := hAt.rg hr (hF _ (by omega))
    have hs : HsAt _ _ 50 _ _ := fun i hi => (hs i hi).rg (fun j k1 k2 => hF j (by omega))
    have kp := hAt.rg kp (hF _ (by omega))
    have kf := fun i hi => (kf i hi).rg (fun j k1 k2 => hF j (by omega))
    have ik := hAt.rg ik (hF _ (by omega))
    exact ⟨eR.symm, ⟨_, _, _, _, _, _, _, _, _, _, _, _, _, _, _, _, _, _, _, _, hC, t, htL, ⟨_, _, dk, hdL⟩, sl, sf, hlL, th, ⟨_, _, _, _, rd⟩, aT, ⟨_, _, aR⟩, nw, ⟨_, _, fo⟩, ho, hx, hz, hr, hs, kp, kf, ik, md, pT.cg rfl rfl, pS.cg rfl rfl, pW, pN.cg (fun j hj => hR _ (by omega)) rfl rfl rfl rfl, pL.cg (fun j k1 k2 => hR j (by omega)) rfl rfl rfl rfl, pH.cg (fun j k1 k2 => hR j (by omega)) rfl rfl rfl rfl rfl hz, pK.cg (fun j k1 k2 => hR j (by omega)) rfl rfl rfl rfl rfl⟩⟩
