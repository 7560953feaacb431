def erLike (a : AA) (v : VV) (n m : Nat) (y : Int32) : Option Int32 := if 1 ≤ y ∧ y ≤ 20 then if allFor a v n 0 m = true then if y ≤ nI m then none else some (-1) else some (-4) else some (-3)
noncomputable def lkL (a : AA) (v : VV) (n m : Nat) (y : Int32) : Nat → Nat → Int32
  | 0, _ => -1
  | d + 1, k => if y ≤ nI (rcF y a v n m (nI k)).1 then nI k else lkL a v n m y d (k + 1)
/-- foretold has the judges of now -/
def sameJ (a : AA) (v : VV) (b : AA) (u : VV) : Prop := b 0 = a 0 ∧ b 1 = a 1 ∧ b 2 = a 2 ∧ u 8 = v 8 ∧ u 9 = v 9 ∧ u 10 = v 10
theorem sealA_cg {a b : AA} {v u : VV} (h : sameJ a v b u) : ∀ j, j < 4 → sealA b j = sealA a j := by
  intro j hj
  rcases (show j = 0 ∨ j = 1 ∨ j = 2 ∨ j = 3 by omega) with rfl | rfl | rfl | rfl
  · exact h.1
  · exact h.2.1
  · exact h.2.2.1
  · rfl
/-- scalars agree where a state has them -/
def eqV (u v : VV) : Prop := ∀ i, 8 ≤ i → i < 15 → u i = v i
theorem eqV.seal {a b : AA} {v u : VV} (h : sameJ a v b u) (s : Int32) : eqV (sealV u s) (sealV v s) := by
  intro i h1 h2
  rcases (show i = 8 ∨ i = 9 ∨ i = 10 ∨ i = 11 ∨ i = 12 ∨ i = 13 ∨ i = 14 by omega) with rfl | rfl | rfl | rfl | rfl | rfl | rfl
  · exact h.2.2.2.1
  · exact h.2.2.2.2.1
  · exact h.2.2.2.2.2
  all_goals rfl
theorem wt_cv {u v : VV} (h : eqV u v) (a : AA) : wt a u = wt a v ∧ fre a u = fre a v ∧ stA a u = stA a v := by
  refine ⟨?_, ?_, ?_⟩
  · funext j s; unfold wt; rw [h 9 (by omega) (by omega), h 10 (by omega) (by omega)]
  · funext j p; unfold fre; rw [h 9 (by omega) (by omega)]
  · funext j; unfold stA; rw [h 9 (by omega) (by omega)]
theorem Kf_cv {u v : VV} (h : eqV u v) (a : AA) : Kf a u = Kf a v ∧ jF a u = jF a v ∧ HX a u = HX a v ∧ (∀ s p n j c, addA a u s p n j c = addA a v s p n j c) ∧ ∀ K c, eqV (addV u K c) (addV v K c) := by
  obtain ⟨e1, e2, e3⟩ := wt_cv h a
  have j1 : judOf a u = judOf a v := by funext s n c; unfold judOf totW wtj; rw [e1]
  have j2 : totW a u = totW a v := by funext s n; unfold totW wtj; rw [e1]
  have f1 : firstK a u = firstK a v := by funext s p n c K; unfold firstK goodI; rw [j1, j2, e2]
  have k1 : Kf a u = Kf a v := by funext s p n; unfold Kf; rw [f1, h 12 (by omega) (by omega)]
  refine ⟨k1, ?_, ?_, ?_, ?_⟩
  · funext s p n; unfold jF; rw [k1, j1, h 12 (by omega) (by omega)]
  · funext s p n; unfold HX; rw [f1, j2, h 12 (by omega) (by omega)]
  · intro s p n j c
    unfold addA setD
    have : nwD a u (nI j) n = nwD a v (nI j) n := by funext k; unfold nwD togS; rw [e3]
    rw [this]
  · intro K c i h1 h2
    unfold addV vct
    rw [h 12 (by omega) (by omega), h 13 (by omega) (by omega)]
    simp only [va_up]
    by_cases q1 : i = 14
    · simp [q1]
    · by_cases q2 : i = 13
      · simp [q2]
      · by_cases q3 : i = 12
        · simp [q3]
        · simp [q1, q2, q3, h i h1 h2]
theorem rcW_cv {w : Int32} {a : AA} {n m : Nat} : ∀ (d i s : Nat) {b : AA} {u v : VV}, eqV u v → (rcW w a n m d i s b u).1 = (rcW w a n m d i s b v).1 ∧ (rcW w a n m d i s b u).2.1 = (rcW w a n m d i s b v).2.1 ∧ eqV (rcW w a n m d i s b u).2.2 (rcW w a n m d i s b v).2.2
  | 0, _, _, _, _, _, h => ⟨rfl, rfl, h⟩
  | d + 1, i, s, b, u, v, h => by
    obtain ⟨k1, k2, k3, k4, k5⟩ := Kf_cv h b
    unfold rcW
    rw [k1, k2]
    by_cases q : nI (s + m - i) < w
    · simp only [if_pos q]; exact ⟨trivial, trivial, h⟩
    · simp only [if_neg q]
      rw [k4]
      exact rcW_cv d (i + 1) _ (k5 _ _)
theorem okR_cv {a : AA} {n : Nat} : ∀ (d i : Nat) {b : AA} {u v : VV}, eqV u v → okR a n d i b v → okR a n d i b u
  | 0, _, _, _, _, _, _ => trivial
  | d + 1, i, b, u, v, h, ho => by
    obtain ⟨k1, k2, k3, k4, k5⟩ := Kf_cv h b
    unfold okR
    rw [k1, k2, k3, k4]
    exact ⟨ho.1, okR_cv d (i + 1) (k5 _ _) ho.2⟩
theorem rcW_J {w : Int32} {a : AA} {n m : Nat} : ∀ (d i s : Nat) (b : AA) (u : VV), (rcW w a n m d i s b u).2.1 0 = b 0 ∧ (rcW w a n m d i s b u).2.1 1 = b 1 ∧ (rcW w a n m d i s b u).2.1 2 = b 2 ∧ (rcW w a n m d i s b u).2.2 8 = u 8 ∧ (rcW w a n m d i s b u).2.2 9 = u 9 ∧ (rcW w a n m d i s b u).2.2 10 = u 10
  | 0, _, _, _, _ => ⟨rfl, rfl, rfl, rfl, rfl, rfl⟩
  | d + 1, i, s, b, u => by
    unfold rcW
    by_cases q : nI (s + m - i) < w
    · simp only [if_pos q]; exact ⟨trivial, trivial, trivial, trivial, trivial, trivial⟩
    · simp only [if_neg q]
      exact rcW_J d (i + 1) _ _ _
set_option maxRecDepth 4000 in
theorem l_like (G : GG) (hh0 : HH) {a : AA} {v : VV} {n : Nat} (hn : n ≤ 6) (hv : v 8 = nI n) {m : Nat} (hm : m ≤ 20) (hc : v 14 = nI m) (y : Int32) (hok : ∀ k, 1 ≤ k → k ≤ 300 → okR a n m 0 (sealA a) (sealV v (nI k))) : ∀ (d k : Nat) (a3 : AA) (v3 : VV) (hh : HH), k + d = 301 → 1 ≤ k → hAt G hh 0 (cwO G) → StAt G hh 32 a v → StAt G hh 41 a3 v3 → sameJ a v a3 v3 → Fr 41 50 hh0 hh → RR G mX4_like 53 [(0, .ref (ad G 0)), (1, .int y), (2, .int (nI k))] [] hh (fun r h1 => ∃ w, r = some (.int w) ∧ (w = lkL a v n m y d k ∧ (∃ a3 v3, StAt G h1 41 a3 v3) ∧ Fr 41 50 hh0 h1)) := by
  intro d
  induction d with
  | zero =>
    intro k a3 v3 hh hk hk1 hC nw fo hsj hF
    refine R_iload_n dX4_like_53 rfl ?_
    refine R_sipush (v := 300) dX4_like_54 (by decide) ?_
    refine R_icmp_gt (tgt := 78) dX4_like_57 (by decide) (fun c57 => ?_) (fun c57 => absurd (nI_lt (a := 300) (by omega) (by omega)) c57)
    refine R_iconst (v := (-1)) dX4_like_78 (by decide) ?_
    exact R_iret dX4_like_79 rfl (⟨_, rfl, rfl, ⟨_, _, fo⟩, hF⟩)
  | succ d ih =>
    intro k a3 v3 hh hk hk1 hC nw fo hsj hF
    refine R_iload_n dX4_like_53 rfl ?_
    refine R_sipush (v := 300) dX4_like_54 (by decide) ?_
    refine R_icmp_gt (tgt := 78) dX4_like_57 (by decide) (fun c57 => absurd c57 (nI_nlt (a := 300) (b := k) (by omega) (by omega))) (fun c57 => ?_)
    refine R_aload_n dX4_like_60 rfl ?_
    refine R_iload_n dX4_like_61 rfl ?_
    refine R_iload_n dX4_like_62 rfl ?_
    refine R_callVi dX4_like_63 cv_X4_202 ⟨by decide, by decide⟩ (w_recountBy G hh hC nw fo hm hc hn (hsj.2.2.2.1.trans hv) (nI k) y (okR_cg m 0 (sealA_cg hsj) (okR_cv m 0 (eqV.seal hsj (nI k)) (hok k (by omega) (by omega))))) hC rfl rfl rfl (Nat.le_of_ble_eq_true rfl) (fun w hh hw => ?_)
    obtain ⟨rfl, ⟨g, fo⟩, hF1⟩ := hw
    have hF := hF.tr hF1 (by omega) (by omega)
    have hC := hAt.fr hC hF1 (by omega)
    have nw := nw.fr hF1 (by omega)
    have eR : (rcW y a n m m 0 0 (sealA a3) (sealV v3 (nI k))).1 = (rcF y a v n m (nI k)).1 := ((rcW_cg m 0 0 (sealA_cg hsj)).1).trans (rcW_cv m 0 0 (eqV.seal hsj (nI k))).1
    have hJ := rcW_J (w := y) (a := a) (n := n) (m := m) m 0 0 (sealA a3) (sealV v3 (nI k))
    have hsj : sameJ a v (va_up (rcW y a n m m 0 0 (sealA a3) (sealV v3 (nI k))).2.1 7 g) (rcW y a n m m 0 0 (sealA a3) (sealV v3 (nI k))).2.2 := ⟨hJ.1.trans hsj.1, hJ.2.1.trans hsj.2.1, hJ.2.2.1.trans hsj.2.2.1, hJ.2.2.2.1.trans hsj.2.2.2.1, hJ.2.2.2.2.1.trans hsj.2.2.2.2.1, hJ.2.2.2.2.2.trans hsj.2.2.2.2.2⟩
    rw [eR]
    refine R_iload_n dX4_like_66 rfl ?_
    refine R_icmp_lt (tgt := 72) dX4_like_67 (by decide) (fun c67 => ?_) (fun c67 => ?_)
    · refine R_iinc (y := nI (k + 1)) dX4_like_72 rfl (by decide) (nI_s k) ?_
      refine R_goto (tgt := 53) dX4_like_75 (by decide) ?_
      rw [show lkL a v n m y (d + 1) k = lkL a v n m y d (k + 1) from if_neg (Int32.not_le.mpr c67)]
      exact RR.pick [1, 2, 0] rfl (ih (k + 1) _ _ hh (by omega) (by omega) hC nw fo hsj hF)
    · refine R_iload_n dX4_like_70 rfl ?_
      exact R_iret dX4_like_71 rfl (⟨_, rfl, by (show _ = (if _ then _ else _); rw [if_pos (Int32.not_lt.mp c67)]), ⟨_, _, fo⟩, hF⟩)
set_option maxRecDepth 4000 in
theorem w_like (G : GG) (hh : HH)  {a : AA} {v : VV} {a3 : AA} {v3 : VV} (hC : hAt G hh 0 (cwO G)) (nw : StAt G hh 32 a v) (fo : StAt G hh 41 a3 v3) {n : Nat} (hn : n ≤ 6) (hv : v 8 = nI n) {m : Nat} (hm : m ≤ 20) (hc : v 14 = nI m) (y : Int32) (hok : erLike a v n m y = none → ∀ k, 1 ≤ k → k ≤ 300 → okR a n m 0 (sealA a) (sealV v (nI k))) : EVi G mX4_like [.ref (ad G 0), .int y] hh (fun w h1 => match erLike a v n m y with | some e => w = e ∧ h1 = hh | none => w = lkL a v n m y 300 1 ∧ (∃ a3 v3, StAt G h1 41 a3 v3) ∧ Fr 41 50 hh h1) := by
  refine EV.of [(0, .ref (ad G 0)), (1, .int y)] (by decide +kernel) (Nat.le_of_ble_eq_true rfl) rfl ?_
  refine R_iload_n dX4_like_0 rfl ?_
  refine R_iconst (v := 1) dX4_like_1 (by decide) ?_
  refine R_icmp_lt (tgt := 11) dX4_like_2 (by decide) (fun c2 => ?_) (fun c2 => ?_)
  · refine R_bipush (v := (-3)) dX4_like_11 (by decide) ?_
    exact R_iret dX4_like_13 rfl (⟨_, rfl, by (have hE : erLike a v n m y = some (-3) := by (unfold erLike; rw [if_neg (fun q => absurd c2 (Int32.not_lt.mpr q.1))])); (rw [hE]); exact ⟨rfl, rfl⟩⟩)
  · refine R_iload_n dX4_like_5 rfl ?_
    refine R_bipush (v := 20) dX4_like_6 (by decide) ?_
    refine R_icmp_le (tgt := 14) dX4_like_8 (by decide) (fun c8 => ?_) (fun c8 => ?_)
    · refine R_aload_n dX4_like_14 rfl ?_
      refine R_get dX4_like_15 gf_X4_48 hC rfl ?_
      refine R_callVp dX4_like_18 cv_X4_198 ⟨by decide, by decide⟩ (e_everyCase G hh nw hn hv hm hc) nw.1 rfl rfl rfl (Nat.le_of_ble_eq_true rfl) ?_
      refine R_if_ne (tgt := 27) dX4_like_21 (by decide) (fun c21 => ?_) (fun c21 => ?_)
      · refine R_iload_n dX4_like_27 rfl ?_
        refine R_aload_n dX4_like_28 rfl ?_
        refine R_get dX4_like_29 gf_X4_48 hC rfl ?_
        refine R_get dX4_like_32 gf_X4_138 nw.1 rfl ?_
        refine R_icmp_le (tgt := 40) dX4_like_35 (by decide) (fun c35 => ?_) (fun c35 => ?_)
        · have hE : erLike a v n m y = none := by (unfold erLike; rw [if_pos ⟨Int32.not_lt.mp c2, c8⟩, if_pos (bl_t c21), if_pos (by rw [← hc]; exact c35)])
          refine R_aload_n dX4_like_40 rfl ?_
          refine R_get dX4_like_41 gf_X4_51 hC rfl ?_
          refine R_aload_n dX4_like_44 rfl ?_
          refine R_get dX4_like_45 gf_X4_48 hC rfl ?_
          refine R_callVv dX4_like_48 cv_X4_84 ⟨by decide, by decide⟩ (e_copyFrom G hh fo nw (by omega)) fo.1 rfl rfl rfl (Nat.le_of_ble_eq_true rfl) (fun hh hw => ?_)
          obtain ⟨fo, hF⟩ := hw
          have hC := hAt.fr hC hF (by omega)
          have nw := nw.fr hF (by omega)
          refine R_iconst (v := 1) dX4_like_51 (by decide) ?_
          refine R_istore_n dX4_like_52 (by decide) ?_
          rw [hE]
          refine RR.pick [1, 2, 0] rfl (RR.post (l_like G _ hn hv hm hc y (hok hE) 300 1 _ _ hh (by omega) (by omega) hC nw fo ⟨rfl, rfl, rfl, rfl, rfl, rfl⟩ hF) (fun r h1 hq => hq))
        · refine R_iconst (v := (-1)) dX4_like_38 (by decide) ?_
          exact R_iret dX4_like_39 rfl (⟨_, rfl, by (have hE : erLike a v n m y = some (-1) := by (unfold erLike; rw [if_pos ⟨Int32.not_lt.mp c2, c8⟩, if_pos (bl_t c21), if_neg (by rw [← hc]; exact c35)])); (rw [hE]); exact ⟨rfl, rfl⟩⟩)
      · refine R_bipush (v := (-4)) dX4_like_24 (by decide) ?_
        exact R_iret dX4_like_26 rfl (⟨_, rfl, by (have hE : erLike a v n m y = some (-4) := by (unfold erLike; rw [if_pos ⟨Int32.not_lt.mp c2, c8⟩, if_neg (bl_n c21)])); (rw [hE]); exact ⟨rfl, rfl⟩⟩)
    · refine R_bipush (v := (-3)) dX4_like_11 (by decide) ?_
      exact R_iret dX4_like_13 rfl (⟨_, rfl, by (have hE : erLike a v n m y = some (-3) := by (unfold erLike; rw [if_neg (fun q => c8 q.2)])); (rw [hE]); exact ⟨rfl, rfl⟩⟩)
set_option maxRecDepth 4000 in
theorem w_readText (G : GG) (hh : HH)  {tf : Nat → Int32} {tL : Nat} {rk re rc : Int32} {rs : Nat} {a1 : AA} {v1 : VV} {a2 : AA} {v2 : VV} (hC : hAt G hh 0 (cwO G)) (t : LeAt G hh 1 200 tf (nI tL)) (htL : tL ≤ 200) (rd : RdAt G hh 13 1 rk (nI rs) re rc) (aT : StAt G hh 14 a1 v1) (aR : StAt G hh 23 a2 v2) {n1 : Nat} (hn1 : n1 ≤ 6) (hv1 : v1 8 = nI n1) : EVi G mX4_readText [.ref (ad G 0)] hh (fun y h1 => y = (rdL tf tL 24 rs 0 (va_up a1 7 (a2 7)) v1 0).1 ∧ (∃ kd s1 e1, RdAt G h1 13 1 kd s1 e1 (nI (rdL tf tL 24 rs 0 (va_up a1 7 (a2 7)) v1 0).2.1)) ∧ StAt G h1 23 (rdL tf tL 24 rs 0 (va_up a1 7 (a2 7)) v1 0).2.2.1 (rdL tf tL 24 rs 0 (va_up a1 7 (a2 7)) v1 0).2.2.2 ∧ FrS [(13, 14), (23, 32)] hh h1) := by
  refine EV.of [(0, .ref (ad G 0))] (by decide +kernel) (Nat.le_of_ble_eq_true rfl) rfl ?_
  refine R_aload_n dX4_readText_0 rfl ?_
  refine R_get dX4_readText_1 gf_X4_45 hC rfl ?_
  refine R_aload_n dX4_readText_4 rfl ?_
  refine R_get dX4_readText_5 gf_X4_41 hC rfl ?_
  refine R_callVv dX4_readText_8 cv_X4_84 ⟨by decide, by decide⟩ (e_copyFrom G hh aR aT (by omega)) aR.1 rfl rfl rfl (Nat.le_of_ble_eq_true rfl) (fun hh hw => ?_)
  obtain ⟨aR, hF⟩ := hw
  have hC := hAt.fr hC hF (by omega)
  have t := t.fr hF (by omega)
  have rd := RdAt.fr rd hF (by omega)
  refine R_aload_n dX4_readText_11 rfl ?_
  refine R_get dX4_readText_12 gf_X4_34 hC rfl ?_
  refine R_aload_n dX4_readText_15 rfl ?_
  refine R_get dX4_readText_16 gf_X4_45 hC rfl ?_
  refine R_callVi dX4_readText_19 cv_X4_265 ⟨by decide, by decide⟩ (e_readInto G hh rd t aR htL (by omega) (by omega) (by omega) (by omega) hn1 hv1) rd rfl rfl rfl (Nat.le_of_ble_eq_true rfl) (fun y hh hw => ?_)
  obtain ⟨rfl, hrd, aR, hF1⟩ := hw
  exact R_iret dX4_readText_22 rfl (⟨_, rfl, rfl, hrd, aR, fun i q => (hF1 i (by have := q (13, 14) (by simp); omega) (by have := q (23, 32) (by simp); omega)).trans (hF i (by have := q (23, 32) (by simp); omega))⟩)
set_option maxRecDepth 4000 in
theorem w_fault (G : GG) (hh : HH)  {tf : Nat → Int32} {tL : Nat} {rk re rc : Int32} {rs : Nat} {a1 : AA} {v1 : VV} {a2 : AA} {v2 : VV} (hC : hAt G hh 0 (cwO G)) (t : LeAt G hh 1 200 tf (nI tL)) (htL : tL ≤ 200) (rd : RdAt G hh 13 1 rk (nI rs) re rc) (aT : StAt G hh 14 a1 v1) (aR : StAt G hh 23 a2 v2) {n1 : Nat} (hn1 : n1 ≤ 6) (hv1 : v1 8 = nI n1) : EVi G mX4_fault [.ref (ad G 0)] hh (fun y h1 => y = (rdL tf tL 24 rs 0 (va_up a1 7 (a2 7)) v1 0).1 ∧ (∃ kd s1 e1, RdAt G h1 13 1 kd s1 e1 (nI (rdL tf tL 24 rs 0 (va_up a1 7 (a2 7)) v1 0).2.1)) ∧ StAt G h1 23 (rdL tf tL 24 rs 0 (va_up a1 7 (a2 7)) v1 0).2.2.1 (rdL tf tL 24 rs 0 (va_up a1 7 (a2 7)) v1 0).2.2.2 ∧ FrS [(13, 14), (23, 32)] hh h1) := by
  refine EV.of [(0, .ref (ad G 0))] (by decide +kernel) (Nat.le_of_ble_eq_true rfl) rfl ?_
  refine R_aload_n dX4_fault_0 rfl ?_
  refine R_callVi dX4_fault_1 cv_X4_80 ⟨by decide, by decide⟩ (w_readText G hh hC t htL rd aT aR hn1 hv1) hC rfl rfl rfl (Nat.le_of_ble_eq_true rfl) (fun y hh hw => ?_)
  obtain ⟨rfl, ⟨kd, s1, e1, rd⟩, aR, hF⟩ := hw
  exact R_iret dX4_fault_4 rfl (⟨_, rfl, rfl, ⟨kd, s1, e1, rd⟩, aR, hF⟩)
theorem hAt.frs {G : GG} {l : List (Nat × Nat)} {k : Nat} {hh hh' : HH} {e : va_E} (h : hAt G hh k e) (hF : FrS l hh hh') (hk : ∀ p ∈ l, k < p.1 ∨ p.2 ≤ k) : hAt G hh' k e := ⟨h.1, (hF k hk).trans h.2⟩
theorem FrS.sub {l l' : List (Nat × Nat)} {h1 h2 : HH} (h : FrS l h1 h2) (hs : ∀ p ∈ l, ∃ p' ∈ l', p'.1 ≤ p.1 ∧ p.2 ≤ p'.2) : FrS l' h1 h2 := fun i hi => h i (fun p hp => by obtain ⟨p', a, b, c⟩ := hs p hp; have := hi p' a; omega)
theorem FrS.fr {l : List (Nat × Nat)} {lo hi : Nat} {h1 h2 : HH} (h : FrS l h1 h2) (hs : ∀ p ∈ l, lo ≤ p.1 ∧ p.2 ≤ hi) : Fr lo hi h1 h2 := fun i hi => h i (fun p hp => by have := hs p hp; omega)
theorem StAt.frs {G : GG} {l : List (Nat × Nat)} {k : Nat} {a : AA} {v : VV} {hh hh' : HH} (h : StAt G hh k a v) (hF : FrS l hh hh') (hk : ∀ p ∈ l, k + 9 ≤ p.1 ∨ p.2 ≤ k) : StAt G hh' k a v := ⟨h.1.frs hF (fun p hp => by have := hk p hp; omega), h.a0.frs hF (fun p hp => by have := hk p hp; omega), h.a1.frs hF (fun p hp => by have := hk p hp; omega), h.a2.frs hF (fun p hp => by have := hk p hp; omega), h.a3.frs hF (fun p hp => by have := hk p hp; omega), h.a4.frs hF (fun p hp => by have := hk p hp; omega), h.a5.frs hF (fun p hp => by have := hk p hp; omega), h.a6.frs hF (fun p hp => by have := hk p hp; omega), h.a7.frs hF (fun p hp => by have := hk p hp; omega)⟩
set_option maxRecDepth 4000 in
theorem w_wheel (G : GG) (hh : HH)  {tf : Nat → Int32} {tL : Nat} {rk re rc : Int32} {rs : Nat} {a1 : AA} {v1 : VV} {a2 : AA} {v2 : VV} {a : AA} {v : VV} {x z : Nat} {kb : Nat → Bool} {b : Nat → Bool} (hC : hAt G hh 0 (cwO G)) (t : LeAt G hh 1 200 tf (nI tL)) (htL : tL ≤ 200) (rd : RdAt G hh 13 1 rk (nI rs) re rc) (aT : StAt G hh 14 a1 v1) (aR : StAt G hh 23 a2 v2) (nw : StAt G hh 32 a v) (ho : HoAt G hh 50 (nI x) (nI z)) (hx : x < 8) (hz : z ≤ 8) (ik : hAt G hh 143 (eZ G 2 (fun i => bl (kb i)))) (th : hAt G hh 12 (eZ G 3 (fun i => bl (b i)))) {n1 : Nat} (hn1 : n1 ≤ 6) (hv1 : v1 8 = nI n1) : EVi G mX4_wheel [.ref (ad G 0)] hh (fun y h1 => if (rdL tf tL 24 rs 0 (va_up a1 7 (a2 7)) v1 0).1 = -1 then y = nI (rdL tf tL 24 rs 0 (va_up a1 7 (a2 7)) v1 0).2.1 ∧ LeAt G h1 1 200 tf (nI 0) ∧ (∃ kd s1 e1 c1, RdAt G h1 13 1 kd s1 e1 c1) ∧ (∃ g, StAt G h1 14 (va_up (rdL tf tL 24 rs 0 (va_up a1 7 (a2 7)) v1 0).2.2.1 7 g) (rdL tf tL 24 rs 0 (va_up a1 7 (a2 7)) v1 0).2.2.2) ∧ (∃ a2 v2, StAt G h1 23 a2 v2) ∧ (∃ g, StAt G h1 32 (va_up (rdL tf tL 24 rs 0 (va_up a1 7 (a2 7)) v1 0).2.2.1 7 g) (rdL tf tL 24 rs 0 (va_up a1 7 (a2 7)) v1 0).2.2.2) ∧ HoAt G h1 50 (nI x) 0 ∧ hAt G h1 143 (eZ G 2 (fun i => bl ((fun _ => false : Nat → Bool) i))) ∧ hAt G h1 12 (eZ G 3 (fun i => bl ((fun _ => false : Nat → Bool) i))) ∧ FrS [(1, 3), (12, 41), (50, 51), (143, 144)] hh h1 else y = -4 ∧ (∃ kd s1 e1 c1, RdAt G h1 13 1 kd s1 e1 c1) ∧ (∃ a2 v2, StAt G h1 23 a2 v2) ∧ FrS [(13, 14), (23, 32)] hh h1) := by
  refine EV.of [(0, .ref (ad G 0))] (by decide +kernel) (Nat.le_of_ble_eq_true rfl) rfl ?_
  refine R_aload_n dX4_wheel_0 rfl ?_
  refine R_callVi dX4_wheel_1 cv_X4_80 ⟨by decide, by decide⟩ (w_readText G hh hC t htL rd aT aR hn1 hv1) hC rfl rfl rfl (Nat.le_of_ble_eq_true rfl) (fun y hh hw => ?_)
  obtain ⟨rfl, ⟨kd, s1, e1, rd⟩, aR, hF0⟩ := hw
  have hF1 : Fr 13 32 _ hh := hF0.fr (by decide)
  have hC := hAt.frs hC hF0 (by decide)
  have t := t.fr hF1 (by omega)
  have aT : StAt G hh 14 a1 v1 := aT.frs hF0 (by intro p hp; simp only [List.mem_cons, List.not_mem_nil, or_false] at hp; rcases hp with rfl | rfl <;> (dsimp only; omega))
  have nw := nw.fr hF1 (by omega)
  have ho := HoAt.fr ho hF1 (by omega)
  have ik := hAt.fr ik hF1 (by omega)
  have th := hAt.fr th hF1 (by omega)
  have hF : FrS [(1, 3), (12, 41), (50, 51), (143, 144)] _ hh := hF0.sub (by decide)
  refine R_iconst (v := (-1)) dX4_wheel_4 (by decide) ?_
  refine R_icmp_eq (tgt := 11) dX4_wheel_5 (by decide) (fun c5 => ?_) (fun c5 => ?_)
  · refine R_aload_n dX4_wheel_11 rfl ?_
    refine R_get dX4_wheel_12 gf_X4_41 hC rfl ?_
    refine R_aload_n dX4_wheel_15 rfl ?_
    refine R_get dX4_wheel_16 gf_X4_45 hC rfl ?_
    refine R_callVv dX4_wheel_19 cv_X4_84 ⟨by decide, by decide⟩ (e_copyFrom G hh aT aR (by omega)) aT.1 rfl rfl rfl (Nat.le_of_ble_eq_true rfl) (fun hh hw => ?_)
    obtain ⟨aT, hF1⟩ := hw
    have hF := hF.t1 hF1 (by decide)
    have hC := hAt.fr hC hF1 (by omega)
    have t := t.fr hF1 (by omega)
    have rd := RdAt.fr rd hF1 (by omega)
    have aR := aR.fr hF1 (by omega)
    have nw := nw.fr hF1 (by omega)
    have ho := HoAt.fr ho hF1 (by omega)
    have ik := hAt.fr ik hF1 (by omega)
    have th := hAt.fr th hF1 (by omega)
    refine R_aload_n dX4_wheel_22 rfl ?_
    refine R_get dX4_wheel_23 gf_X4_48 hC rfl ?_
    refine R_aload_n dX4_wheel_26 rfl ?_
    refine R_get dX4_wheel_27 gf_X4_41 hC rfl ?_
    refine R_callVv dX4_wheel_30 cv_X4_84 ⟨by decide, by decide⟩ (e_copyFrom G hh nw aT (by omega)) nw.1 rfl rfl rfl (Nat.le_of_ble_eq_true rfl) (fun hh hw => ?_)
    obtain ⟨nw, hF1⟩ := hw
    have hF := hF.t1 hF1 (by decide)
    have hC := hAt.fr hC hF1 (by omega)
    have t := t.fr hF1 (by omega)
    have rd := RdAt.fr rd hF1 (by omega)
    have aR := aR.fr hF1 (by omega)
    have aT := aT.fr hF1 (by omega)
    have ho := HoAt.fr ho hF1 (by omega)
    have ik := hAt.fr ik hF1 (by omega)
    have th := hAt.fr th hF1 (by omega)
    refine R_aload_n dX4_wheel_33 rfl ?_
    refine R_get dX4_wheel_34 gf_X4_57 hC rfl ?_
    refine R_callVv dX4_wheel_37 cv_X4_88 ⟨by decide, by decide⟩ (e_forget G hh ho) ho rfl rfl rfl (Nat.le_of_ble_eq_true rfl) (fun hh hw => ?_)
    obtain ⟨ho, hF1⟩ := hw
    have hF := hF.t1 hF1 (by decide)
    have hC := hAt.fr hC hF1 (by omega)
    have t := t.fr hF1 (by omega)
    have rd := RdAt.fr rd hF1 (by omega)
    have aR := aR.fr hF1 (by omega)
    have aT := aT.fr hF1 (by omega)
    have nw := nw.fr hF1 (by omega)
    have ik := hAt.fr ik hF1 (by omega)
    have th := hAt.fr th hF1 (by omega)
    refine R_aload_n dX4_wheel_40 rfl ?_
    refine R_callVv dX4_wheel_41 cv_X4_91 ⟨by decide, by decide⟩ (w_forgetKept G hh hC ik) hC rfl rfl rfl (Nat.le_of_ble_eq_true rfl) (fun hh hw => ?_)
    obtain ⟨ik, hF1⟩ := hw
    have hF := hF.t1 hF1 (by decide)
    have hC := hAt.fr hC hF1 (by omega)
    have t := t.fr hF1 (by omega)
    have rd := RdAt.fr rd hF1 (by omega)
    have aR := aR.fr hF1 (by omega)
    have aT := aT.fr hF1 (by omega)
    have nw := nw.fr hF1 (by omega)
    have ho := HoAt.fr ho hF1 (by omega)
    have th := hAt.fr th hF1 (by omega)
    refine R_aload_n dX4_wheel_44 rfl ?_
    refine R_callVv dX4_wheel_45 cv_X4_94 ⟨by decide, by decide⟩ (w_dropAll G hh hC th) hC rfl rfl rfl (Nat.le_of_ble_eq_true rfl) (fun hh hw => ?_)
    obtain ⟨th, hF1⟩ := hw
    have hF := hF.t1 hF1 (by decide)
    have hC := hAt.fr hC hF1 (by omega)
    have t := t.fr hF1 (by omega)
    have rd := RdAt.fr rd hF1 (by omega)
    have aR := aR.fr hF1 (by omega)
    have aT := aT.fr hF1 (by omega)
    have nw := nw.fr hF1 (by omega)
    have ho := HoAt.fr ho hF1 (by omega)
    have ik := hAt.fr ik hF1 (by omega)
    refine R_aload_n dX4_wheel_48 rfl ?_
    refine R_get dX4_wheel_49 gf_X4_14 hC rfl ?_
    refine R_iconst (v := 0) dX4_wheel_52 (by decide) ?_
    refine Le_put1 dX4_wheel_53 pf_X4_72 t (fun hh t hF1 => ?_)
    have hF := hF.t1 hF1 (by decide)
    have hC := hAt.fr hC hF1 (by omega)
    have rd := RdAt.fr rd hF1 (by omega)
    have aT := aT.fr hF1 (by omega)
    have aR := aR.fr hF1 (by omega)
    have nw := nw.fr hF1 (by omega)
    have ho := HoAt.fr ho hF1 (by omega)
    have ik := hAt.fr ik hF1 (by omega)
    have th := hAt.fr th hF1 (by omega)
    refine R_aload_n dX4_wheel_56 rfl ?_
    refine R_get dX4_wheel_57 gf_X4_34 hC rfl ?_
    refine R_get dX4_wheel_60 gf_X4_97 rd rfl ?_
    exact R_iret dX4_wheel_63 rfl (⟨_, rfl, by (show (if _ then _ else _); rw [if_pos c5]); exact ⟨rfl, t, ⟨_, _, _, _, rd⟩, ⟨_, aT.cgv (a' := va_up (rdL tf tL 24 rs 0 (va_up a1 7 (a2 7)) v1 0).2.2.1 7 _) (fun j hj => by rcases (show j = 0 ∨ j = 1 ∨ j = 2 ∨ j = 3 ∨ j = 4 ∨ j = 5 ∨ j = 6 ∨ j = 7 by omega) with rfl | rfl | rfl | rfl | rfl | rfl | rfl | rfl <;> rfl) (fun _ _ _ => rfl)⟩, ⟨_, _, aR⟩, ⟨_, nw.cgv (a' := va_up (rdL tf tL 24 rs 0 (va_up a1 7 (a2 7)) v1 0).2.2.1 7 _) (fun j hj => by rcases (show j = 0 ∨ j = 1 ∨ j = 2 ∨ j = 3 ∨ j = 4 ∨ j = 5 ∨ j = 6 ∨ j = 7 by omega) with rfl | rfl | rfl | rfl | rfl | rfl | rfl | rfl <;> rfl) (fun _ _ _ => rfl)⟩, ho, ik, th, hF⟩⟩)
  · refine R_bipush (v := (-4)) dX4_wheel_8 (by decide) ?_
    exact R_iret dX4_wheel_10 rfl (⟨_, rfl, by (show (if _ then _ else _); rw [if_neg c5]); exact ⟨rfl, ⟨_, _, _, _, rd⟩, ⟨_, _, aR⟩, hF0⟩⟩)
