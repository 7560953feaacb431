/-- what the class was told (c, u) beside the reference's row, strengths, versed, number of judges, rule -/
def Tl (n : Nat) (c : AA) (u : VV) (r st ve : Nat → Int32) (jn ru : Int32) : Prop :=
  n ≤ 6 ∧ u 8 = nI n ∧ jn = nI n ∧ (∀ j, j < n → c 0 j = st j ∧ c 1 j = ve j ∧ c 2 j = r (5 + j) ∧ c 3 j = 0 ∧ 1 ≤ st j ∧ st j ≤ 9) ∧ (∀ j, n ≤ j → j < 6 → r (5 + j) = 0) ∧ (∀ j, j < 6 → r (11 + j) = 0) ∧ u 9 = r 4 ∧ u 10 = ru ∧ ruleOK ru ∧ (u 11 = 1 ∧ u 12 = 1 ∧ u 13 = 0 ∧ u 14 = 0) ∧ (r 0 = 1 ∧ r 1 = 1 ∧ r 2 = 0 ∧ r 3 = 0)
def kpM (a : AA) (v : VV) (a' : AA) (v' : VV) : Prop := (∀ f, f ≠ 0 → f ≠ 3 → f ≠ 4 → f ≠ 16 → a' f = a f) ∧ (∀ j, (j < 4 ∨ 10 < j) → a' 0 j = a 0 j) ∧ (∀ i, i ≠ 1 → i ≠ 2 → i ≠ 11 → i ≠ 12 → i ≠ 13 → v' i = v i)
def sdM (a : AA) (v : VV) (a' : AA) (v' : VV) : Prop := a' 0 = a 0 ∧ a' 3 = a 3 ∧ a' 4 = a 4 ∧ v' 1 = v 1 ∧ v' 2 = v 2
theorem kpM.rf {a : AA} {v : VV} : kpM a v a v := ⟨fun _ _ _ _ _ => rfl, fun _ _ => rfl, fun _ _ _ _ _ _ => rfl⟩
theorem kpM.tr {a a' a'' : AA} {v v' v'' : VV} (h : kpM a v a' v') (h' : kpM a' v' a'' v'') : kpM a v a'' v'' := ⟨fun f h1 h2 h3 h4 => (h'.1 f h1 h2 h3 h4).trans (h.1 f h1 h2 h3 h4), fun j hj => (h'.2.1 j hj).trans (h.2.1 j hj), fun i h1 h2 h3 h4 h5 => (h'.2.2 i h1 h2 h3 h4 h5).trans (h.2.2 i h1 h2 h3 h4 h5)⟩
theorem sdM.rf {a : AA} {v : VV} : sdM a v a v := ⟨rfl, rfl, rfl, rfl, rfl⟩
theorem sdM.tr {a a' a'' : AA} {v v' v'' : VV} (h : sdM a v a' v') (h' : sdM a' v' a'' v'') : sdM a v a'' v'' := ⟨h'.1.trans h.1, h'.2.1.trans h.2.1, h'.2.2.1.trans h.2.2.1, h'.2.2.2.1.trans h.2.2.2.1, h'.2.2.2.2.trans h.2.2.2.2⟩
theorem kp_N (a : AA) (v : VV) (N : Nat → Int32) (s e : Nat) : kpM a v (va_up a 16 N) (vfb v s e) := ⟨fun f _ _ _ h => by simp [va_up, h], fun j _ => rfl, fun i _ _ h1 h2 _ => by simp [vfb, va_up, h1, h2]⟩
theorem kp_13 (a : AA) (v : VV) (N : Nat → Int32) (s e : Nat) (x : Int32) : kpM a v (va_up a 16 N) (va_up (vfb v s e) 13 x) := ⟨fun f _ _ _ h => by simp [va_up, h], fun j _ => rfl, fun i _ _ h1 h2 h3 => by simp [vfb, va_up, h1, h2, h3]⟩
theorem kp_r {a a' : AA} {v v' : VV} (h : kpM a v a' v') {r : Nat → Int32} (hr : ∀ j, (j < 4 ∨ 10 < j) → r j = a' 0 j) : kpM a v (va_up a' 0 r) v' := ⟨fun f h0 h1 h2 h3 => by rw [show va_up a' 0 r f = a' f from if_neg h0]; exact h.1 f h0 h1 h2 h3, fun j hj => (hr j hj).trans (h.2.1 j hj), h.2.2⟩
theorem kp_3 {a a' : AA} {v v' : VV} (h : kpM a v a' v') (r : Nat → Int32) : kpM a v (va_up a' 3 r) v' := ⟨fun f h0 h1 h2 h3 => by rw [show va_up a' 3 r f = a' f from if_neg h1]; exact h.1 f h0 h1 h2 h3, h.2.1, h.2.2⟩
theorem kp_4 {a a' : AA} {v v' : VV} (h : kpM a v a' v') (r : Nat → Int32) : kpM a v (va_up a' 4 r) v' := ⟨fun f h0 h1 h2 h3 => by rw [show va_up a' 4 r f = a' f from if_neg h2]; exact h.1 f h0 h1 h2 h3, h.2.1, h.2.2⟩
theorem kp_v1 {a a' : AA} {v v' : VV} (h : kpM a v a' v') (x : Int32) : kpM a v a' (va_up v' 1 x) := ⟨h.1, h.2.1, fun i h1 h2 h3 h4 h5 => by rw [show va_up v' 1 x i = v' i from if_neg h1]; exact h.2.2 i h1 h2 h3 h4 h5⟩
theorem kp_v2 {a a' : AA} {v v' : VV} (h : kpM a v a' v') (x : Int32) : kpM a v a' (va_up v' 2 x) := ⟨h.1, h.2.1, fun i h1 h2 h3 h4 h5 => by rw [show va_up v' 2 x i = v' i from if_neg h2]; exact h.2.2 i h1 h2 h3 h4 h5⟩
theorem nmT_rg {f : Nat → Int32} {L s : Nat} {lo hi : Int32} (h : ¬ nmT f L s lo hi = -1) : lo ≤ nmT f L s lo hi ∧ nmT f L s lo hi ≤ hi := by
  revert h
  unfold nmT numW
  generalize (if tkK f L s = 2 then numOf f s (tkE f L s) 2 else -1) = x
  intro h
  by_cases q : x < lo ∨ hi < x
  · simp only [if_pos q] at h; exact absurd trivial h
  · simp only [if_neg q]
    exact ⟨Int32.not_lt.mp (fun z => q (Or.inl z)), Int32.not_lt.mp (fun z => q (Or.inr z))⟩
theorem nm_ix {f : Nat → Int32} {L s n : Nat} (hn : n ≤ 6) (h : ¬ nmT f L s 0 (nI n - 1) = -1) : ∃ j, j < n ∧ nmT f L s 0 (nI n - 1) = nI j := by
  obtain ⟨h1, h2⟩ := nmT_rg h
  revert h1 h2
  generalize nmT f L s 0 (nI n - 1) = x
  intro h1 h2
  have p := pred_toInt (n := n) (by omega)
  rw [Int32.toInt_toInt64] at p
  have h2 := Int32.le_iff_toInt_le.mp h2
  have h1' := Int32.le_iff_toInt_le.mp h1
  rw [p] at h2
  have h1'' : (0 : Int) ≤ x.toInt := h1'
  exact ix_in (by omega) (Int32.not_lt.mpr h1) (Int32.lt_iff_toInt_lt.mpr (by rw [nI_toInt (by omega)]; omega))
theorem rlT_ok {f : Nat → Int32} {L s : Nat} (h : ¬ rlT f L s = -1) : ruleOK (rlT f L s) := by
  rw [← fwd_rul] at h ⊢
  have e : fwd f L s 0 4 = (if wdT f L s (wix 0) = true then nI 0 else if wdT f L s (wix 1) = true then nI 1 else if wdT f L s (wix 2) = true then nI 2 else if wdT f L s (wix 3) = true then nI 3 else -1) := rfl
  rw [e] at h ⊢
  split at h
  · rename_i q; rw [if_pos q]; exact Or.inl rfl
  · rename_i q; rw [if_neg q]
    split at h
    · rename_i q; rw [if_pos q]; exact Or.inr (Or.inl rfl)
    · rename_i q; rw [if_neg q]
      split at h
      · rename_i q; rw [if_pos q]; exact Or.inr (Or.inr (Or.inl rfl))
      · rename_i q; rw [if_neg q]
        split at h
        · rename_i q; rw [if_pos q]; exact Or.inr (Or.inr (Or.inr rfl))
        · exact absurd rfl h
theorem anR_o {r : Nat → Int32} {j : Nat} (h : j < 4 ∨ 10 < j) : anR r j = r j := by
  unfold anR zrF upd
  rw [if_neg (by omega), if_neg (by omega)]
theorem Tl.w4 {n : Nat} {c : AA} {u : VV} {r st ve : Nat → Int32} {jn ru : Int32} (h : Tl n c u r st ve jn ru) : Tl 0 (sealA c) (clrV u) (anR r) st ve 0 0 := by
  obtain ⟨h1, h2, h3, h4, h5, h6, h7, h8, h9, h10, h11⟩ := h
  refine ⟨by omega, rfl, rfl, fun j hj => by omega, fun j _ hj => ?_, fun j hj => ?_, ?_, rfl, Or.inl rfl, ⟨rfl, rfl, rfl, rfl⟩, ?_⟩
  · unfold anR zrF; rw [if_pos (by omega)]
  · rw [anR_o (by omega)]; exact h6 j hj
  · rfl
  · rw [anR_o (by omega), anR_o (by omega), anR_o (by omega), anR_o (by omega)]; exact h11
theorem Tl.w5 {n : Nat} {c : AA} {u : VV} {r st ve : Nat → Int32} {jn ru : Int32} (h : Tl n c u r st ve jn ru) (hn : n < 6) {x w : Int32} (hx : 1 ≤ x ∧ x ≤ 9) : Tl (n + 1) (ajA c n x w) (va_up u 8 (nI (n + 1))) r (upd st n x) (upd ve n w) (nI (n + 1)) ru := by
  obtain ⟨h1, h2, h3, h4, h5, h6, h7, h8, h9, h10, h11⟩ := h
  refine ⟨by omega, rfl, rfl, fun j hj => ?_, fun j g1 g2 => h5 j (by omega) g2, h6, h7, h8, h9, h10, h11⟩
  show upd (c 0) n x j = upd st n x j ∧ upd (c 1) n w j = upd ve n w j ∧ upd (c 2) n 0 j = r (5 + j) ∧ upd (c 3) n 0 j = 0 ∧ 1 ≤ upd st n x j ∧ upd st n x j ≤ 9
  unfold upd
  by_cases e : j = n
  · subst e
    rw [if_pos rfl, if_pos rfl, if_pos rfl, if_pos rfl, if_pos rfl, if_pos rfl]
    exact ⟨rfl, rfl, (h5 j (Nat.le_refl j) hn).symm, rfl, hx⟩
  · rw [if_neg e, if_neg e, if_neg e, if_neg e, if_neg e, if_neg e]
    exact h4 j (by omega)
theorem Tl.w6 {n : Nat} {c : AA} {u : VV} {r st ve : Nat → Int32} {jn ru : Int32} (h : Tl n c u r st ve jn ru) {j : Nat} (hj : j < n) (x : Int32) : Tl n (va_up c 2 (upd (c 2) j (c 2 j ||| x))) u (upd r (5 + j) (r (5 + j) ||| x)) st ve jn ru := by
  obtain ⟨h1, h2, h3, h4, h5, h6, h7, h8, h9, h10, h11⟩ := h
  have o : ∀ i, i ≠ 5 + j → upd r (5 + j) (r (5 + j) ||| x) i = r i := fun i hi => if_neg hi
  refine ⟨h1, h2, h3, fun i hi => ?_, fun i g1 g2 => ?_, fun i hi => ?_, ?_, h8, h9, h10, ?_⟩
  · obtain ⟨a1, a2, a3, a4⟩ := h4 i hi
    refine ⟨a1, a2, ?_, a4⟩
    show upd (c 2) j (c 2 j ||| x) i = upd r (5 + j) (r (5 + j) ||| x) (5 + i)
    unfold upd
    by_cases e : i = j
    · subst e; rw [if_pos rfl, if_pos rfl, a3]
    · rw [if_neg e, if_neg (by omega)]; exact a3
  · rw [o _ (by omega)]; exact h5 i g1 g2
  · rw [o _ (by omega)]; exact h6 i hi
  · rw [o _ (by omega)]; exact h7
  · rw [o _ (by omega), o _ (by omega), o _ (by omega), o _ (by omega)]; exact h11
theorem Tl.w7 {n : Nat} {c : AA} {u : VV} {r st ve : Nat → Int32} {jn ru : Int32} (h : Tl n c u r st ve jn ru) (x : Int32) : Tl n c (va_up u 9 (u 9 ||| x)) (upd r 4 (r 4 ||| x)) st ve jn ru := by
  obtain ⟨h1, h2, h3, h4, h5, h6, h7, h8, h9, h10, h11⟩ := h
  have o : ∀ i, i ≠ 4 → upd r 4 (r 4 ||| x) i = r i := fun i hi => if_neg hi
  refine ⟨h1, h2, h3, fun i hi => ?_, fun i g1 g2 => ?_, fun i hi => ?_, ?_, h8, h9, h10, ?_⟩
  · rw [o _ (by omega)]; exact h4 i hi
  · rw [o _ (by omega)]; exact h5 i g1 g2
  · rw [o _ (by omega)]; exact h6 i hi
  · show u 9 ||| x = r 4 ||| x; rw [h7]
  · rw [o _ (by omega), o _ (by omega), o _ (by omega), o _ (by omega)]; exact h11
theorem Tl.w8 {n : Nat} {c : AA} {u : VV} {r st ve : Nat → Int32} {jn ru : Int32} (h : Tl n c u r st ve jn ru) {x : Int32} (hx : ruleOK x) : Tl n c (va_up u 10 x) r st ve jn x := by
  obtain ⟨h1, h2, h3, h4, h5, h6, h7, h8, h9, h10, h11⟩ := h
  exact ⟨h1, h2, h3, h4, h5, h6, h7, rfl, hx, h10, h11⟩
abbrev TlM (n : Nat) (c : AA) (u : VV) (a : AA) (v : VV) : Prop := Tl n c u (a 0) (a 3) (a 4) (v 1) (v 2)
def rcP (G : GG) (hh : HH) (k : Nat) (a : AA) (v : VV) (L s n : Nat) (b : Bool) (y : Int32) (h1 : HH) : Prop := y = bl (mc (a 7) L s n).1 ∧ ∃ a' v', MdAt G h1 k a' v' ∧ Fr k (k + 11) hh h1 ∧ v' 11 = nI (mc (a 7) L s n).2.1 ∧ v' 12 = nI (tkE (a 7) L (mc (a 7) L s n).2.1) ∧ v' 13 = nI (mc (a 7) L s n).2.2 ∧ kpM a v a' v' ∧ (b = false → sdM a v a' v') ∧ (b = true → (mc (a 7) L s n).1 = true → ∀ c u, TlM n c u a v → TlM (mc (a 7) L s n).2.2 (clC (a 7) L s c u n).2.2.1 (clC (a 7) L s c u n).2.2.2 a' v')
theorem kp_N0 (a : AA) (v : VV) (s e : Nat) : kpM a v a (vfb v s e) := ⟨fun _ _ _ _ _ => rfl, fun j _ => rfl, fun i _ _ h1 h2 _ => by simp [vfb, va_up, h1, h2]⟩
theorem mc_r {f : Nat → Int32} {L s n w : Nat} (hw : wdI f L s = w) (h0 : ¬ w = 0) (h6 : ¬ (w = 5 ∧ n = 6)) : mc f L s n = ((rsT f L (nx f L s) n w).1, (rsT f L (nx f L s) n w).2.1, if (rsT f L (nx f L s) n w).1 = true then (if w = 4 then 0 else if w = 5 then n + 1 else n) else n) := by
  unfold mc
  rw [hw, if_neg (by rintro (q | q); exact h0 q; exact h6 q)]
set_option maxRecDepth 4000 in
theorem m_rc0 (G : GG) (hh : HH) {k : Nat} {a : AA} {v : VV} {L : Nat} (hL : L ≤ 200) (hl : v 8 = nI L) {s : Nat} (hs : s ≤ L) (h : MdAt G hh k a (vfb v s (tkE (a 7) L s))) {n : Nat} (hn : n ≤ 6) (hj : v 13 = nI n) {b : Bool} (hb : v 15 = bl b) (hbn : b = true → v 1 = nI n) (hW : ∀ j, j < 54 → a 17 j = wdA j) (hw : wdI (a 7) L s = 0) : EVi G mX5_readsClause [.ref (ad G k)] hh (rcP G hh k a v L s n b) := by
  refine EV.of [(0, .ref (ad G k))] (by decide +kernel) (Nat.le_of_ble_eq_true rfl) rfl ?_
  have hse := tkE_ge (a 7) L s
  have heL := tkE_le (a 7) hs
  have hF : Fr k (k + 11) hh hh := Fr.rf
  refine R_aload_n dX5_readsClause_0 rfl ?_
  refine R_iconst (v := 4) dX5_readsClause_1 (by decide) ?_
  refine R_bipush (v := 8) dX5_readsClause_2 (by decide) ?_
  refine R_callVp dX5_readsClause_4 cv_X5_97 ⟨by decide, by decide⟩ (m_wordOf G hh hL hl hs h hW (i := 4) (t := 8) (by decide) (by decide)) h.1 rfl rfl rfl (Nat.le_of_ble_eq_true rfl) ?_
  refine RR.top (y := -1) ((fwd_wd (a 7) L s).trans (if_pos hw)) ?_
  refine R_istore_n dX5_readsClause_7 (by decide) ?_
  refine R_iload_n dX5_readsClause_8 rfl ?_
  refine R_iconst (v := (-1)) dX5_readsClause_9 (by decide) ?_
  refine R_icmp_eq (tgt := 27) dX5_readsClause_10 (by decide) (fun c10 => ?_) (fun c10 => absurd rfl c10)
  refine R_iconst (v := 0) dX5_readsClause_27 (by decide) ?_
  exact R_zret dX5_readsClause_28 rfl (by first | exact Or.inl rfl | exact Or.inr rfl | assumption | exact bl01 _ | omega) (⟨_, rfl, by (have hM : mc (a 7) L s n = (false, s, n) := if_pos (Or.inl hw); unfold rcP; rw [hM]; exact ⟨rfl, _, _, h, hF, rfl, rfl, hj, kp_N0 a v s _, fun _ => ⟨rfl, rfl, rfl, rfl, rfl⟩, fun _ q9 => Bool.noConfusion q9⟩)⟩)
theorem rs6_t {f : Nat → Int32} {L s n : Nat} (h : (rsT f L s n 6).1 = true) : rsT f L s n 6 = (true, nx f L (nx f L s), nmT f L s 0 (nI n - 1), nmT f L (nx f L s) 0 9) ∧ ¬ nmT f L s 0 (nI n - 1) = -1 ∧ ¬ nmT f L (nx f L s) 0 9 = -1 := by
  have e6 : rsT f L s n 6 = (if nmT f L s 0 (nI n - 1) = -1 then (false, s, 0, 0) else if nmT f L (nx f L s) 0 9 = -1 then (false, nx f L s, 0, 0) else (true, nx f L (nx f L s), nmT f L s 0 (nI n - 1), nmT f L (nx f L s) 0 9)) := by
    unfold rsT; rw [if_neg (by decide), if_neg (by decide), if_pos rfl]
  rw [e6] at h ⊢
  by_cases q1 : nmT f L s 0 (nI n - 1) = -1
  · rw [if_pos q1] at h; cases h
  · rw [if_neg q1] at h ⊢
    by_cases q2 : nmT f L (nx f L s) 0 9 = -1
    · rw [if_pos q2] at h; cases h
    · rw [if_neg q2]; exact ⟨rfl, q1, q2⟩
theorem rs7_t {f : Nat → Int32} {L s n : Nat} (h : (rsT f L s n 7).1 = true) : rsT f L s n 7 = (true, nx f L s, nmT f L s 0 (nI n - 1), 0) ∧ ¬ nmT f L s 0 (nI n - 1) = -1 := by
  have e7 : rsT f L s n 7 = (if nmT f L s 0 (nI n - 1) = -1 then (false, s, 0, 0) else (true, nx f L s, nmT f L s 0 (nI n - 1), 0)) := by
    unfold rsT; rw [if_neg (by decide), if_neg (by decide), if_neg (by decide), if_pos rfl]
  rw [e7] at h ⊢
  by_cases q1 : nmT f L s 0 (nI n - 1) = -1
  · rw [if_pos q1] at h; cases h
  · rw [if_neg q1]; exact ⟨rfl, q1⟩
theorem rs8_t {f : Nat → Int32} {L s n : Nat} (h : (rsT f L s n 8).1 = true) : rsT f L s n 8 = (true, nx f L s, rlT f L s, 0) ∧ ¬ rlT f L s = -1 := by
  have e8 : rsT f L s n 8 = (if rlT f L s = -1 then (false, s, 0, 0) else (true, nx f L s, rlT f L s, 0)) := by
    unfold rsT; rw [if_neg (by decide), if_neg (by decide), if_neg (by decide), if_neg (by decide)]
  rw [e8] at h ⊢
  by_cases q1 : rlT f L s = -1
  · rw [if_pos q1] at h; cases h
  · rw [if_neg q1]; exact ⟨rfl, q1⟩
theorem rs5_t {f : Nat → Int32} {L s n : Nat} (h : (rsT f L (nx f L s) n 5).1 = true) (c : AA) (u : VV) (hw : wdI f L s = 5) (h6 : n < 6) : (1 ≤ (rsT f L (nx f L s) n 5).2.2.1 ∧ (rsT f L (nx f L s) n 5).2.2.1 ≤ 9) ∧ (clC f L s c u n).2.2 = (ajA c n (rsT f L (nx f L s) n 5).2.2.1 (rsT f L (nx f L s) n 5).2.2.2, va_up u 8 (nI (n + 1))) ∧ True := by
  have e5 : rsT f L (nx f L s) n 5 = (if nmT f L (nx f L s) 1 9 = -1 then (false, nx f L s, 0, 0) else (vsB f L (nx f L (nx f L s)), vsS f L (nx f L (nx f L s)), nmT f L (nx f L s) 1 9, vsV f L (nx f L (nx f L s)))) := by
    unfold rsT; rw [if_neg (by decide), if_pos rfl]
  have ec : clC f L s c u n = clJ f L s c u n := by
    rw [clC_w, hw, if_neg (show ¬ 5 = 4 by decide), if_pos (show 5 = 5 from rfl)]
  rw [ec]
  unfold clJ
  rw [if_neg (by omega)]
  rw [e5] at h ⊢
  by_cases q1 : nmT f L (nx f L s) 1 9 = -1
  · rw [if_pos q1] at h; cases h
  · rw [if_neg q1] at h
    rw [if_neg q1, if_neg q1]
    refine ⟨nmT_rg q1, ?_, trivial⟩
    have h : vsB f L (nx f L (nx f L s)) = true := h
    dsimp only
    rcases vs_t h with ⟨k1, k2, k3, k4⟩ | ⟨k1, k2, k3⟩
    · rw [if_pos k1, if_neg k2, k4]
    · rw [if_neg k1, k3]
theorem cl6_t {f : Nat → Int32} {L s n : Nat} (hw : wdI f L s = 6) (q1 : ¬ nmT f L (nx f L s) 0 (nI n - 1) = -1) (q2 : ¬ nmT f L (nx f L (nx f L s)) 0 9 = -1) (c : AA) {u : VV} (hu : u 8 = nI n) : (clC f L s c u n).2.2 = (va_up c 2 (upd (c 2) (nmT f L (nx f L s) 0 (nI n - 1)).toNatClampNeg (c 2 (nmT f L (nx f L s) 0 (nI n - 1)).toNatClampNeg ||| ((1 : Int32) <<< (nmT f L (nx f L (nx f L s)) 0 9 &&& 31)))), u) := by
  rw [clC_w, hw, if_neg (show ¬ 6 = 4 by decide), if_neg (show ¬ 6 = 5 by decide), if_pos (show 6 = 6 from rfl)]
  unfold clB
  rw [hu, if_neg q1, if_neg q2]
theorem cl7_t {f : Nat → Int32} {L s n : Nat} (hw : wdI f L s = 7) (q1 : ¬ nmT f L (nx f L s) 0 (nI n - 1) = -1) (c : AA) {u : VV} (hu : u 8 = nI n) : (clC f L s c u n).2.2 = (c, va_up u 9 (u 9 ||| ((1 : Int32) <<< (nmT f L (nx f L s) 0 (nI n - 1) &&& 31)))) := by
  rw [clC_w, hw, if_neg (show ¬ 7 = 4 by decide), if_neg (show ¬ 7 = 5 by decide), if_neg (show ¬ 7 = 6 by decide), if_pos (show 7 = 7 from rfl)]
  unfold clA
  rw [hu, if_neg q1]
theorem cl8_t {f : Nat → Int32} {L s n : Nat} (hw : wdI f L s = 8) (q1 : ¬ rlT f L (nx f L s) = -1) {c : AA} {u : VV} : (clC f L s c u n).2.2 = (c, va_up u 10 (rlT f L (nx f L s))) := by
  rw [clC_w, hw, if_neg (show ¬ 8 = 4 by decide), if_neg (show ¬ 8 = 5 by decide), if_neg (show ¬ 8 = 6 by decide), if_neg (show ¬ 8 = 7 by decide), if_pos (show 8 = 8 from rfl)]
  unfold clR
  rw [if_neg q1]
set_option maxRecDepth 4000 in
theorem m_rc4 (G : GG) (hh : HH) {k : Nat} {a : AA} {v : VV} {L : Nat} (hL : L ≤ 200) (hl : v 8 = nI L) {s : Nat} (hs : s ≤ L) (h : MdAt G hh k a (vfb v s (tkE (a 7) L s))) {n : Nat} (hn : n ≤ 6) (hj : v 13 = nI n) {b : Bool} (hb : v 15 = bl b) (hbn : b = true → v 1 = nI n) (hW : ∀ j, j < 54 → a 17 j = wdA j) (hw : wdI (a 7) L s = 4) : EVi G mX5_readsClause [.ref (ad G k)] hh (rcP G hh k a v L s n b) := by
  refine EV.of [(0, .ref (ad G k))] (by decide +kernel) (Nat.le_of_ble_eq_true rfl) rfl ?_
  have hse := tkE_ge (a 7) L s
  have heL := tkE_le (a 7) hs
  have hF : Fr k (k + 11) hh hh := Fr.rf
  refine R_aload_n dX5_readsClause_0 rfl ?_
  refine R_iconst (v := 4) dX5_readsClause_1 (by decide) ?_
  refine R_bipush (v := 8) dX5_readsClause_2 (by decide) ?_
  refine R_callVp dX5_readsClause_4 cv_X5_97 ⟨by decide, by decide⟩ (m_wordOf G hh hL hl hs h hW (i := 4) (t := 8) (by decide) (by decide)) h.1 rfl rfl rfl (Nat.le_of_ble_eq_true rfl) ?_
  refine RR.top (y := 4) ((fwd_wd (a 7) L s).trans (by rw [hw]; rfl)) ?_
  refine R_istore_n dX5_readsClause_7 (by decide) ?_
  refine R_iload_n dX5_readsClause_8 rfl ?_
  refine R_iconst (v := (-1)) dX5_readsClause_9 (by decide) ?_
  refine R_icmp_eq (tgt := 27) dX5_readsClause_10 (by decide) (fun c10 => absurd c10 (by decide)) (fun c10 => ?_)
  refine R_iload_n dX5_readsClause_13 rfl ?_
  refine R_iconst (v := 5) dX5_readsClause_14 (by decide) ?_
  refine R_icmp_ne (tgt := 29) dX5_readsClause_15 (by decide) (fun c15 => ?_) (fun c15 => absurd (by decide) c15)
  refine R_aload_n dX5_readsClause_29 rfl ?_
  refine R_callVv dX5_readsClause_30 cv_X5_88 ⟨by decide, by decide⟩ (m_nextToken G hh hL hl heL h) h.1 rfl rfl rfl (Nat.le_of_ble_eq_true rfl) (fun hh hw9 => ?_)
  obtain ⟨h, hF1⟩ := hw9
  have h : MdAt G hh k a (vfb v (nx (a 7) L s) (tkE (a 7) L (nx (a 7) L s))) := h
  have hF := hF.tr hF1 (by omega) (by omega)
  refine R_aload_n dX5_readsClause_33 rfl ?_
  refine R_iload_n dX5_readsClause_34 rfl ?_
  refine R_callVi dX5_readsClause_35 cv_X5_115 ⟨by decide, by decide⟩ (m_rest4 G hh hL hl (nx_le (a 7) hs) h hj) h.1 rfl rfl rfl (Nat.le_of_ble_eq_true rfl) (fun y hh hw9 => ?_)
  obtain ⟨rfl, N, hN, h, hF1⟩ := hw9
  have hF := hF.tr hF1 (by omega) (by omega)
  refine R_if_ne (tgt := 43) dX5_readsClause_38 (by decide) (fun c38 => ?_) (fun c38 => ?_)
  · have hR1 : (rsT (a 7) L (nx (a 7) L s) n 4).1 = true := bl_t c38
    refine R_aload_n dX5_readsClause_43 rfl ?_
    refine R_iload_n dX5_readsClause_44 rfl ?_
    refine R_iconst (v := 4) dX5_readsClause_45 (by decide) ?_
    refine R_icmp_ne (tgt := 53) dX5_readsClause_46 (by decide) (fun c46 => absurd c46 (fun q9 => q9 rfl)) (fun c46 => ?_)
    refine R_iconst (v := 0) dX5_readsClause_49 (by decide) ?_
    refine R_goto (tgt := 71) dX5_readsClause_50 (by decide) ?_
    refine Md_put13 dX5_readsClause_71 pf_X5_109 h (fun hh h hF1 => ?_)
    have hF := hF.tr hF1 (by omega) (by omega)
    refine R_aload_n dX5_readsClause_74 rfl ?_
    refine R_get dX5_readsClause_75 gf_X5_118 h.1 rfl ?_
    refine RR.top (y := bl b) hb ?_
    refine R_if_eq (tgt := 86) dX5_readsClause_78 (by decide) (fun c78 => ?_) (fun c78 => ?_)
    · refine R_iconst (v := 1) dX5_readsClause_86 (by decide) ?_
      exact R_zret dX5_readsClause_87 rfl (by first | exact Or.inl rfl | exact Or.inr rfl | assumption | exact bl01 _ | omega) (⟨_, rfl, by (have hM : mc (a 7) L s n = (true, (rsT (a 7) L (nx (a 7) L s) n 4).2.1, 0) := (by rw [mc_r hw (by decide) (by omega), hR1]; rfl); unfold rcP; rw [hM]; exact ⟨rfl, _, _, h, hF, rfl, rfl, rfl, kp_13 a v N _ _ _, fun _ => ⟨rfl, rfl, rfl, rfl, rfl⟩, fun q9 => absurd q9 (bl_f c78)⟩)⟩)
    · refine R_aload_n dX5_readsClause_81 rfl ?_
      refine R_iload_n dX5_readsClause_82 rfl ?_
      refine R_callVv dX5_readsClause_83 cv_X5_122 ⟨by decide, by decide⟩ (m_does4 G hh h) h.1 rfl rfl rfl (Nat.le_of_ble_eq_true rfl) (fun hh hw9 => ?_)
      obtain ⟨h, hF1⟩ := hw9
      have hF := hF.tr hF1 (by omega) (by omega)
      refine R_iconst (v := 1) dX5_readsClause_86 (by decide) ?_
      exact R_zret dX5_readsClause_87 rfl (by first | exact Or.inl rfl | exact Or.inr rfl | assumption | exact bl01 _ | omega) (⟨_, rfl, by (have hM : mc (a 7) L s n = (true, (rsT (a 7) L (nx (a 7) L s) n 4).2.1, 0) := (by rw [mc_r hw (by decide) (by omega), hR1]; rfl); unfold rcP; rw [hM]; exact ⟨rfl, _, _, h, hF, rfl, rfl, rfl, kp_v2 (kp_v1 (kp_r (kp_13 a v N _ _ _) (fun j hj => anR_o hj)) _) _, fun q9 => absurd (bl_t c78) (by rw [q9]; decide), fun _ _ c u hT => (by rw [clC_w, hw]; exact hT.w4)⟩)⟩)
  · refine R_iconst (v := 0) dX5_readsClause_41 (by decide) ?_
    exact R_zret dX5_readsClause_42 rfl (by first | exact Or.inl rfl | exact Or.inr rfl | assumption | exact bl01 _ | omega) (⟨_, rfl, by (have hR1 : (rsT (a 7) L (nx (a 7) L s) n 4).1 = false := Bool.eq_false_iff.mpr (bl_f (Classical.not_not.mp c38)); have hM : mc (a 7) L s n = (false, (rsT (a 7) L (nx (a 7) L s) n 4).2.1, n) := (by rw [mc_r hw (by decide) (by omega), hR1]; rfl); unfold rcP; rw [hM]; exact ⟨rfl, _, _, h, hF, rfl, rfl, hj, kp_N a v N _ _, fun _ => ⟨rfl, rfl, rfl, rfl, rfl⟩, fun _ q9 => Bool.noConfusion q9⟩)⟩)
set_option maxRecDepth 4000 in
theorem m_rc5f (G : GG) (hh : HH) {k : Nat} {a : AA} {v : VV} {L : Nat} (hL : L ≤ 200) (hl : v 8 = nI L) {s : Nat} (hs : s ≤ L) (h : MdAt G hh k a (vfb v s (tkE (a 7) L s))) {n : Nat} (hn : n ≤ 6) (hj : v 13 = nI n) {b : Bool} (hb : v 15 = bl b) (hbn : b = true → v 1 = nI n) (hW : ∀ j, j < 54 → a 17 j = wdA j) (hw : wdI (a 7) L s = 5) (h6 : n = 6) : EVi G mX5_readsClause [.ref (ad G k)] hh (rcP G hh k a v L s n b) := by
  refine EV.of [(0, .ref (ad G k))] (by decide +kernel) (Nat.le_of_ble_eq_true rfl) rfl ?_
  have hse := tkE_ge (a 7) L s
  have heL := tkE_le (a 7) hs
  have hF : Fr k (k + 11) hh hh := Fr.rf
  refine R_aload_n dX5_readsClause_0 rfl ?_
  refine R_iconst (v := 4) dX5_readsClause_1 (by decide) ?_
  refine R_bipush (v := 8) dX5_readsClause_2 (by decide) ?_
  refine R_callVp dX5_readsClause_4 cv_X5_97 ⟨by decide, by decide⟩ (m_wordOf G hh hL hl hs h hW (i := 4) (t := 8) (by decide) (by decide)) h.1 rfl rfl rfl (Nat.le_of_ble_eq_true rfl) ?_
  refine RR.top (y := 5) ((fwd_wd (a 7) L s).trans (by rw [hw]; rfl)) ?_
  refine R_istore_n dX5_readsClause_7 (by decide) ?_
  refine R_iload_n dX5_readsClause_8 rfl ?_
  refine R_iconst (v := (-1)) dX5_readsClause_9 (by decide) ?_
  refine R_icmp_eq (tgt := 27) dX5_readsClause_10 (by decide) (fun c10 => absurd c10 (by decide)) (fun c10 => ?_)
  refine R_iload_n dX5_readsClause_13 rfl ?_
  refine R_iconst (v := 5) dX5_readsClause_14 (by decide) ?_
  refine R_icmp_ne (tgt := 29) dX5_readsClause_15 (by decide) (fun c15 => absurd c15 (fun q9 => q9 rfl)) (fun c15 => ?_)
  refine R_aload_n dX5_readsClause_18 rfl ?_
  refine R_get dX5_readsClause_19 gf_X5_109 h.1 rfl ?_
  refine RR.top (y := nI (n)) (hj) ?_
  refine R_bipush (v := 6) dX5_readsClause_22 (by decide) ?_
  refine R_icmp_ne (tgt := 29) dX5_readsClause_24 (by decide) (fun c24 => absurd c24 (fun q9 => q9 (by rw [h6]; rfl))) (fun c24 => ?_)
  refine R_iconst (v := 0) dX5_readsClause_27 (by decide) ?_
  exact R_zret dX5_readsClause_28 rfl (by first | exact Or.inl rfl | exact Or.inr rfl | assumption | exact bl01 _ | omega) (⟨_, rfl, by (have hM : mc (a 7) L s n = (false, s, n) := if_pos (Or.inr ⟨hw, h6⟩); unfold rcP; rw [hM]; exact ⟨rfl, _, _, h, hF, rfl, rfl, hj, kp_N0 a v s _, fun _ => ⟨rfl, rfl, rfl, rfl, rfl⟩, fun _ q9 => Bool.noConfusion q9⟩)⟩)
set_option maxRecDepth 4000 in
theorem m_rc5 (G : GG) (hh : HH) {k : Nat} {a : AA} {v : VV} {L : Nat} (hL : L ≤ 200) (hl : v 8 = nI L) {s : Nat} (hs : s ≤ L) (h : MdAt G hh k a (vfb v s (tkE (a 7) L s))) {n : Nat} (hn : n ≤ 6) (hj : v 13 = nI n) {b : Bool} (hb : v 15 = bl b) (hbn : b = true → v 1 = nI n) (hW : ∀ j, j < 54 → a 17 j = wdA j) (hw : wdI (a 7) L s = 5) (h6 : n < 6) : EVi G mX5_readsClause [.ref (ad G k)] hh (rcP G hh k a v L s n b) := by
  refine EV.of [(0, .ref (ad G k))] (by decide +kernel) (Nat.le_of_ble_eq_true rfl) rfl ?_
  have hse := tkE_ge (a 7) L s
  have heL := tkE_le (a 7) hs
  have hF : Fr k (k + 11) hh hh := Fr.rf
  refine R_aload_n dX5_readsClause_0 rfl ?_
  refine R_iconst (v := 4) dX5_readsClause_1 (by decide) ?_
  refine R_bipush (v := 8) dX5_readsClause_2 (by decide) ?_
  refine R_callVp dX5_readsClause_4 cv_X5_97 ⟨by decide, by decide⟩ (m_wordOf G hh hL hl hs h hW (i := 4) (t := 8) (by decide) (by decide)) h.1 rfl rfl rfl (Nat.le_of_ble_eq_true rfl) ?_
  refine RR.top (y := 5) ((fwd_wd (a 7) L s).trans (by rw [hw]; rfl)) ?_
  refine R_istore_n dX5_readsClause_7 (by decide) ?_
  refine R_iload_n dX5_readsClause_8 rfl ?_
  refine R_iconst (v := (-1)) dX5_readsClause_9 (by decide) ?_
  refine R_icmp_eq (tgt := 27) dX5_readsClause_10 (by decide) (fun c10 => absurd c10 (by decide)) (fun c10 => ?_)
  refine R_iload_n dX5_readsClause_13 rfl ?_
  refine R_iconst (v := 5) dX5_readsClause_14 (by decide) ?_
  refine R_icmp_ne (tgt := 29) dX5_readsClause_15 (by decide) (fun c15 => absurd c15 (fun q9 => q9 rfl)) (fun c15 => ?_)
  refine R_aload_n dX5_readsClause_18 rfl ?_
  refine R_get dX5_readsClause_19 gf_X5_109 h.1 rfl ?_
  refine RR.top (y := nI (n)) (hj) ?_
  refine R_bipush (v := 6) dX5_readsClause_22 (by decide) ?_
  refine R_icmp_ne (tgt := 29) dX5_readsClause_24 (by decide) (fun c24 => ?_) (fun c24 => absurd (fun q9 => absurd ((nI_eq (b := 6) (by omega) (by decide)).mp q9) (by omega)) c24)
  refine R_aload_n dX5_readsClause_29 rfl ?_
  refine R_callVv dX5_readsClause_30 cv_X5_88 ⟨by decide, by decide⟩ (m_nextToken G hh hL hl heL h) h.1 rfl rfl rfl (Nat.le_of_ble_eq_true rfl) (fun hh hw9 => ?_)
  obtain ⟨h, hF1⟩ := hw9
  have h : MdAt G hh k a (vfb v (nx (a 7) L s) (tkE (a 7) L (nx (a 7) L s))) := h
  have hF := hF.tr hF1 (by omega) (by omega)
  refine R_aload_n dX5_readsClause_33 rfl ?_
  refine R_iload_n dX5_readsClause_34 rfl ?_
  refine R_callVi dX5_readsClause_35 cv_X5_115 ⟨by decide, by decide⟩ (m_rest5 G hh hL hl (nx_le (a 7) hs) h hj) h.1 rfl rfl rfl (Nat.le_of_ble_eq_true rfl) (fun y hh hw9 => ?_)
  obtain ⟨rfl, N, hN, h, hF1⟩ := hw9
  have hF := hF.tr hF1 (by omega) (by omega)
  refine R_if_ne (tgt := 43) dX5_readsClause_38 (by decide) (fun c38 => ?_) (fun c38 => ?_)
  · have hR1 : (rsT (a 7) L (nx (a 7) L s) n 5).1 = true := bl_t c38
    refine R_aload_n dX5_readsClause_43 rfl ?_
    refine R_iload_n dX5_readsClause_44 rfl ?_
    refine R_iconst (v := 4) dX5_readsClause_45 (by decide) ?_
    refine R_icmp_ne (tgt := 53) dX5_readsClause_46 (by decide) (fun c46 => ?_) (fun c46 => absurd (by decide) c46)
    refine R_iload_n dX5_readsClause_53 rfl ?_
    refine R_iconst (v := 5) dX5_readsClause_54 (by decide) ?_
    refine R_icmp_ne (tgt := 67) dX5_readsClause_55 (by decide) (fun c55 => absurd c55 (fun q9 => q9 rfl)) (fun c55 => ?_)
    refine R_aload_n dX5_readsClause_58 rfl ?_
    refine R_get dX5_readsClause_59 gf_X5_109 h.1 rfl ?_
    refine RR.top (y := nI (n)) (hj) ?_
    refine R_iconst (v := 1) dX5_readsClause_62 (by decide) ?_
    refine R_iadd dX5_readsClause_63 ?_
    refine RR.top (y := nI (n + 1)) (nI_add (n) (1)) ?_
    refine R_goto (tgt := 71) dX5_readsClause_64 (by decide) ?_
    refine Md_put13 dX5_readsClause_71 pf_X5_109 h (fun hh h hF1 => ?_)
    have hF := hF.tr hF1 (by omega) (by omega)
    refine R_aload_n dX5_readsClause_74 rfl ?_
    refine R_get dX5_readsClause_75 gf_X5_118 h.1 rfl ?_
    refine RR.top (y := bl b) hb ?_
    refine R_if_eq (tgt := 86) dX5_readsClause_78 (by decide) (fun c78 => ?_) (fun c78 => ?_)
    · refine R_iconst (v := 1) dX5_readsClause_86 (by decide) ?_
      exact R_zret dX5_readsClause_87 rfl (by first | exact Or.inl rfl | exact Or.inr rfl | assumption | exact bl01 _ | omega) (⟨_, rfl, by (have hM : mc (a 7) L s n = (true, (rsT (a 7) L (nx (a 7) L s) n 5).2.1, n + 1) := (by rw [mc_r hw (by decide) (by omega), hR1]; rfl); unfold rcP; rw [hM]; exact ⟨rfl, _, _, h, hF, rfl, rfl, rfl, kp_13 a v N _ _ _, fun _ => ⟨rfl, rfl, rfl, rfl, rfl⟩, fun q9 => absurd q9 (bl_f c78)⟩)⟩)
    · refine R_aload_n dX5_readsClause_81 rfl ?_
      refine R_iload_n dX5_readsClause_82 rfl ?_
      refine R_callVv dX5_readsClause_83 cv_X5_122 ⟨by decide, by decide⟩ (m_does5 G hh h h6 (hbn (bl_t c78))) h.1 rfl rfl rfl (Nat.le_of_ble_eq_true rfl) (fun hh hw9 => ?_)
      obtain ⟨h, hF1⟩ := hw9
      have hF := hF.tr hF1 (by omega) (by omega)
      refine R_iconst (v := 1) dX5_readsClause_86 (by decide) ?_
      exact R_zret dX5_readsClause_87 rfl (by first | exact Or.inl rfl | exact Or.inr rfl | assumption | exact bl01 _ | omega) (⟨_, rfl, by (have hM : mc (a 7) L s n = (true, (rsT (a 7) L (nx (a 7) L s) n 5).2.1, n + 1) := (by rw [mc_r hw (by decide) (by omega), hR1]; rfl); unfold rcP; rw [hM]; exact ⟨rfl, _, _, h, hF, rfl, rfl, rfl, kp_v1 (kp_4 (kp_3 (kp_13 a v N _ _ _) _) _) _, fun q9 => absurd (bl_t c78) (by rw [q9]; decide), fun _ _ c u hT => (by obtain ⟨t1, t2, t3⟩ := rs5_t hR1 c u hw h6; have t5 := hT.w5 h6 (x := N 0) (w := N 1) (by rw [(hN hR1).1 (by decide)]; exact t1); rw [t2, ← (hN hR1).1 (by decide), ← (hN hR1).2 (Or.inl rfl)]; exact t5)⟩)⟩)
  · refine R_iconst (v := 0) dX5_readsClause_41 (by decide) ?_
    exact R_zret dX5_readsClause_42 rfl (by first | exact Or.inl rfl | exact Or.inr rfl | assumption | exact bl01 _ | omega) (⟨_, rfl, by (have hR1 : (rsT (a 7) L (nx (a 7) L s) n 5).1 = false := Bool.eq_false_iff.mpr (bl_f (Classical.not_not.mp c38)); have hM : mc (a 7) L s n = (false, (rsT (a 7) L (nx (a 7) L s) n 5).2.1, n) := (by rw [mc_r hw (by decide) (by omega), hR1]; rfl); unfold rcP; rw [hM]; exact ⟨rfl, _, _, h, hF, rfl, rfl, hj, kp_N a v N _ _, fun _ => ⟨rfl, rfl, rfl, rfl, rfl⟩, fun _ q9 => Bool.noConfusion q9⟩)⟩)
set_option maxRecDepth 4000 in
theorem m_rc6 (G : GG) (hh : HH) {k : Nat} {a : AA} {v : VV} {L : Nat} (hL : L ≤ 200) (hl : v 8 = nI L) {s : Nat} (hs : s ≤ L) (h : MdAt G hh k a (vfb v s (tkE (a 7) L s))) {n : Nat} (hn : n ≤ 6) (hj : v 13 = nI n) {b : Bool} (hb : v 15 = bl b) (hbn : b = true → v 1 = nI n) (hW : ∀ j, j < 54 → a 17 j = wdA j) (hw : wdI (a 7) L s = 6) : EVi G mX5_readsClause [.ref (ad G k)] hh (rcP G hh k a v L s n b) := by
  refine EV.of [(0, .ref (ad G k))] (by decide +kernel) (Nat.le_of_ble_eq_true rfl) rfl ?_
  have hse := tkE_ge (a 7) L s
  have heL := tkE_le (a 7) hs
  have hF : Fr k (k + 11) hh hh := Fr.rf
  refine R_aload_n dX5_readsClause_0 rfl ?_
  refine R_iconst (v := 4) dX5_readsClause_1 (by decide) ?_
  refine R_bipush (v := 8) dX5_readsClause_2 (by decide) ?_
  refine R_callVp dX5_readsClause_4 cv_X5_97 ⟨by decide, by decide⟩ (m_wordOf G hh hL hl hs h hW (i := 4) (t := 8) (by decide) (by decide)) h.1 rfl rfl rfl (Nat.le_of_ble_eq_true rfl) ?_
  refine RR.top (y := 6) ((fwd_wd (a 7) L s).trans (by rw [hw]; rfl)) ?_
  refine R_istore_n dX5_readsClause_7 (by decide) ?_
  refine R_iload_n dX5_readsClause_8 rfl ?_
  refine R_iconst (v := (-1)) dX5_readsClause_9 (by decide) ?_
  refine R_icmp_eq (tgt := 27) dX5_readsClause_10 (by decide) (fun c10 => absurd c10 (by decide)) (fun c10 => ?_)
  refine R_iload_n dX5_readsClause_13 rfl ?_
  refine R_iconst (v := 5) dX5_readsClause_14 (by decide) ?_
  refine R_icmp_ne (tgt := 29) dX5_readsClause_15 (by decide) (fun c15 => ?_) (fun c15 => absurd (by decide) c15)
  refine R_aload_n dX5_readsClause_29 rfl ?_
  refine R_callVv dX5_readsClause_30 cv_X5_88 ⟨by decide, by decide⟩ (m_nextToken G hh hL hl heL h) h.1 rfl rfl rfl (Nat.le_of_ble_eq_true rfl) (fun hh hw9 => ?_)
  obtain ⟨h, hF1⟩ := hw9
  have h : MdAt G hh k a (vfb v (nx (a 7) L s) (tkE (a 7) L (nx (a 7) L s))) := h
  have hF := hF.tr hF1 (by omega) (by omega)
  refine R_aload_n dX5_readsClause_33 rfl ?_
  refine R_iload_n dX5_readsClause_34 rfl ?_
  refine R_callVi dX5_readsClause_35 cv_X5_115 ⟨by decide, by decide⟩ (m_rest6 G hh hL hl (nx_le (a 7) hs) h hj) h.1 rfl rfl rfl (Nat.le_of_ble_eq_true rfl) (fun y hh hw9 => ?_)
  obtain ⟨rfl, N, hN, h, hF1⟩ := hw9
  have hF := hF.tr hF1 (by omega) (by omega)
  refine R_if_ne (tgt := 43) dX5_readsClause_38 (by decide) (fun c38 => ?_) (fun c38 => ?_)
  · have hR1 : (rsT (a 7) L (nx (a 7) L s) n 6).1 = true := bl_t c38
    refine R_aload_n dX5_readsClause_43 rfl ?_
    refine R_iload_n dX5_readsClause_44 rfl ?_
    refine R_iconst (v := 4) dX5_readsClause_45 (by decide) ?_
    refine R_icmp_ne (tgt := 53) dX5_readsClause_46 (by decide) (fun c46 => ?_) (fun c46 => absurd (by decide) c46)
    refine R_iload_n dX5_readsClause_53 rfl ?_
    refine R_iconst (v := 5) dX5_readsClause_54 (by decide) ?_
    refine R_icmp_ne (tgt := 67) dX5_readsClause_55 (by decide) (fun c55 => ?_) (fun c55 => absurd (by decide) c55)
    refine R_aload_n dX5_readsClause_67 rfl ?_
    refine R_get dX5_readsClause_68 gf_X5_109 h.1 rfl ?_
    refine RR.top (y := nI (n)) (hj) ?_
    refine Md_put13 dX5_readsClause_71 pf_X5_109 h (fun hh h hF1 => ?_)
    have hF := hF.tr hF1 (by omega) (by omega)
    refine R_aload_n dX5_readsClause_74 rfl ?_
    refine R_get dX5_readsClause_75 gf_X5_118 h.1 rfl ?_
    refine RR.top (y := bl b) hb ?_
    refine R_if_eq (tgt := 86) dX5_readsClause_78 (by decide) (fun c78 => ?_) (fun c78 => ?_)
    · refine R_iconst (v := 1) dX5_readsClause_86 (by decide) ?_
      exact R_zret dX5_readsClause_87 rfl (by first | exact Or.inl rfl | exact Or.inr rfl | assumption | exact bl01 _ | omega) (⟨_, rfl, by (have hM : mc (a 7) L s n = (true, (rsT (a 7) L (nx (a 7) L s) n 6).2.1, n) := (by rw [mc_r hw (by decide) (by omega), hR1]; rfl); unfold rcP; rw [hM]; exact ⟨rfl, _, _, h, hF, rfl, rfl, rfl, kp_13 a v N _ _ _, fun _ => ⟨rfl, rfl, rfl, rfl, rfl⟩, fun q9 => absurd q9 (bl_f c78)⟩)⟩)
    · obtain ⟨e6, q1, q2⟩ := rs6_t hR1
      obtain ⟨j, hjn, ej⟩ := nm_ix hn q1
      have ej : (rsT (a 7) L (nx (a 7) L s) n 6).2.2.1 = nI j := by rw [e6]; exact ej
      refine R_aload_n dX5_readsClause_81 rfl ?_
      refine R_iload_n dX5_readsClause_82 rfl ?_
      refine R_callVv dX5_readsClause_83 cv_X5_122 ⟨by decide, by decide⟩ (m_does6 G hh h (j := j) (by omega) (((hN hR1).1 (by decide)).trans ej)) h.1 rfl rfl rfl (Nat.le_of_ble_eq_true rfl) (fun hh hw9 => ?_)
      obtain ⟨h, hF1⟩ := hw9
      have hF := hF.tr hF1 (by omega) (by omega)
      refine R_iconst (v := 1) dX5_readsClause_86 (by decide) ?_
      exact R_zret dX5_readsClause_87 rfl (by first | exact Or.inl rfl | exact Or.inr rfl | assumption | exact bl01 _ | omega) (⟨_, rfl, by (have hM : mc (a 7) L s n = (true, (rsT (a 7) L (nx (a 7) L s) n 6).2.1, n) := (by rw [mc_r hw (by decide) (by omega), hR1]; rfl); unfold rcP; rw [hM]; exact ⟨rfl, _, _, h, hF, rfl, rfl, rfl, kp_r (kp_13 a v N _ _ _) (fun i hi => if_neg (by omega)), fun q9 => absurd (bl_t c78) (by rw [q9]; decide), fun _ _ c u hT => (by have t6 := hT.w6 hjn ((1 : Int32) <<< (N 1 &&& 31)); rw [cl6_t hw q1 q2 c hT.2.1, (show nmT (a 7) L (nx (a 7) L s) 0 (nI n - 1) = nI j from by rw [e6] at ej; exact ej), nI_clamp (by omega), show nmT (a 7) L (nx (a 7) L (nx (a 7) L s)) 0 9 = N 1 from by (have := (hN hR1).2 (Or.inr rfl); rw [e6] at this; exact this.symm)]; exact t6)⟩)⟩)
  · refine R_iconst (v := 0) dX5_readsClause_41 (by decide) ?_
    exact R_zret dX5_readsClause_42 rfl (by first | exact Or.inl rfl | exact Or.inr rfl | assumption | exact bl01 _ | omega) (⟨_, rfl, by (have hR1 : (rsT (a 7) L (nx (a 7) L s) n 6).1 = false := Bool.eq_false_iff.mpr (bl_f (Classical.not_not.mp c38)); have hM : mc (a 7) L s n = (false, (rsT (a 7) L (nx (a 7) L s) n 6).2.1, n) := (by rw [mc_r hw (by decide) (by omega), hR1]; rfl); unfold rcP; rw [hM]; exact ⟨rfl, _, _, h, hF, rfl, rfl, hj, kp_N a v N _ _, fun _ => ⟨rfl, rfl, rfl, rfl, rfl⟩, fun _ q9 => Bool.noConfusion q9⟩)⟩)
set_option maxRecDepth 4000 in
theorem m_rc7 (G : GG) (hh : HH) {k : Nat} {a : AA} {v : VV} {L : Nat} (hL : L ≤ 200) (hl : v 8 = nI L) {s : Nat} (hs : s ≤ L) (h : MdAt G hh k a (vfb v s (tkE (a 7) L s))) {n : Nat} (hn : n ≤ 6) (hj : v 13 = nI n) {b : Bool} (hb : v 15 = bl b) (hbn : b = true → v 1 = nI n) (hW : ∀ j, j < 54 → a 17 j = wdA j) (hw : wdI (a 7) L s = 7) : EVi G mX5_readsClause [.ref (ad G k)] hh (rcP G hh k a v L s n b) := by
  refine EV.of [(0, .ref (ad G k))] (by decide +kernel) (Nat.le_of_ble_eq_true rfl) rfl ?_
  have hse := tkE_ge (a 7) L s
  have heL := tkE_le (a 7) hs
  have hF : Fr k (k + 11) hh hh := Fr.rf
  refine R_aload_n dX5_readsClause_0 rfl ?_
  refine R_iconst (v := 4) dX5_readsClause_1 (by decide) ?_
  refine R_bipush (v := 8) dX5_readsClause_2 (by decide) ?_
  refine R_callVp dX5_readsClause_4 cv_X5_97 ⟨by decide, by decide⟩ (m_wordOf G hh hL hl hs h hW (i := 4) (t := 8) (by decide) (by decide)) h.1 rfl rfl rfl (Nat.le_of_ble_eq_true rfl) ?_
  refine RR.top (y := 7) ((fwd_wd (a 7) L s).trans (by rw [hw]; rfl)) ?_
  refine R_istore_n dX5_readsClause_7 (by decide) ?_
  refine R_iload_n dX5_readsClause_8 rfl ?_
  refine R_iconst (v := (-1)) dX5_readsClause_9 (by decide) ?_
  refine R_icmp_eq (tgt := 27) dX5_readsClause_10 (by decide) (fun c10 => absurd c10 (by decide)) (fun c10 => ?_)
  refine R_iload_n dX5_readsClause_13 rfl ?_
  refine R_iconst (v := 5) dX5_readsClause_14 (by decide) ?_
  refine R_icmp_ne (tgt := 29) dX5_readsClause_15 (by decide) (fun c15 => ?_) (fun c15 => absurd (by decide) c15)
  refine R_aload_n dX5_readsClause_29 rfl ?_
  refine R_callVv dX5_readsClause_30 cv_X5_88 ⟨by decide, by decide⟩ (m_nextToken G hh hL hl heL h) h.1 rfl rfl rfl (Nat.le_of_ble_eq_true rfl) (fun hh hw9 => ?_)
  obtain ⟨h, hF1⟩ := hw9
  have h : MdAt G hh k a (vfb v (nx (a 7) L s) (tkE (a 7) L (nx (a 7) L s))) := h
  have hF := hF.tr hF1 (by omega) (by omega)
  refine R_aload_n dX5_readsClause_33 rfl ?_
  refine R_iload_n dX5_readsClause_34 rfl ?_
  refine R_callVi dX5_readsClause_35 cv_X5_115 ⟨by decide, by decide⟩ (m_rest7 G hh hL hl (nx_le (a 7) hs) h hj) h.1 rfl rfl rfl (Nat.le_of_ble_eq_true rfl) (fun y hh hw9 => ?_)
  obtain ⟨rfl, N, hN, h, hF1⟩ := hw9
  have hF := hF.tr hF1 (by omega) (by omega)
  refine R_if_ne (tgt := 43) dX5_readsClause_38 (by decide) (fun c38 => ?_) (fun c38 => ?_)
  · have hR1 : (rsT (a 7) L (nx (a 7) L s) n 7).1 = true := bl_t c38
    refine R_aload_n dX5_readsClause_43 rfl ?_
    refine R_iload_n dX5_readsClause_44 rfl ?_
    refine R_iconst (v := 4) dX5_readsClause_45 (by decide) ?_
    refine R_icmp_ne (tgt := 53) dX5_readsClause_46 (by decide) (fun c46 => ?_) (fun c46 => absurd (by decide) c46)
    refine R_iload_n dX5_readsClause_53 rfl ?_
    refine R_iconst (v := 5) dX5_readsClause_54 (by decide) ?_
    refine R_icmp_ne (tgt := 67) dX5_readsClause_55 (by decide) (fun c55 => ?_) (fun c55 => absurd (by decide) c55)
    refine R_aload_n dX5_readsClause_67 rfl ?_
    refine R_get dX5_readsClause_68 gf_X5_109 h.1 rfl ?_
    refine RR.top (y := nI (n)) (hj) ?_
    refine Md_put13 dX5_readsClause_71 pf_X5_109 h (fun hh h hF1 => ?_)
    have hF := hF.tr hF1 (by omega) (by omega)
    refine R_aload_n dX5_readsClause_74 rfl ?_
    refine R_get dX5_readsClause_75 gf_X5_118 h.1 rfl ?_
    refine RR.top (y := bl b) hb ?_
    refine R_if_eq (tgt := 86) dX5_readsClause_78 (by decide) (fun c78 => ?_) (fun c78 => ?_)
    · refine R_iconst (v := 1) dX5_readsClause_86 (by decide) ?_
      exact R_zret dX5_readsClause_87 rfl (by first | exact Or.inl rfl | exact Or.inr rfl | assumption | exact bl01 _ | omega) (⟨_, rfl, by (have hM : mc (a 7) L s n = (true, (rsT (a 7) L (nx (a 7) L s) n 7).2.1, n) := (by rw [mc_r hw (by decide) (by omega), hR1]; rfl); unfold rcP; rw [hM]; exact ⟨rfl, _, _, h, hF, rfl, rfl, rfl, kp_13 a v N _ _ _, fun _ => ⟨rfl, rfl, rfl, rfl, rfl⟩, fun q9 => absurd q9 (bl_f c78)⟩)⟩)
    · refine R_aload_n dX5_readsClause_81 rfl ?_
      refine R_iload_n dX5_readsClause_82 rfl ?_
      refine R_callVv dX5_readsClause_83 cv_X5_122 ⟨by decide, by decide⟩ (m_does7 G hh h) h.1 rfl rfl rfl (Nat.le_of_ble_eq_true rfl) (fun hh hw9 => ?_)
      obtain ⟨h, hF1⟩ := hw9
      have hF := hF.tr hF1 (by omega) (by omega)
      refine R_iconst (v := 1) dX5_readsClause_86 (by decide) ?_
      exact R_zret dX5_readsClause_87 rfl (by first | exact Or.inl rfl | exact Or.inr rfl | assumption | exact bl01 _ | omega) (⟨_, rfl, by (have hM : mc (a 7) L s n = (true, (rsT (a 7) L (nx (a 7) L s) n 7).2.1, n) := (by rw [mc_r hw (by decide) (by omega), hR1]; rfl); unfold rcP; rw [hM]; exact ⟨rfl, _, _, h, hF, rfl, rfl, rfl, kp_r (kp_13 a v N _ _ _) (fun i hi => if_neg (by omega)), fun q9 => absurd (bl_t c78) (by rw [q9]; decide), fun _ _ c u hT => (by obtain ⟨e7, q1⟩ := rs7_t hR1; have t7 := hT.w7 ((1 : Int32) <<< (N 0 &&& 31)); rw [cl7_t hw q1 c hT.2.1, show nmT (a 7) L (nx (a 7) L s) 0 (nI n - 1) = N 0 from by (have := (hN hR1).1 (by decide); rw [e7] at this; exact this.symm)]; exact t7)⟩)⟩)
  · refine R_iconst (v := 0) dX5_readsClause_41 (by decide) ?_
    exact R_zret dX5_readsClause_42 rfl (by first | exact Or.inl rfl | exact Or.inr rfl | assumption | exact bl01 _ | omega) (⟨_, rfl, by (have hR1 : (rsT (a 7) L (nx (a 7) L s) n 7).1 = false := Bool.eq_false_iff.mpr (bl_f (Classical.not_not.mp c38)); have hM : mc (a 7) L s n = (false, (rsT (a 7) L (nx (a 7) L s) n 7).2.1, n) := (by rw [mc_r hw (by decide) (by omega), hR1]; rfl); unfold rcP; rw [hM]; exact ⟨rfl, _, _, h, hF, rfl, rfl, hj, kp_N a v N _ _, fun _ => ⟨rfl, rfl, rfl, rfl, rfl⟩, fun _ q9 => Bool.noConfusion q9⟩)⟩)
set_option maxRecDepth 4000 in
theorem m_rc8 (G : GG) (hh : HH) {k : Nat} {a : AA} {v : VV} {L : Nat} (hL : L ≤ 200) (hl : v 8 = nI L) {s : Nat} (hs : s ≤ L) (h : MdAt G hh k a (vfb v s (tkE (a 7) L s))) {n : Nat} (hn : n ≤ 6) (hj : v 13 = nI n) {b : Bool} (hb : v 15 = bl b) (hbn : b = true → v 1 = nI n) (hW : ∀ j, j < 54 → a 17 j = wdA j) (hw : wdI (a 7) L s = 8) : EVi G mX5_readsClause [.ref (ad G k)] hh (rcP G hh k a v L s n b) := by
  refine EV.of [(0, .ref (ad G k))] (by decide +kernel) (Nat.le_of_ble_eq_true rfl) rfl ?_
  have hse := tkE_ge (a 7) L s
  have heL := tkE_le (a 7) hs
  have hF : Fr k (k + 11) hh hh := Fr.rf
  refine R_aload_n dX5_readsClause_0 rfl ?_
  refine R_iconst (v := 4) dX5_readsClause_1 (by decide) ?_
  refine R_bipush (v := 8) dX5_readsClause_2 (by decide) ?_
  refine R_callVp dX5_readsClause_4 cv_X5_97 ⟨by decide, by decide⟩ (m_wordOf G hh hL hl hs h hW (i := 4) (t := 8) (by decide) (by decide)) h.1 rfl rfl rfl (Nat.le_of_ble_eq_true rfl) ?_
  refine RR.top (y := 8) ((fwd_wd (a 7) L s).trans (by rw [hw]; rfl)) ?_
  refine R_istore_n dX5_readsClause_7 (by decide) ?_
  refine R_iload_n dX5_readsClause_8 rfl ?_
  refine R_iconst (v := (-1)) dX5_readsClause_9 (by decide) ?_
  refine R_icmp_eq (tgt := 27) dX5_readsClause_10 (by decide) (fun c10 => absurd c10 (by decide)) (fun c10 => ?_)
  refine R_iload_n dX5_readsClause_13 rfl ?_
  refine R_iconst (v := 5) dX5_readsClause_14 (by decide) ?_
  refine R_icmp_ne (tgt := 29) dX5_readsClause_15 (by decide) (fun c15 => ?_) (fun c15 => absurd (by decide) c15)
  refine R_aload_n dX5_readsClause_29 rfl ?_
  refine R_callVv dX5_readsClause_30 cv_X5_88 ⟨by decide, by decide⟩ (m_nextToken G hh hL hl heL h) h.1 rfl rfl rfl (Nat.le_of_ble_eq_true rfl) (fun hh hw9 => ?_)
  obtain ⟨h, hF1⟩ := hw9
  have h : MdAt G hh k a (vfb v (nx (a 7) L s) (tkE (a 7) L (nx (a 7) L s))) := h
  have hF := hF.tr hF1 (by omega) (by omega)
  refine R_aload_n dX5_readsClause_33 rfl ?_
  refine R_iload_n dX5_readsClause_34 rfl ?_
  refine R_callVi dX5_readsClause_35 cv_X5_115 ⟨by decide, by decide⟩ (m_rest8 G hh hL hl (nx_le (a 7) hs) h hj hW) h.1 rfl rfl rfl (Nat.le_of_ble_eq_true rfl) (fun y hh hw9 => ?_)
  obtain ⟨rfl, N, hN, h, hF1⟩ := hw9
  have hF := hF.tr hF1 (by omega) (by omega)
  refine R_if_ne (tgt := 43) dX5_readsClause_38 (by decide) (fun c38 => ?_) (fun c38 => ?_)
  · have hR1 : (rsT (a 7) L (nx (a 7) L s) n 8).1 = true := bl_t c38
    refine R_aload_n dX5_readsClause_43 rfl ?_
    refine R_iload_n dX5_readsClause_44 rfl ?_
    refine R_iconst (v := 4) dX5_readsClause_45 (by decide) ?_
    refine R_icmp_ne (tgt := 53) dX5_readsClause_46 (by decide) (fun c46 => ?_) (fun c46 => absurd (by decide) c46)
    refine R_iload_n dX5_readsClause_53 rfl ?_
    refine R_iconst (v := 5) dX5_readsClause_54 (by decide) ?_
    refine R_icmp_ne (tgt := 67) dX5_readsClause_55 (by decide) (fun c55 => ?_) (fun c55 => absurd (by decide) c55)
    refine R_aload_n dX5_readsClause_67 rfl ?_
    refine R_get dX5_readsClause_68 gf_X5_109 h.1 rfl ?_
    refine RR.top (y := nI (n)) (hj) ?_
    refine Md_put13 dX5_readsClause_71 pf_X5_109 h (fun hh h hF1 => ?_)
    have hF := hF.tr hF1 (by omega) (by omega)
    refine R_aload_n dX5_readsClause_74 rfl ?_
    refine R_get dX5_readsClause_75 gf_X5_118 h.1 rfl ?_
    refine RR.top (y := bl b) hb ?_
    refine R_if_eq (tgt := 86) dX5_readsClause_78 (by decide) (fun c78 => ?_) (fun c78 => ?_)
    · refine R_iconst (v := 1) dX5_readsClause_86 (by decide) ?_
      exact R_zret dX5_readsClause_87 rfl (by first | exact Or.inl rfl | exact Or.inr rfl | assumption | exact bl01 _ | omega) (⟨_, rfl, by (have hM : mc (a 7) L s n = (true, (rsT (a 7) L (nx (a 7) L s) n 8).2.1, n) := (by rw [mc_r hw (by decide) (by omega), hR1]; rfl); unfold rcP; rw [hM]; exact ⟨rfl, _, _, h, hF, rfl, rfl, rfl, kp_13 a v N _ _ _, fun _ => ⟨rfl, rfl, rfl, rfl, rfl⟩, fun q9 => absurd q9 (bl_f c78)⟩)⟩)
    · refine R_aload_n dX5_readsClause_81 rfl ?_
      refine R_iload_n dX5_readsClause_82 rfl ?_
      refine R_callVv dX5_readsClause_83 cv_X5_122 ⟨by decide, by decide⟩ (m_does8 G hh h) h.1 rfl rfl rfl (Nat.le_of_ble_eq_true rfl) (fun hh hw9 => ?_)
      obtain ⟨h, hF1⟩ := hw9
      have hF := hF.tr hF1 (by omega) (by omega)
      refine R_iconst (v := 1) dX5_readsClause_86 (by decide) ?_
      exact R_zret dX5_readsClause_87 rfl (by first | exact Or.inl rfl | exact Or.inr rfl | assumption | exact bl01 _ | omega) (⟨_, rfl, by (have hM : mc (a 7) L s n = (true, (rsT (a 7) L (nx (a 7) L s) n 8).2.1, n) := (by rw [mc_r hw (by decide) (by omega), hR1]; rfl); unfold rcP; rw [hM]; exact ⟨rfl, _, _, h, hF, rfl, rfl, rfl, kp_v2 (kp_13 a v N _ _ _) _, fun q9 => absurd (bl_t c78) (by rw [q9]; decide), fun _ _ c u hT => (by obtain ⟨e8, q1⟩ := rs8_t hR1; have e9 : N 0 = rlT (a 7) L (nx (a 7) L s) := (by have := (hN hR1).1 (by decide); rw [e8] at this; exact this); have t8 := hT.w8 (x := N 0) (by rw [e9]; exact rlT_ok q1); rw [cl8_t hw q1, ← e9]; exact t8)⟩)⟩)
  · refine R_iconst (v := 0) dX5_readsClause_41 (by decide) ?_
    exact R_zret dX5_readsClause_42 rfl (by first | exact Or.inl rfl | exact Or.inr rfl | assumption | exact bl01 _ | omega) (⟨_, rfl, by (have hR1 : (rsT (a 7) L (nx (a 7) L s) n 8).1 = false := Bool.eq_false_iff.mpr (bl_f (Classical.not_not.mp c38)); have hM : mc (a 7) L s n = (false, (rsT (a 7) L (nx (a 7) L s) n 8).2.1, n) := (by rw [mc_r hw (by decide) (by omega), hR1]; rfl); unfold rcP; rw [hM]; exact ⟨rfl, _, _, h, hF, rfl, rfl, hj, kp_N a v N _ _, fun _ => ⟨rfl, rfl, rfl, rfl, rfl⟩, fun _ q9 => Bool.noConfusion q9⟩)⟩)
theorem m_readsClause (G : GG) (hh : HH) {k : Nat} {a : AA} {v : VV} {L : Nat} (hL : L ≤ 200) (hl : v 8 = nI L) {s : Nat} (hs : s ≤ L) (h : MdAt G hh k a (vfb v s (tkE (a 7) L s))) {n : Nat} (hn : n ≤ 6) (hj : v 13 = nI n) {b : Bool} (hb : v 15 = bl b) (hbn : b = true → v 1 = nI n) (hW : ∀ j, j < 54 → a 17 j = wdA j) : EVi G mX5_readsClause [.ref (ad G k)] hh (rcP G hh k a v L s n b) := by
  rcases wdI_in (a 7) L s with w | w | w | w | w | w
  · exact m_rc0 G hh hL hl hs h hn hj hb hbn hW w
  · exact m_rc4 G hh hL hl hs h hn hj hb hbn hW w
  · rcases Nat.lt_or_ge n 6 with q | q
    · exact m_rc5 G hh hL hl hs h hn hj hb hbn hW w q
    · exact m_rc5f G hh hL hl hs h hn hj hb hbn hW w (by omega)
  · exact m_rc6 G hh hL hl hs h hn hj hb hbn hW w
  · exact m_rc7 G hh hL hl hs h hn hj hb hbn hW w
  · exact m_rc8 G hh hL hl hs h hn hj hb hbn hW w
