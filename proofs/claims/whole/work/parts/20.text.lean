theorem bl01 (b : Bool) : bl b = 0 ∨ bl b = 1 := by cases b <;> simp [bl]
set_option maxRecDepth 4000 in
theorem e_readClause (G : GG) (hh : HH) {q k m L s ks n : Nat} {f : Nat → Int32} {a : AA} {v : VV} {c : Int32} (h : TkAt G hh q k f L s c) (t : LeAt G hh k m f (nI L)) (g : StAt G hh ks a v) (hs : s ≤ L) (hL : L ≤ m) (hm : m ≤ 1000) (hap : q < k ∨ k + 2 ≤ q) (hap2 : q < ks ∨ ks + 9 ≤ q) (hap3 : k + 2 ≤ ks ∨ ks + 9 ≤ k) (hn : n ≤ 6) (hv : v 8 = nI n) : EVi G mX3_readClause [.ref (ad G q), .ref (ad G ks)] hh (fun y h1 => y = bl (clC f L s a v n).1 ∧ TkAt G h1 q k f L (clC f L s a v n).2.1 c ∧ StAt G h1 ks (clC f L s a v n).2.2.1 (clC f L s a v n).2.2.2 ∧ Fx q ks hh h1) := by
  refine EV.of [(0, .ref (ad G q)), (1, .ref (ad G ks))] (by decide +kernel) (Nat.le_of_ble_eq_true rfl) rfl ?_
  have hF : Fx q ks hh hh := Fx.rf
  refine R_aload_n dX3_readClause_0 rfl ?_
  refine R_ldcS (i := 0) (tx := "wheel") dX3_readClause_1 rfl ?_
  refine R_callVp (w := bl (wdT f L s 0)) dX3_readClause_3 cv_X3_64 ⟨by decide, by decide⟩ (e_isWord G hh h t hL hm (tkE_ge f L s) (tkE_le f hs) (show 0 < 9 by decide)) h rfl rfl rfl (Nat.le_of_ble_eq_true rfl) ?_
  refine R_if_eq (tgt := 19) dX3_readClause_6 (by decide) (fun c6 => ?_) (fun c6 => ?_)
  · refine R_aload_n dX3_readClause_19 rfl ?_
    refine R_ldcS (i := 1) (tx := "judge") dX3_readClause_20 rfl ?_
    refine R_callVp (w := bl (wdT f L s 1)) dX3_readClause_22 cv_X3_64 ⟨by decide, by decide⟩ (e_isWord G hh h t hL hm (tkE_ge f L s) (tkE_le f hs) (show 1 < 9 by decide)) h rfl rfl rfl (Nat.le_of_ble_eq_true rfl) ?_
    refine R_if_eq (tgt := 34) dX3_readClause_25 (by decide) (fun c25 => ?_) (fun c25 => ?_)
    · refine R_aload_n dX3_readClause_34 rfl ?_
      refine R_ldcS (i := 2) (tx := "bar") dX3_readClause_35 rfl ?_
      refine R_callVp (w := bl (wdT f L s 2)) dX3_readClause_37 cv_X3_64 ⟨by decide, by decide⟩ (e_isWord G hh h t hL hm (tkE_ge f L s) (tkE_le f hs) (show 2 < 9 by decide)) h rfl rfl rfl (Nat.le_of_ble_eq_true rfl) ?_
      refine R_if_eq (tgt := 49) dX3_readClause_40 (by decide) (fun c40 => ?_) (fun c40 => ?_)
      · refine R_aload_n dX3_readClause_49 rfl ?_
        refine R_ldcS (i := 3) (tx := "away") dX3_readClause_50 rfl ?_
        refine R_callVp (w := bl (wdT f L s 3)) dX3_readClause_52 cv_X3_64 ⟨by decide, by decide⟩ (e_isWord G hh h t hL hm (tkE_ge f L s) (tkE_le f hs) (show 3 < 9 by decide)) h rfl rfl rfl (Nat.le_of_ble_eq_true rfl) ?_
        refine R_if_eq (tgt := 64) dX3_readClause_55 (by decide) (fun c55 => ?_) (fun c55 => ?_)
        · refine R_aload_n dX3_readClause_64 rfl ?_
          refine R_ldcS (i := 4) (tx := "rule") dX3_readClause_65 rfl ?_
          refine R_callVp (w := bl (wdT f L s 4)) dX3_readClause_67 cv_X3_64 ⟨by decide, by decide⟩ (e_isWord G hh h t hL hm (tkE_ge f L s) (tkE_le f hs) (show 4 < 9 by decide)) h rfl rfl rfl (Nat.le_of_ble_eq_true rfl) ?_
          refine R_if_eq (tgt := 85) dX3_readClause_70 (by decide) (fun c70 => ?_) (fun c70 => ?_)
          · refine R_iconst (v := 0) dX3_readClause_85 (by decide) ?_
            exact R_zret dX3_readClause_86 rfl (by first | exact Or.inl rfl | exact Or.inr rfl | assumption | exact bl01 _ | omega) (⟨_, rfl, by rw [show clC f L s a v n = (false, s, a, v) from by unfold clC; rw [if_neg (by simpa [bl] using c6), if_neg (by simpa [bl] using c25), if_neg (by simpa [bl] using c40), if_neg (by simpa [bl] using c55), if_neg (by simpa [bl] using c70)]]; exact ⟨rfl, h, g, hF⟩⟩)
          · refine R_aload_n dX3_readClause_73 rfl ?_
            refine R_aload_n dX3_readClause_74 rfl ?_
            refine R_callVi dX3_readClause_75 cv_X3_90 ⟨by decide, by decide⟩ (e_readRule G hh h t g hs hL hm hap hap2 hap3 hn hv) h rfl rfl rfl (Nat.le_of_ble_eq_true rfl) (fun y hh hw => ?_)
            rw [← show clC f L s a v n = clR f L s a v from by unfold clC; rw [if_neg (by simpa [bl] using c6), if_neg (by simpa [bl] using c25), if_neg (by simpa [bl] using c40), if_neg (by simpa [bl] using c55), if_pos (by simpa [bl] using c70)]] at hw
            obtain ⟨rfl, h, g, hF⟩ := hw
            refine R_if_eq (tgt := 85) dX3_readClause_78 (by decide) (fun c78 => ?_) (fun c78 => ?_)
            · refine R_iconst (v := 0) dX3_readClause_85 (by decide) ?_
              exact R_zret dX3_readClause_86 rfl (by first | exact Or.inl rfl | exact Or.inr rfl | assumption | exact bl01 _ | omega) (⟨_, rfl, by revert c78; cases (clC f L s a v n).1 <;> simp [bl], h, g, hF⟩)
            · refine R_iconst (v := 1) dX3_readClause_81 (by decide) ?_
              refine R_goto (tgt := 86) dX3_readClause_82 (by decide) ?_
              exact R_zret dX3_readClause_86 rfl (by first | exact Or.inl rfl | exact Or.inr rfl | assumption | exact bl01 _ | omega) (⟨_, rfl, by revert c78; cases (clC f L s a v n).1 <;> simp [bl], h, g, hF⟩)
        · refine R_aload_n dX3_readClause_58 rfl ?_
          refine R_aload_n dX3_readClause_59 rfl ?_
          refine R_callVi dX3_readClause_60 cv_X3_85 ⟨by decide, by decide⟩ (e_readAway G hh h t g hs hL hm hap hap2 hap3 hn hv) h rfl rfl rfl (Nat.le_of_ble_eq_true rfl) (fun y hh hw => ?_)
          rw [← show clC f L s a v n = clA f L s a v from by unfold clC; rw [if_neg (by simpa [bl] using c6), if_neg (by simpa [bl] using c25), if_neg (by simpa [bl] using c40), if_pos (by simpa [bl] using c55)]] at hw
          obtain ⟨rfl, h, g, hF⟩ := hw
          exact R_zret dX3_readClause_63 rfl (by first | exact Or.inl rfl | exact Or.inr rfl | assumption | exact bl01 _ | omega) (⟨_, rfl, rfl, h, g, hF⟩)
      · refine R_aload_n dX3_readClause_43 rfl ?_
        refine R_aload_n dX3_readClause_44 rfl ?_
        refine R_callVi dX3_readClause_45 cv_X3_80 ⟨by decide, by decide⟩ (e_readBar G hh h t g hs hL hm hap hap2 hap3 hn hv) h rfl rfl rfl (Nat.le_of_ble_eq_true rfl) (fun y hh hw => ?_)
        rw [← show clC f L s a v n = clB f L s a v from by unfold clC; rw [if_neg (by simpa [bl] using c6), if_neg (by simpa [bl] using c25), if_pos (by simpa [bl] using c40)]] at hw
        obtain ⟨rfl, h, g, hF⟩ := hw
        exact R_zret dX3_readClause_48 rfl (by first | exact Or.inl rfl | exact Or.inr rfl | assumption | exact bl01 _ | omega) (⟨_, rfl, rfl, h, g, hF⟩)
    · refine R_aload_n dX3_readClause_28 rfl ?_
      refine R_aload_n dX3_readClause_29 rfl ?_
      refine R_callVi dX3_readClause_30 cv_X3_75 ⟨by decide, by decide⟩ (e_readJudge G hh h t g hs hL hm hap hap2 hap3 hn hv) h rfl rfl rfl (Nat.le_of_ble_eq_true rfl) (fun y hh hw => ?_)
      rw [← show clC f L s a v n = clJ f L s a v n from by unfold clC; rw [if_neg (by simpa [bl] using c6), if_pos (by simpa [bl] using c25)]] at hw
      obtain ⟨rfl, h, g, hF⟩ := hw
      exact R_zret dX3_readClause_33 rfl (by first | exact Or.inl rfl | exact Or.inr rfl | assumption | exact bl01 _ | omega) (⟨_, rfl, rfl, h, g, hF⟩)
  · refine R_aload_n dX3_readClause_9 rfl ?_
    refine R_callVv dX3_readClause_10 cv_X3_68 ⟨by decide, by decide⟩ (e_clearAll G hh g) g.1 rfl rfl rfl (Nat.le_of_ble_eq_true rfl) (fun hh hw => ?_)
    obtain ⟨g, hF1⟩ := hw
    have hF := hF.ts hF1
    have h := RdAt.fr h hF1 (by omega)
    have t := t.fr hF1 (by omega)
    refine R_aload_n dX3_readClause_13 rfl ?_
    refine R_callVv dX3_readClause_14 cv_X3_22 ⟨by decide, by decide⟩ (e_step G hh h t hL hm hap (tkE_le f hs)) h rfl rfl rfl (Nat.le_of_ble_eq_true rfl) (fun hh hw => ?_)
    obtain ⟨h, hF1⟩ := hw
    have hF := hF.tq hF1
    have t := t.fr hF1 (by omega)
    have g := g.fr hF1 (by omega)
    have h : TkAt G hh q k f L (nx f L s) c := h
    refine R_iconst (v := 1) dX3_readClause_17 (by decide) ?_
    exact R_zret dX3_readClause_18 rfl (by first | exact Or.inl rfl | exact Or.inr rfl | assumption | exact bl01 _ | omega) (⟨_, rfl, by rw [show clC f L s a v n = (true, nx f L s, sealA a, clrV v) from by unfold clC; rw [if_pos (by simpa [bl] using c6)]]; exact ⟨rfl, h, g, hF⟩⟩)
/-- clauses leave a number of judges that can be -/
theorem clC_n (f : Nat → Int32) (L s : Nat) (a : AA) (v : VV) {n : Nat} (hn : n ≤ 6) (hv : v 8 = nI n) : ∃ n', n' ≤ 6 ∧ (clC f L s a v n).2.2.2 8 = nI n' := by
  unfold clC
  split
  · exact ⟨0, by omega, rfl⟩
  · split
    · unfold clJ
      split
      · exact ⟨n, hn, hv⟩
      · split
        · exact ⟨n, hn, hv⟩
        · split
          · split
            · exact ⟨n, hn, hv⟩
            · exact ⟨n + 1, by omega, rfl⟩
          · exact ⟨n + 1, by omega, rfl⟩
    · split
      · unfold clB
        split
        · exact ⟨n, hn, hv⟩
        · split
          · exact ⟨n, hn, hv⟩
          · exact ⟨n, hn, hv⟩
      · split
        · unfold clA
          split
          · exact ⟨n, hn, hv⟩
          · exact ⟨n, hn, hv⟩
        · split
          · unfold clR
            split
            · exact ⟨n, hn, hv⟩
            · exact ⟨n, hn, hv⟩
          · exact ⟨n, hn, hv⟩
theorem clC_s (f : Nat → Int32) {L s : Nat} (hs : s ≤ L) (a : AA) (v : VV) (n : Nat) : (clC f L s a v n).2.1 ≤ L := by
  have h1 := nx_le f hs
  have h2 := nx_le f h1
  have h3 := nx_le f h2
  unfold clC clJ clB clA clR
  repeat' split
  all_goals assumption
abbrev RD : Type := Int32 × Nat × AA × VV
/-- what is left of the text, d clauses at most, read behind place e; the token before began at s; c clauses are read -/
def rdL (f : Nat → Int32) (L : Nat) : Nat → Nat → Nat → AA → VV → Nat → RD
  | 0, s, _, a, v, c => (nI s, c, a, v)
  | d + 1, _, e, a, v, c =>
    let R := clC f L (tkS f L e) a v (v 8).toNatClampNeg
    if ¬ R.1 = true then (nI R.2.1, c, R.2.2.1, R.2.2.2) else
    if tkK f L R.2.1 = 0 then (-1, c + 1, R.2.2.1, R.2.2.2) else
    if ¬ (tkK f L R.2.1 = 3 ∧ R.2.1 < L ∧ f R.2.1 = 59) then (nI R.2.1, c + 1, R.2.2.1, R.2.2.2) else
    rdL f L d R.2.1 (tkE f L R.2.1) R.2.2.1 R.2.2.2 (c + 1)
theorem LeAt.frx {G : GG} {hh hh' : HH} {k n q ks : Nat} {f : Nat → Int32} {len : Int32} (h : LeAt G hh k n f len) (hF : Fx q ks hh hh') (hk : (q < k ∨ k + 2 ≤ q) ∧ (k + 2 ≤ ks ∨ ks + 9 ≤ k)) : LeAt G hh' k n f len := ⟨⟨h.1.1, (hF k (by omega) (by omega)).trans h.1.2⟩, ⟨h.2.1, (hF (k + 1) (by omega) (by omega)).trans h.2.2⟩⟩
set_option maxRecDepth 4000 in
theorem l_readInto (G : GG) (hh0 : HH) {q k m L ks : Nat} {f : Nat → Int32} (hL : L ≤ m) (hm : m ≤ 1000) (hap : q < k ∨ k + 2 ≤ q) (hap2 : q < ks ∨ ks + 9 ≤ q) (hap3 : k + 2 ≤ ks ∨ ks + 9 ≤ k) : ∀ (d i s e n : Nat) (a : AA) (v : VV) (kd : Int32) (hh : HH), i + d = 24 → e ≤ L → n ≤ 6 → v 8 = nI n → RdAt G hh q k kd (nI s) (nI e) (nI i) → LeAt G hh k m f (nI L) → StAt G hh ks a v → Fx q ks hh0 hh → RR G mX3_readInto 12 [(0, .ref (ad G q)), (1, .ref (ad G ks)), (2, .int (nI i))] [] hh (fun r h1 => ∃ y, r = some (.int y) ∧ (y = (rdL f L d s e a v i).1 ∧ (∃ kd s1 e1, RdAt G h1 q k kd s1 e1 (nI (rdL f L d s e a v i).2.1)) ∧ StAt G h1 ks (rdL f L d s e a v i).2.2.1 (rdL f L d s e a v i).2.2.2 ∧ Fx q ks hh0 h1)) := by
  intro d
  induction d with
  | zero =>
    intro i s e n a v kd hh hi he hn hv h t g hF
    refine R_iload_n dX3_readInto_12 rfl ?_
    refine R_bipush (v := 24) dX3_readInto_13 (by decide) ?_
    refine R_icmp_ge (tgt := 74) dX3_readInto_15 (by decide) (fun c15 => ?_) (fun c15 => absurd (nI_le (a := 24) (by omega) (by omega)) c15)
    refine R_aload_n dX3_readInto_74 rfl ?_
    refine R_get dX3_readInto_75 gf_X3_29 h rfl ?_
    exact R_iret dX3_readInto_78 rfl (⟨_, rfl, rfl, ⟨_, _, _, h⟩, g, hF⟩)
  | succ d ih =>
    intro i s e n a v kd hh hi he hn hv h t g hF
    refine R_iload_n dX3_readInto_12 rfl ?_
    refine R_bipush (v := 24) dX3_readInto_13 (by decide) ?_
    refine R_icmp_ge (tgt := 74) dX3_readInto_15 (by decide) (fun c15 => absurd c15 (nI_ge (b := 24) (by omega) (by omega))) (fun c15 => ?_)
    refine R_aload_n dX3_readInto_18 rfl ?_
    refine R_callVv dX3_readInto_19 cv_X3_22 ⟨by decide, by decide⟩ (e_step G hh h t hL hm hap he) h rfl rfl rfl (Nat.le_of_ble_eq_true rfl) (fun hh hw => ?_)
    obtain ⟨h, hF1⟩ := hw
    have hF := hF.tq hF1
    have t := t.fr hF1 (by omega)
    have g := g.fr hF1 (by omega)
    have hs1 := tkS_le f he
    have h : TkAt G hh q k f L (tkS f L e) (nI i) := h
    have hnv : (v 8).toNatClampNeg = n := by rw [hv]; exact nI_clamp (by omega)
    refine R_aload_n dX3_readInto_22 rfl ?_
    refine R_aload_n dX3_readInto_23 rfl ?_
    refine R_callVi dX3_readInto_24 cv_X3_25 ⟨by decide, by decide⟩ (e_readClause G hh h t g hs1 hL hm hap hap2 hap3 hn hv) h rfl rfl rfl (Nat.le_of_ble_eq_true rfl) (fun y hh hw => ?_)
    obtain ⟨rfl, h, g, hF1⟩ := hw
    have hF := hF.tr hF1
    have t := t.frx hF1 (by omega)
    obtain ⟨n2, hn2, hv2⟩ := clC_n f L (tkS f L e) a v hn hv
    have hs2 := clC_s f hs1 a v n
    refine R_if_ne (tgt := 35) dX3_readInto_27 (by decide) (fun c27 => ?_) (fun c27 => ?_)
    · refine R_aload_n dX3_readInto_35 rfl ?_
      refine R_dup dX3_readInto_36 rfl ?_
      refine R_get dX3_readInto_37 gf_X3_19 h rfl ?_
      refine R_iconst (v := 1) dX3_readInto_40 (by decide) ?_
      refine R_iadd dX3_readInto_41 ?_
      refine RR.top (y := nI (i + 1)) (nI_1 i) ?_
      refine Rd_put4 dX3_readInto_42 pf_X3_19 h (fun hh h hF1 => ?_)
      have hF := hF.tq hF1
      have t := t.fr hF1 (by omega)
      have g := g.fr hF1 (by omega)
      refine R_aload_n dX3_readInto_45 rfl ?_
      refine R_get dX3_readInto_46 gf_X3_32 h rfl ?_
      refine R_if_ne (tgt := 54) dX3_readInto_49 (by decide) (fun c49 => ?_) (fun c49 => ?_)
      · refine R_aload_n dX3_readInto_54 rfl ?_
        refine R_bipush (v := 59) dX3_readInto_55 (by decide) ?_
        refine R_callVp dX3_readInto_57 cv_X3_35 ⟨by decide, by decide⟩ (e_isOther G hh h t hL hm (tkE_ge f L (clC f L (tkS f L e) a v n).2.1) (tkE_le f hs2) 59) h rfl rfl rfl (Nat.le_of_ble_eq_true rfl) ?_
        refine R_if_ne (tgt := 68) dX3_readInto_60 (by decide) (fun c60 => ?_) (fun c60 => ?_)
        · refine R_iinc (y := nI (i + 1)) dX3_readInto_68 rfl (by decide) (nI_s i) ?_
          refine R_goto (tgt := 12) dX3_readInto_71 (by decide) ?_
          rw [show rdL f L (d + 1) s e a v i = rdL f L d (clC f L (tkS f L e) a v n).2.1 (tkE f L (clC f L (tkS f L e) a v n).2.1) (clC f L (tkS f L e) a v n).2.2.1 (clC f L (tkS f L e) a v n).2.2.2 (i + 1) from by show (if _ then _ else _) = _; rw [hnv]; rw [if_neg (by revert c27; cases (clC f L (tkS f L e) a v n).1 <;> simp [bl]), if_neg c49, if_neg (by simpa [bl] using c60)]]
          exact RR.pick [1, 2, 0] rfl (ih (i + 1) (clC f L (tkS f L e) a v n).2.1 (tkE f L (clC f L (tkS f L e) a v n).2.1) n2 (clC f L (tkS f L e) a v n).2.2.1 (clC f L (tkS f L e) a v n).2.2.2 _ hh (by omega) (tkE_le f hs2) hn2 hv2 h t g hF)
        · refine R_aload_n dX3_readInto_63 rfl ?_
          refine R_get dX3_readInto_64 gf_X3_29 h rfl ?_
          exact R_iret dX3_readInto_67 rfl (⟨_, rfl, by rw [show rdL f L (d + 1) s e a v i = (nI (clC f L (tkS f L e) a v n).2.1, i + 1, (clC f L (tkS f L e) a v n).2.2.1, (clC f L (tkS f L e) a v n).2.2.2) from by show (if _ then _ else _) = _; rw [hnv]; rw [if_neg (by revert c27; cases (clC f L (tkS f L e) a v n).1 <;> simp [bl]), if_neg c49, if_pos (by simpa [bl] using c60)]]; exact ⟨rfl, ⟨_, _, _, h⟩, g, hF⟩⟩)
      · refine R_iconst (v := (-1)) dX3_readInto_52 (by decide) ?_
        exact R_iret dX3_readInto_53 rfl (⟨_, rfl, by rw [show rdL f L (d + 1) s e a v i = (-1, i + 1, (clC f L (tkS f L e) a v n).2.2.1, (clC f L (tkS f L e) a v n).2.2.2) from by show (if _ then _ else _) = _; rw [hnv]; rw [if_neg (by revert c27; cases (clC f L (tkS f L e) a v n).1 <;> simp [bl]), if_pos (Classical.not_not.mp c49)]]; exact ⟨rfl, ⟨_, _, _, h⟩, g, hF⟩⟩)
    · refine R_aload_n dX3_readInto_30 rfl ?_
      refine R_get dX3_readInto_31 gf_X3_29 h rfl ?_
      exact R_iret dX3_readInto_34 rfl (⟨_, rfl, by rw [show rdL f L (d + 1) s e a v i = (nI (clC f L (tkS f L e) a v n).2.1, i, (clC f L (tkS f L e) a v n).2.2.1, (clC f L (tkS f L e) a v n).2.2.2) from by show (if _ then _ else _) = _; rw [hnv]; rw [if_pos (by revert c27; cases (clC f L (tkS f L e) a v n).1 <;> simp [bl])]]; exact ⟨rfl, ⟨_, _, _, h⟩, g, hF⟩⟩)
set_option maxRecDepth 4000 in
theorem e_readInto (G : GG) (hh : HH) {q k m L ks n s0 : Nat} {f : Nat → Int32} {a : AA} {v : VV} {kd e0 c0 : Int32} (h : RdAt G hh q k kd (nI s0) e0 c0) (t : LeAt G hh k m f (nI L)) (g : StAt G hh ks a v) (hL : L ≤ m) (hm : m ≤ 1000) (hap : q < k ∨ k + 2 ≤ q) (hap2 : q < ks ∨ ks + 9 ≤ q) (hap3 : k + 2 ≤ ks ∨ ks + 9 ≤ k) (hn : n ≤ 6) (hv : v 8 = nI n) : EVi G mX3_readInto [.ref (ad G q), .ref (ad G ks)] hh (fun y h1 => y = (rdL f L 24 s0 0 a v 0).1 ∧ (∃ kd s1 e1, RdAt G h1 q k kd s1 e1 (nI (rdL f L 24 s0 0 a v 0).2.1)) ∧ StAt G h1 ks (rdL f L 24 s0 0 a v 0).2.2.1 (rdL f L 24 s0 0 a v 0).2.2.2 ∧ Fx q ks hh h1) := by
  refine EV.of [(0, .ref (ad G q)), (1, .ref (ad G ks))] (by decide +kernel) (Nat.le_of_ble_eq_true rfl) rfl ?_
  have hF : Fx q ks hh hh := Fx.rf
  refine R_aload_n dX3_readInto_0 rfl ?_
  refine R_iconst (v := 0) dX3_readInto_1 (by decide) ?_
  refine Rd_put3 dX3_readInto_2 pf_X3_15 h (fun hh h hF1 => ?_)
  have hF := hF.tq hF1
  have t := t.fr hF1 (by omega)
  have g := g.fr hF1 (by omega)
  refine R_aload_n dX3_readInto_5 rfl ?_
  refine R_iconst (v := 0) dX3_readInto_6 (by decide) ?_
  refine Rd_put4 dX3_readInto_7 pf_X3_19 h (fun hh h hF1 => ?_)
  have hF := hF.tq hF1
  have t := t.fr hF1 (by omega)
  have g := g.fr hF1 (by omega)
  refine R_iconst (v := 0) dX3_readInto_10 (by decide) ?_
  refine R_istore_n dX3_readInto_11 (by decide) ?_
  exact RR.pick [1, 2, 0] rfl (l_readInto G _ hL hm hap hap2 hap3 24 0 s0 0 n a v _ hh (by omega) (Nat.zero_le L) hn hv h t g hF)
