def Fx (q ks : Nat) (hh hh' : HH) : Prop := ∀ i, i ≠ q → (i < ks ∨ ks + 9 ≤ i) → hh' i = hh i
theorem Fx.rf {q ks : Nat} {hh : HH} : Fx q ks hh hh := fun _ _ _ => rfl
theorem Fx.tq {q ks : Nat} {h1 h2 h3 : HH} (a : Fx q ks h1 h2) (b : Fr q (q + 1) h2 h3) : Fx q ks h1 h3 := fun i hi hk => (b i (by omega)).trans (a i hi hk)
theorem Fx.ts {q ks : Nat} {h1 h2 h3 : HH} (a : Fx q ks h1 h2) (b : Fr ks (ks + 9) h2 h3) : Fx q ks h1 h3 := fun i hi hk => (b i hk).trans (a i hi hk)
theorem Fx.tr {q ks : Nat} {h1 h2 h3 : HH} (a : Fx q ks h1 h2) (b : Fx q ks h2 h3) : Fx q ks h1 h3 := fun i hi hk => (b i hi hk).trans (a i hi hk)
/-- the token behind the one that begins at s -/
def nx (f : Nat → Int32) (L s : Nat) : Nat := tkS f L (tkE f L s)
theorem nx_le (f : Nat → Int32) {L s : Nat} (h : s ≤ L) : nx f L s ≤ L := tkS_le f (tkE_le f h)
/-- the reader stands at the token that begins at s -/
abbrev TkAt (G : GG) (hh : HH) (q k : Nat) (f : Nat → Int32) (L s : Nat) (c : Int32) : Prop := RdAt G hh q k (tkK f L s) (nI s) (nI (tkE f L s)) c
def wdT (f : Nat → Int32) (L s w : Nat) : Bool := decide (tkK f L s = 1) && isW f s (tkE f L s) w
def nmT (f : Nat → Int32) (L s : Nat) (lo hi : Int32) : Int32 := numW f s (tkE f L s) (tkK f L s) lo hi
def vtT (f : Nat → Int32) (L s : Nat) : Int32 := vrT f s (tkE f L s - s) 0
def rlT (f : Nat → Int32) (L s : Nat) : Int32 := if tkK f L s = 1 then rulL f s (tkE f L s) 0 4 else -1
abbrev CR : Type := Bool × Nat × AA × VV
def clJ (f : Nat → Int32) (L s : Nat) (a : AA) (v : VV) (n : Nat) : CR :=
  if 6 ≤ n then (false, s, a, v) else
  if nmT f L (nx f L s) 1 9 = -1 then (false, nx f L s, a, v) else
  if tkK f L (nx f L (nx f L s)) = 1 then
    if vtT f L (nx f L (nx f L s)) = 0 then (false, nx f L (nx f L s), a, v)
    else (true, nx f L (nx f L (nx f L s)), ajA a n (nmT f L (nx f L s) 1 9) (vtT f L (nx f L (nx f L s))), va_up v 8 (nI (n + 1)))
  else (true, nx f L (nx f L s), ajA a n (nmT f L (nx f L s) 1 9) 0, va_up v 8 (nI (n + 1)))
def clB (f : Nat → Int32) (L s : Nat) (a : AA) (v : VV) : CR :=
  if nmT f L (nx f L s) 0 (v 8 - 1) = -1 then (false, nx f L s, a, v) else
  if nmT f L (nx f L (nx f L s)) 0 9 = -1 then (false, nx f L (nx f L s), a, v) else
  (true, nx f L (nx f L (nx f L s)), va_up a 2 (upd (a 2) (nmT f L (nx f L s) 0 (v 8 - 1)).toNatClampNeg (a 2 (nmT f L (nx f L s) 0 (v 8 - 1)).toNatClampNeg ||| ((1 : Int32) <<< (nmT f L (nx f L (nx f L s)) 0 9 &&& 31)))), v)
def clA (f : Nat → Int32) (L s : Nat) (a : AA) (v : VV) : CR :=
  if nmT f L (nx f L s) 0 (v 8 - 1) = -1 then (false, nx f L s, a, v) else
  (true, nx f L (nx f L s), a, va_up v 9 (v 9 ||| ((1 : Int32) <<< (nmT f L (nx f L s) 0 (v 8 - 1) &&& 31))))
def clR (f : Nat → Int32) (L s : Nat) (a : AA) (v : VV) : CR :=
  if rlT f L (nx f L s) = -1 then (false, nx f L s, a, v) else (true, nx f L (nx f L s), a, va_up v 10 (rlT f L (nx f L s)))
def clC (f : Nat → Int32) (L s : Nat) (a : AA) (v : VV) (n : Nat) : CR :=
  if wdT f L s 0 = true then (true, nx f L s, sealA a, clrV v) else
  if wdT f L s 1 = true then clJ f L s a v n else
  if wdT f L s 2 = true then clB f L s a v else
  if wdT f L s 3 = true then clA f L s a v else
  if wdT f L s 4 = true then clR f L s a v else (false, s, a, v)
theorem numW_in {f : Nat → Int32} {s e : Nat} {kd hi : Int32} (h : ¬ numW f s e kd 0 hi = -1) {n : Nat} (hn : n ≤ 6) (hh : hi = nI n - 1) : vp_in (numW f s e kd 0 hi) 6 := by
  revert h
  unfold numW
  generalize (if kd = 2 then numOf f s e 2 else -1) = x
  intro h
  by_cases q : x < 0 ∨ hi < x
  · simp only [if_pos q] at h
    exact absurd trivial h
  · simp only [if_neg q] at h ⊢
    rw [vp_in_iff]
    have q1 : ¬ x < 0 := fun z => q (Or.inl z)
    have q2 : ¬ hi < x := fun z => q (Or.inr z)
    rw [Int32.lt_iff_toInt_lt] at q1 q2
    have e1 : hi.toInt = (n : Int) - 1 := by
      rw [hh]
      rcases (show n = 0 ∨ n = 1 ∨ n = 2 ∨ n = 3 ∨ n = 4 ∨ n = 5 ∨ n = 6 by omega) with rfl | rfl | rfl | rfl | rfl | rfl | rfl <;> decide
    have e0 : (0 : Int32).toInt = 0 := by decide
    omega
set_option maxRecDepth 4000 in
theorem e_readJudge (G : GG) (hh : HH) {q k m L s ks n : Nat} {f : Nat → Int32} {a : AA} {v : VV} {c : Int32} (h : TkAt G hh q k f L s c) (t : LeAt G hh k m f (nI L)) (g : StAt G hh ks a v) (hs : s ≤ L) (hL : L ≤ m) (hm : m ≤ 1000) (hap : q < k ∨ k + 2 ≤ q) (hap2 : q < ks ∨ ks + 9 ≤ q) (hap3 : k + 2 ≤ ks ∨ ks + 9 ≤ k) (hn : n ≤ 6) (hv : v 8 = nI n) : EVi G mX3_readJudge [.ref (ad G q), .ref (ad G ks)] hh (fun y h1 => y = bl (clJ f L s a v n).1 ∧ TkAt G h1 q k f L (clJ f L s a v n).2.1 c ∧ StAt G h1 ks (clJ f L s a v n).2.2.1 (clJ f L s a v n).2.2.2 ∧ Fx q ks hh h1) := by
  refine EV.of [(0, .ref (ad G q)), (1, .ref (ad G ks))] (by decide +kernel) (Nat.le_of_ble_eq_true rfl) rfl ?_
  have hF : Fx q ks hh hh := Fx.rf
  refine R_aload_n dX3_readJudge_0 rfl ?_
  refine R_get dX3_readJudge_1 gf_X3_93 g.1 rfl ?_
  refine R_bipush (v := 6) dX3_readJudge_4 (by decide) ?_
  refine R_icmp_lt (tgt := 11) dX3_readJudge_6 (by decide) (fun c6 => ?_) (fun c6 => ?_)
  · refine R_aload_n dX3_readJudge_11 rfl ?_
    refine R_callVv dX3_readJudge_12 cv_X3_22 ⟨by decide, by decide⟩ (e_step G hh h t hL hm hap (tkE_le f hs)) h rfl rfl rfl (Nat.le_of_ble_eq_true rfl) (fun hh hw => ?_)
    obtain ⟨h, hF1⟩ := hw
    have hF := hF.tq hF1
    have t := t.fr hF1 (by omega)
    have g := g.fr hF1 (by omega)
    have h : TkAt G hh q k f L (nx f L s) c := h
    refine R_aload_n dX3_readJudge_15 rfl ?_
    refine R_iconst (v := 1) dX3_readJudge_16 (by decide) ?_
    refine R_bipush (v := 9) dX3_readJudge_17 (by decide) ?_
    refine R_callVp (w := nmT f L (nx f L s) 1 9) dX3_readJudge_19 cv_X3_96 ⟨by decide, by decide⟩ (e_numberWithin G hh h t hL hm (tkE_ge f L (nx f L s)) (tkE_le f (nx_le f hs)) 1 9) h rfl rfl rfl (Nat.le_of_ble_eq_true rfl) ?_
    refine R_istore_n dX3_readJudge_22 (by decide) ?_
    refine R_iload_n dX3_readJudge_23 rfl ?_
    refine R_iconst (v := (-1)) dX3_readJudge_24 (by decide) ?_
    refine R_icmp_ne (tgt := 30) dX3_readJudge_25 (by decide) (fun c25 => ?_) (fun c25 => ?_)
    · refine R_aload_n dX3_readJudge_30 rfl ?_
      refine R_callVv dX3_readJudge_31 cv_X3_22 ⟨by decide, by decide⟩ (e_step G hh h t hL hm hap (tkE_le f (nx_le f hs))) h rfl rfl rfl (Nat.le_of_ble_eq_true rfl) (fun hh hw => ?_)
      obtain ⟨h, hF1⟩ := hw
      have hF := hF.tq hF1
      have t := t.fr hF1 (by omega)
      have g := g.fr hF1 (by omega)
      have h : TkAt G hh q k f L (nx f L (nx f L s)) c := h
      refine R_iconst (v := 0) dX3_readJudge_34 (by decide) ?_
      refine R_istore_n dX3_readJudge_35 (by decide) ?_
      refine R_aload_n dX3_readJudge_36 rfl ?_
      refine R_get dX3_readJudge_37 gf_X3_32 h rfl ?_
      refine R_iconst (v := 1) dX3_readJudge_40 (by decide) ?_
      refine R_icmp_ne (tgt := 59) dX3_readJudge_41 (by decide) (fun c41 => ?_) (fun c41 => ?_)
      · refine R_aload_n dX3_readJudge_59 rfl ?_
        refine R_iload_n dX3_readJudge_60 rfl ?_
        refine R_iload_n dX3_readJudge_61 rfl ?_
        refine R_callVv dX3_readJudge_62 cv_X3_104 ⟨by decide, by decide⟩ (e_addJudge G hh g (show n < 6 by (rw [hv] at c6; exact (nI_ltI (b := 6) (by omega) (by omega)).mp c6)) hv _ _) g.1 rfl rfl rfl (Nat.le_of_ble_eq_true rfl) (fun hh hw => ?_)
        obtain ⟨g, hF1⟩ := hw
        have hF := hF.ts hF1
        have h := RdAt.fr h hF1 (by omega)
        refine R_iconst (v := 1) dX3_readJudge_65 (by decide) ?_
        exact R_zret dX3_readJudge_66 rfl (by first | exact Or.inl rfl | exact Or.inr rfl | assumption | exact bl01 _ | omega) (⟨_, rfl, by rw [show clJ f L s a v n = (true, nx f L (nx f L s), ajA a n (nmT f L (nx f L s) 1 9) 0, va_up v 8 (nI (n + 1))) from by unfold clJ; rw [if_neg (by rw [hv] at c6; have := (nI_ltI (a := n) (b := 6) (by omega) (by omega)); revert c6; rw [show (6 : Int32) = nI 6 from rfl, this]; omega), if_neg c25, if_neg c41]]; exact ⟨rfl, h, g, hF⟩⟩)
      · refine R_aload_n dX3_readJudge_44 rfl ?_
        refine R_callVp (w := vtT f L (nx f L (nx f L s))) dX3_readJudge_45 cv_X3_100 ⟨by decide, by decide⟩ (e_versedTold G hh h t hL hm (tkE_ge f L (nx f L (nx f L s))) (tkE_le f (nx_le f (nx_le f hs)))) h rfl rfl rfl (Nat.le_of_ble_eq_true rfl) ?_
        refine R_istore_n dX3_readJudge_48 (by decide) ?_
        refine R_iload_n dX3_readJudge_49 rfl ?_
        refine R_if_ne (tgt := 55) dX3_readJudge_50 (by decide) (fun c50 => ?_) (fun c50 => ?_)
        · refine R_aload_n dX3_readJudge_55 rfl ?_
          refine R_callVv dX3_readJudge_56 cv_X3_22 ⟨by decide, by decide⟩ (e_step G hh h t hL hm hap (tkE_le f (nx_le f (nx_le f hs)))) h rfl rfl rfl (Nat.le_of_ble_eq_true rfl) (fun hh hw => ?_)
          obtain ⟨h, hF1⟩ := hw
          have hF := hF.tq hF1
          have t := t.fr hF1 (by omega)
          have g := g.fr hF1 (by omega)
          have h : TkAt G hh q k f L (nx f L (nx f L (nx f L s))) c := h
          refine R_aload_n dX3_readJudge_59 rfl ?_
          refine R_iload_n dX3_readJudge_60 rfl ?_
          refine R_iload_n dX3_readJudge_61 rfl ?_
          refine R_callVv dX3_readJudge_62 cv_X3_104 ⟨by decide, by decide⟩ (e_addJudge G hh g (show n < 6 by (rw [hv] at c6; exact (nI_ltI (b := 6) (by omega) (by omega)).mp c6)) hv _ _) g.1 rfl rfl rfl (Nat.le_of_ble_eq_true rfl) (fun hh hw => ?_)
          obtain ⟨g, hF1⟩ := hw
          have hF := hF.ts hF1
          have h := RdAt.fr h hF1 (by omega)
          refine R_iconst (v := 1) dX3_readJudge_65 (by decide) ?_
          exact R_zret dX3_readJudge_66 rfl (by first | exact Or.inl rfl | exact Or.inr rfl | assumption | exact bl01 _ | omega) (⟨_, rfl, by rw [show clJ f L s a v n = (true, nx f L (nx f L (nx f L s)), ajA a n (nmT f L (nx f L s) 1 9) (vtT f L (nx f L (nx f L s))), va_up v 8 (nI (n + 1))) from by unfold clJ; rw [if_neg (by rw [hv] at c6; have := (nI_ltI (a := n) (b := 6) (by omega) (by omega)); revert c6; rw [show (6 : Int32) = nI 6 from rfl, this]; omega), if_neg c25, if_pos (Classical.not_not.mp c41), if_neg c50]]; exact ⟨rfl, h, g, hF⟩⟩)
        · refine R_iconst (v := 0) dX3_readJudge_53 (by decide) ?_
          exact R_zret dX3_readJudge_54 rfl (by first | exact Or.inl rfl | exact Or.inr rfl | assumption | exact bl01 _ | omega) (⟨_, rfl, by rw [show clJ f L s a v n = (false, nx f L (nx f L s), a, v) from by unfold clJ; rw [if_neg (by rw [hv] at c6; have := (nI_ltI (a := n) (b := 6) (by omega) (by omega)); revert c6; rw [show (6 : Int32) = nI 6 from rfl, this]; omega), if_neg c25, if_pos (Classical.not_not.mp c41), if_pos (Classical.not_not.mp c50)]]; exact ⟨rfl, h, g, hF⟩⟩)
    · refine R_iconst (v := 0) dX3_readJudge_28 (by decide) ?_
      exact R_zret dX3_readJudge_29 rfl (by first | exact Or.inl rfl | exact Or.inr rfl | assumption | exact bl01 _ | omega) (⟨_, rfl, by rw [show clJ f L s a v n = (false, nx f L s, a, v) from by unfold clJ; rw [if_neg (by rw [hv] at c6; have := (nI_ltI (a := n) (b := 6) (by omega) (by omega)); revert c6; rw [show (6 : Int32) = nI 6 from rfl, this]; omega), if_pos (Classical.not_not.mp c25)]]; exact ⟨rfl, h, g, hF⟩⟩)
  · refine R_iconst (v := 0) dX3_readJudge_9 (by decide) ?_
    exact R_zret dX3_readJudge_10 rfl (by first | exact Or.inl rfl | exact Or.inr rfl | assumption | exact bl01 _ | omega) (⟨_, rfl, by rw [show clJ f L s a v n = (false, s, a, v) from by unfold clJ; rw [if_pos (by rw [hv] at c6; have := (nI_ltI (a := n) (b := 6) (by omega) (by omega)); revert c6; rw [show (6 : Int32) = nI 6 from rfl, this]; omega)]]; exact ⟨rfl, h, g, hF⟩⟩)
set_option maxRecDepth 4000 in
theorem e_readBar (G : GG) (hh : HH) {q k m L s ks n : Nat} {f : Nat → Int32} {a : AA} {v : VV} {c : Int32} (h : TkAt G hh q k f L s c) (t : LeAt G hh k m f (nI L)) (g : StAt G hh ks a v) (hs : s ≤ L) (hL : L ≤ m) (hm : m ≤ 1000) (hap : q < k ∨ k + 2 ≤ q) (hap2 : q < ks ∨ ks + 9 ≤ q) (hap3 : k + 2 ≤ ks ∨ ks + 9 ≤ k) (hn : n ≤ 6) (hv : v 8 = nI n) : EVi G mX3_readBar [.ref (ad G q), .ref (ad G ks)] hh (fun y h1 => y = bl (clB f L s a v).1 ∧ TkAt G h1 q k f L (clB f L s a v).2.1 c ∧ StAt G h1 ks (clB f L s a v).2.2.1 (clB f L s a v).2.2.2 ∧ Fx q ks hh h1) := by
  refine EV.of [(0, .ref (ad G q)), (1, .ref (ad G ks))] (by decide +kernel) (Nat.le_of_ble_eq_true rfl) rfl ?_
  have hF : Fx q ks hh hh := Fx.rf
  refine R_aload_n dX3_readBar_0 rfl ?_
  refine R_callVv dX3_readBar_1 cv_X3_22 ⟨by decide, by decide⟩ (e_step G hh h t hL hm hap (tkE_le f hs)) h rfl rfl rfl (Nat.le_of_ble_eq_true rfl) (fun hh hw => ?_)
  obtain ⟨h, hF1⟩ := hw
  have hF := hF.tq hF1
  have t := t.fr hF1 (by omega)
  have g := g.fr hF1 (by omega)
  have h : TkAt G hh q k f L (nx f L s) c := h
  refine R_aload_n dX3_readBar_4 rfl ?_
  refine R_iconst (v := 0) dX3_readBar_5 (by decide) ?_
  refine R_aload_n dX3_readBar_6 rfl ?_
  refine R_get dX3_readBar_7 gf_X3_93 g.1 rfl ?_
  refine R_iconst (v := 1) dX3_readBar_10 (by decide) ?_
  refine R_isub dX3_readBar_11 ?_
  refine R_callVp (w := nmT f L (nx f L s) 0 (v 8 - 1)) dX3_readBar_12 cv_X3_96 ⟨by decide, by decide⟩ (e_numberWithin G hh h t hL hm (tkE_ge f L (nx f L s)) (tkE_le f (nx_le f hs)) 0 (v 8 - 1)) h rfl rfl rfl (Nat.le_of_ble_eq_true rfl) ?_
  refine R_istore_n dX3_readBar_15 (by decide) ?_
  refine R_iload_n dX3_readBar_16 rfl ?_
  refine R_iconst (v := (-1)) dX3_readBar_17 (by decide) ?_
  refine R_icmp_ne (tgt := 23) dX3_readBar_18 (by decide) (fun c18 => ?_) (fun c18 => ?_)
  · refine R_aload_n dX3_readBar_23 rfl ?_
    refine R_callVv dX3_readBar_24 cv_X3_22 ⟨by decide, by decide⟩ (e_step G hh h t hL hm hap (tkE_le f (nx_le f hs))) h rfl rfl rfl (Nat.le_of_ble_eq_true rfl) (fun hh hw => ?_)
    obtain ⟨h, hF1⟩ := hw
    have hF := hF.tq hF1
    have t := t.fr hF1 (by omega)
    have g := g.fr hF1 (by omega)
    have h : TkAt G hh q k f L (nx f L (nx f L s)) c := h
    refine R_aload_n dX3_readBar_27 rfl ?_
    refine R_iconst (v := 0) dX3_readBar_28 (by decide) ?_
    refine R_bipush (v := 9) dX3_readBar_29 (by decide) ?_
    refine R_callVp (w := nmT f L (nx f L (nx f L s)) 0 9) dX3_readBar_31 cv_X3_96 ⟨by decide, by decide⟩ (e_numberWithin G hh h t hL hm (tkE_ge f L (nx f L (nx f L s))) (tkE_le f (nx_le f (nx_le f hs))) 0 9) h rfl rfl rfl (Nat.le_of_ble_eq_true rfl) ?_
    refine R_istore_n dX3_readBar_34 (by decide) ?_
    refine R_iload_n dX3_readBar_35 rfl ?_
    refine R_iconst (v := (-1)) dX3_readBar_36 (by decide) ?_
    refine R_icmp_ne (tgt := 42) dX3_readBar_37 (by decide) (fun c37 => ?_) (fun c37 => ?_)
    · refine R_aload_n dX3_readBar_42 rfl ?_
      refine R_get dX3_readBar_43 gf_X3_111 g.1 rfl ?_
      refine R_iload_n dX3_readBar_46 rfl ?_
      refine R_dup2 dX3_readBar_47 rfl rfl ?_
      refine R_iald dX3_readBar_48 g.a2 (numW_in c18 hn (by rw [hv])) ?_
      refine R_iconst (v := 1) dX3_readBar_49 (by decide) ?_
      refine R_iload_n dX3_readBar_50 rfl ?_
      refine R_ishl dX3_readBar_51 ?_
      refine R_ior dX3_readBar_52 ?_
      refine St_ast2 dX3_readBar_53 g (numW_in c18 hn (by rw [hv])) (fun hh g hF1 => ?_)
      have hF := hF.ts hF1
      have h := RdAt.fr h hF1 (by omega)
      have t := t.fr hF1 (by omega)
      refine R_aload_n dX3_readBar_54 rfl ?_
      refine R_callVv dX3_readBar_55 cv_X3_22 ⟨by decide, by decide⟩ (e_step G hh h t hL hm hap (tkE_le f (nx_le f (nx_le f hs)))) h rfl rfl rfl (Nat.le_of_ble_eq_true rfl) (fun hh hw => ?_)
      obtain ⟨h, hF1⟩ := hw
      have hF := hF.tq hF1
      have t := t.fr hF1 (by omega)
      have g := g.fr hF1 (by omega)
      have h : TkAt G hh q k f L (nx f L (nx f L (nx f L s))) c := h
      refine R_iconst (v := 1) dX3_readBar_58 (by decide) ?_
      exact R_zret dX3_readBar_59 rfl (by first | exact Or.inl rfl | exact Or.inr rfl | assumption | exact bl01 _ | omega) (⟨_, rfl, by rw [show clB f L s a v = (true, nx f L (nx f L (nx f L s)), va_up a 2 (upd (a 2) (nmT f L (nx f L s) 0 (v 8 - 1)).toNatClampNeg (a 2 (nmT f L (nx f L s) 0 (v 8 - 1)).toNatClampNeg ||| ((1 : Int32) <<< (nmT f L (nx f L (nx f L s)) 0 9 &&& 31)))), v) from by unfold clB; rw [if_neg c18, if_neg c37]]; exact ⟨rfl, h, g, hF⟩⟩)
    · refine R_iconst (v := 0) dX3_readBar_40 (by decide) ?_
      exact R_zret dX3_readBar_41 rfl (by first | exact Or.inl rfl | exact Or.inr rfl | assumption | exact bl01 _ | omega) (⟨_, rfl, by rw [show clB f L s a v = (false, nx f L (nx f L s), a, v) from by unfold clB; rw [if_neg c18, if_pos (Classical.not_not.mp c37)]]; exact ⟨rfl, h, g, hF⟩⟩)
  · refine R_iconst (v := 0) dX3_readBar_21 (by decide) ?_
    exact R_zret dX3_readBar_22 rfl (by first | exact Or.inl rfl | exact Or.inr rfl | assumption | exact bl01 _ | omega) (⟨_, rfl, by rw [show clB f L s a v = (false, nx f L s, a, v) from by unfold clB; rw [if_pos (Classical.not_not.mp c18)]]; exact ⟨rfl, h, g, hF⟩⟩)
set_option maxRecDepth 4000 in
theorem e_readAway (G : GG) (hh : HH) {q k m L s ks n : Nat} {f : Nat → Int32} {a : AA} {v : VV} {c : Int32} (h : TkAt G hh q k f L s c) (t : LeAt G hh k m f (nI L)) (g : StAt G hh ks a v) (hs : s ≤ L) (hL : L ≤ m) (hm : m ≤ 1000) (hap : q < k ∨ k + 2 ≤ q) (hap2 : q < ks ∨ ks + 9 ≤ q) (hap3 : k + 2 ≤ ks ∨ ks + 9 ≤ k) (hn : n ≤ 6) (hv : v 8 = nI n) : EVi G mX3_readAway [.ref (ad G q), .ref (ad G ks)] hh (fun y h1 => y = bl (clA f L s a v).1 ∧ TkAt G h1 q k f L (clA f L s a v).2.1 c ∧ StAt G h1 ks (clA f L s a v).2.2.1 (clA f L s a v).2.2.2 ∧ Fx q ks hh h1) := by
  refine EV.of [(0, .ref (ad G q)), (1, .ref (ad G ks))] (by decide +kernel) (Nat.le_of_ble_eq_true rfl) rfl ?_
  have hF : Fx q ks hh hh := Fx.rf
  refine R_aload_n dX3_readAway_0 rfl ?_
  refine R_callVv dX3_readAway_1 cv_X3_22 ⟨by decide, by decide⟩ (e_step G hh h t hL hm hap (tkE_le f hs)) h rfl rfl rfl (Nat.le_of_ble_eq_true rfl) (fun hh hw => ?_)
  obtain ⟨h, hF1⟩ := hw
  have hF := hF.tq hF1
  have t := t.fr hF1 (by omega)
  have g := g.fr hF1 (by omega)
  have h : TkAt G hh q k f L (nx f L s) c := h
  refine R_aload_n dX3_readAway_4 rfl ?_
  refine R_iconst (v := 0) dX3_readAway_5 (by decide) ?_
  refine R_aload_n dX3_readAway_6 rfl ?_
  refine R_get dX3_readAway_7 gf_X3_93 g.1 rfl ?_
  refine R_iconst (v := 1) dX3_readAway_10 (by decide) ?_
  refine R_isub dX3_readAway_11 ?_
  refine R_callVp (w := nmT f L (nx f L s) 0 (v 8 - 1)) dX3_readAway_12 cv_X3_96 ⟨by decide, by decide⟩ (e_numberWithin G hh h t hL hm (tkE_ge f L (nx f L s)) (tkE_le f (nx_le f hs)) 0 (v 8 - 1)) h rfl rfl rfl (Nat.le_of_ble_eq_true rfl) ?_
  refine R_istore_n dX3_readAway_15 (by decide) ?_
  refine R_iload_n dX3_readAway_16 rfl ?_
  refine R_iconst (v := (-1)) dX3_readAway_17 (by decide) ?_
  refine R_icmp_ne (tgt := 23) dX3_readAway_18 (by decide) (fun c18 => ?_) (fun c18 => ?_)
  · refine R_aload_n dX3_readAway_23 rfl ?_
    refine R_dup dX3_readAway_24 rfl ?_
    refine R_get dX3_readAway_25 gf_X3_114 g.1 rfl ?_
    refine R_iconst (v := 1) dX3_readAway_28 (by decide) ?_
    refine R_iload_n dX3_readAway_29 rfl ?_
    refine R_ishl dX3_readAway_30 ?_
    refine R_ior dX3_readAway_31 ?_
    refine St_put9 dX3_readAway_32 pf_X3_114 g (fun hh g hF1 => ?_)
    have hF := hF.ts hF1
    have h := RdAt.fr h hF1 (by omega)
    have t := t.fr hF1 (by omega)
    refine R_aload_n dX3_readAway_35 rfl ?_
    refine R_callVv dX3_readAway_36 cv_X3_22 ⟨by decide, by decide⟩ (e_step G hh h t hL hm hap (tkE_le f (nx_le f hs))) h rfl rfl rfl (Nat.le_of_ble_eq_true rfl) (fun hh hw => ?_)
    obtain ⟨h, hF1⟩ := hw
    have hF := hF.tq hF1
    have t := t.fr hF1 (by omega)
    have g := g.fr hF1 (by omega)
    have h : TkAt G hh q k f L (nx f L (nx f L s)) c := h
    refine R_iconst (v := 1) dX3_readAway_39 (by decide) ?_
    exact R_zret dX3_readAway_40 rfl (by first | exact Or.inl rfl | exact Or.inr rfl | assumption | exact bl01 _ | omega) (⟨_, rfl, by rw [show clA f L s a v = (true, nx f L (nx f L s), a, va_up v 9 (v 9 ||| ((1 : Int32) <<< (nmT f L (nx f L s) 0 (v 8 - 1) &&& 31)))) from by unfold clA; rw [if_neg c18]]; exact ⟨rfl, h, g, hF⟩⟩)
  · refine R_iconst (v := 0) dX3_readAway_21 (by decide) ?_
    exact R_zret dX3_readAway_22 rfl (by first | exact Or.inl rfl | exact Or.inr rfl | assumption | exact bl01 _ | omega) (⟨_, rfl, by rw [show clA f L s a v = (false, nx f L s, a, v) from by unfold clA; rw [if_pos (Classical.not_not.mp c18)]]; exact ⟨rfl, h, g, hF⟩⟩)
set_option maxRecDepth 4000 in
theorem e_readRule (G : GG) (hh : HH) {q k m L s ks n : Nat} {f : Nat → Int32} {a : AA} {v : VV} {c : Int32} (h : TkAt G hh q k f L s c) (t : LeAt G hh k m f (nI L)) (g : StAt G hh ks a v) (hs : s ≤ L) (hL : L ≤ m) (hm : m ≤ 1000) (hap : q < k ∨ k + 2 ≤ q) (hap2 : q < ks ∨ ks + 9 ≤ q) (hap3 : k + 2 ≤ ks ∨ ks + 9 ≤ k) (hn : n ≤ 6) (hv : v 8 = nI n) : EVi G mX3_readRule [.ref (ad G q), .ref (ad G ks)] hh (fun y h1 => y = bl (clR f L s a v).1 ∧ TkAt G h1 q k f L (clR f L s a v).2.1 c ∧ StAt G h1 ks (clR f L s a v).2.2.1 (clR f L s a v).2.2.2 ∧ Fx q ks hh h1) := by
  refine EV.of [(0, .ref (ad G q)), (1, .ref (ad G ks))] (by decide +kernel) (Nat.le_of_ble_eq_true rfl) rfl ?_
  have hF : Fx q ks hh hh := Fx.rf
  refine R_aload_n dX3_readRule_0 rfl ?_
  refine R_callVv dX3_readRule_1 cv_X3_22 ⟨by decide, by decide⟩ (e_step G hh h t hL hm hap (tkE_le f hs)) h rfl rfl rfl (Nat.le_of_ble_eq_true rfl) (fun hh hw => ?_)
  obtain ⟨h, hF1⟩ := hw
  have hF := hF.tq hF1
  have t := t.fr hF1 (by omega)
  have g := g.fr hF1 (by omega)
  have h : TkAt G hh q k f L (nx f L s) c := h
  refine R_aload_n dX3_readRule_4 rfl ?_
  refine R_get dX3_readRule_5 gf_X3_32 h rfl ?_
  refine R_iconst (v := 1) dX3_readRule_8 (by decide) ?_
  refine R_icmp_ne (tgt := 30) dX3_readRule_9 (by decide) (fun c9 => ?_) (fun c9 => ?_)
  · refine R_iconst (v := (-1)) dX3_readRule_30 (by decide) ?_
    refine RR.top (y := rlT f L (nx f L s)) (by unfold rlT; rw [if_neg c9]) ?_
    refine R_istore_n dX3_readRule_31 (by decide) ?_
    refine R_iload_n dX3_readRule_32 rfl ?_
    refine R_iconst (v := (-1)) dX3_readRule_33 (by decide) ?_
    refine R_icmp_ne (tgt := 39) dX3_readRule_34 (by decide) (fun c34 => ?_) (fun c34 => ?_)
    · refine R_aload_n dX3_readRule_39 rfl ?_
      refine R_iload_n dX3_readRule_40 rfl ?_
      refine St_put10 dX3_readRule_41 pf_X3_119 g (fun hh g hF1 => ?_)
      have hF := hF.ts hF1
      have h := RdAt.fr h hF1 (by omega)
      have t := t.fr hF1 (by omega)
      refine R_aload_n dX3_readRule_44 rfl ?_
      refine R_callVv dX3_readRule_45 cv_X3_22 ⟨by decide, by decide⟩ (e_step G hh h t hL hm hap (tkE_le f (nx_le f hs))) h rfl rfl rfl (Nat.le_of_ble_eq_true rfl) (fun hh hw => ?_)
      obtain ⟨h, hF1⟩ := hw
      have hF := hF.tq hF1
      have t := t.fr hF1 (by omega)
      have g := g.fr hF1 (by omega)
      have h : TkAt G hh q k f L (nx f L (nx f L s)) c := h
      refine R_iconst (v := 1) dX3_readRule_48 (by decide) ?_
      exact R_zret dX3_readRule_49 rfl (by first | exact Or.inl rfl | exact Or.inr rfl | assumption | exact bl01 _ | omega) (⟨_, rfl, by rw [show clR f L s a v = (true, nx f L (nx f L s), a, va_up v 10 (rlT f L (nx f L s))) from by unfold clR; rw [if_neg c34]]; exact ⟨rfl, h, g, hF⟩⟩)
    · refine R_iconst (v := 0) dX3_readRule_37 (by decide) ?_
      exact R_zret dX3_readRule_38 rfl (by first | exact Or.inl rfl | exact Or.inr rfl | assumption | exact bl01 _ | omega) (⟨_, rfl, by rw [show clR f L s a v = (false, nx f L s, a, v) from by unfold clR; rw [if_pos (Classical.not_not.mp c34)]]; exact ⟨rfl, h, g, hF⟩⟩)
  · refine R_aload_n dX3_readRule_12 rfl ?_
    refine R_get dX3_readRule_13 gf_X3_9 h rfl ?_
    refine R_aload_n dX3_readRule_16 rfl ?_
    refine R_get dX3_readRule_17 gf_X3_29 h rfl ?_
    refine R_aload_n dX3_readRule_20 rfl ?_
    refine R_get dX3_readRule_21 gf_X3_15 h rfl ?_
    refine R_callVp dX3_readRule_24 cv_X3_116 ⟨by decide, by decide⟩ (e_ruleAt G hh t hL hm (nx f L s) (tkE f L (nx f L s)) (tkE_ge f L _) (tkE_le f (nx_le f hs))) t.1 rfl rfl rfl (Nat.le_of_ble_eq_true rfl) ?_
    refine R_goto (tgt := 31) dX3_readRule_27 (by decide) ?_
    refine RR.top (y := rlT f L (nx f L s)) (by unfold rlT; rw [if_pos (Classical.not_not.mp c9)]) ?_
    refine R_istore_n dX3_readRule_31 (by decide) ?_
    refine R_iload_n dX3_readRule_32 rfl ?_
    refine R_iconst (v := (-1)) dX3_readRule_33 (by decide) ?_
    refine R_icmp_ne (tgt := 39) dX3_readRule_34 (by decide) (fun c34 => ?_) (fun c34 => ?_)
    · refine R_aload_n dX3_readRule_39 rfl ?_
      refine R_iload_n dX3_readRule_40 rfl ?_
      refine St_put10 dX3_readRule_41 pf_X3_119 g (fun hh g hF1 => ?_)
      have hF := hF.ts hF1
      have h := RdAt.fr h hF1 (by omega)
      have t := t.fr hF1 (by omega)
      refine R_aload_n dX3_readRule_44 rfl ?_
      refine R_callVv dX3_readRule_45 cv_X3_22 ⟨by decide, by decide⟩ (e_step G hh h t hL hm hap (tkE_le f (nx_le f hs))) h rfl rfl rfl (Nat.le_of_ble_eq_true rfl) (fun hh hw => ?_)
      obtain ⟨h, hF1⟩ := hw
      have hF := hF.tq hF1
      have t := t.fr hF1 (by omega)
      have g := g.fr hF1 (by omega)
      have h : TkAt G hh q k f L (nx f L (nx f L s)) c := h
      refine R_iconst (v := 1) dX3_readRule_48 (by decide) ?_
      exact R_zret dX3_readRule_49 rfl (by first | exact Or.inl rfl | exact Or.inr rfl | assumption | exact bl01 _ | omega) (⟨_, rfl, by rw [show clR f L s a v = (true, nx f L (nx f L s), a, va_up v 10 (rlT f L (nx f L s))) from by unfold clR; rw [if_neg c34]]; exact ⟨rfl, h, g, hF⟩⟩)
    · refine R_iconst (v := 0) dX3_readRule_37 (by decide) ?_
      exact R_zret dX3_readRule_38 rfl (by first | exact Or.inl rfl | exact Or.inr rfl | assumption | exact bl01 _ | omega) (⟨_, rfl, by rw [show clR f L s a v = (false, nx f L s, a, v) from by unfold clR; rw [if_pos (Classical.not_not.mp c34)]]; exact ⟨rfl, h, g, hF⟩⟩)
