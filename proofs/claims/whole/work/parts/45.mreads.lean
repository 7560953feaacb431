theorem nI_all (x : Int32) : ∃ s : Nat, x = nI s := ⟨x.toBitVec.toNat, by
  apply Int32.toBitVec_inj.mp
  show _ = (Int32.ofNat x.toBitVec.toNat).toBitVec
  rw [Int32.toBitVec_ofNat']
  simp⟩
/-- the reference's reading behind a clause that ends at s, c clauses read, d left -/
def lp (f : Nat → Int32) (L : Nat) : Nat → Nat → Nat → Nat → Bool × Nat × Nat
  | 0, s, _, c => if L ≤ s then (true, s, c) else (false, s, c)
  | d + 1, s, n, c => if L ≤ s then (true, s, c) else if f s = 59 then (if (mc f L (nx f L s) n).1 = true then lp f L d (mc f L (nx f L s) n).2.1 (mc f L (nx f L s) n).2.2 (c + 1) else (false, (mc f L (nx f L s) n).2.1, c + 1)) else (false, s, c)
/-- the class's reading from there -/
def kc (f : Nat → Int32) (L d s c : Nat) (b : AA) (u : VV) : RD := if tkK f L s = 0 then (-1, c, b, u) else if ¬ (tkK f L s = 3 ∧ s < L ∧ f s = 59) then (nI s, c, b, u) else rdL f L d s (tkE f L s) b u c
theorem rdL_s (f : Nat → Int32) (L d sX e : Nat) (b : AA) (u : VV) (c : Nat) {n : Nat} (hn : n ≤ 6) (hu : u 8 = nI n) : rdL f L (d + 1) sX e b u c = if (clC f L (tkS f L e) b u n).1 = true then kc f L d (clC f L (tkS f L e) b u n).2.1 (c + 1) (clC f L (tkS f L e) b u n).2.2.1 (clC f L (tkS f L e) b u n).2.2.2 else (nI (clC f L (tkS f L e) b u n).2.1, c, (clC f L (tkS f L e) b u n).2.2.1, (clC f L (tkS f L e) b u n).2.2.2) := by
  show (let R := clC f L (tkS f L e) b u (u 8).toNatClampNeg; if ¬ R.1 = true then (nI R.2.1, c, R.2.2.1, R.2.2.2) else if tkK f L R.2.1 = 0 then (-1, c + 1, R.2.2.1, R.2.2.2) else if ¬ (tkK f L R.2.1 = 3 ∧ R.2.1 < L ∧ f R.2.1 = 59) then (nI R.2.1, c + 1, R.2.2.1, R.2.2.2) else rdL f L d R.2.1 (tkE f L R.2.1) R.2.2.1 R.2.2.2 (c + 1)) = _
  rw [hu, nI_clamp (by omega)]
  generalize clC f L (tkS f L e) b u n = R
  dsimp only
  by_cases q : R.1 = true
  · rw [if_neg (fun z => z q), if_pos q]; rfl
  · rw [if_pos q, if_neg q]
theorem tk_0 {f : Nat → Int32} {L s : Nat} : tkK f L s = 0 ↔ L ≤ s := by
  unfold tkK
  by_cases q : L ≤ s
  · rw [if_pos q]; exact ⟨fun _ => q, fun _ => rfl⟩
  · rw [if_neg q]
    refine ⟨fun h => ?_, fun h => absurd h q⟩
    split at h
    · exact absurd h (by decide)
    · split at h <;> exact absurd h (by decide)
theorem tk_3 {f : Nat → Int32} {L s : Nat} (h : s < L) (h59 : f s = 59) : tkK f L s = 3 := by
  unfold tkK
  rw [if_neg (by omega), h59, if_neg (by decide), if_neg (by decide)]
theorem kc_end {f : Nat → Int32} {L s : Nat} (h : L ≤ s) (d c : Nat) (b : AA) (u : VV) : kc f L d s c b u = (-1, c, b, u) := if_pos (tk_0.mpr h)
theorem kc_bad {f : Nat → Int32} {L s : Nat} (h : s < L) (h59 : ¬ f s = 59) (d c : Nat) (b : AA) (u : VV) : kc f L d s c b u = (nI s, c, b, u) := by
  unfold kc
  rw [if_neg (fun q => absurd (tk_0.mp q) (by omega)), if_pos (fun q => h59 q.2.2)]
theorem kc_go {f : Nat → Int32} {L s : Nat} (h : s < L) (h59 : f s = 59) (d c : Nat) (b : AA) (u : VV) : kc f L d s c b u = rdL f L d s (tkE f L s) b u c := by
  unfold kc
  rw [if_neg (fun q => absurd (tk_0.mp q) (by omega)), if_neg (fun q => q ⟨tk_3 h h59, h, h59⟩)]
theorem lp_kc (f : Nat → Int32) (L : Nat) : ∀ (d s n c : Nat) (b : AA) (u : VV), s ≤ L → n ≤ 6 → u 8 = nI n → (kc f L d s c b u).1 = (if (lp f L d s n c).1 = true then -1 else nI (lp f L d s n c).2.1) ∧ ((lp f L d s n c).1 = true → (kc f L d s c b u).2.1 = (lp f L d s n c).2.2)
  | 0, s, n, c, b, u, hs, hn, hu => by
    show (kc f L 0 s c b u).1 = (if (if L ≤ s then (true, s, c) else (false, s, c)).1 = true then -1 else nI (if L ≤ s then (true, s, c) else (false, s, c)).2.1) ∧ ((if L ≤ s then (true, s, c) else (false, s, c)).1 = true → (kc f L 0 s c b u).2.1 = (if L ≤ s then (true, s, c) else (false, s, c)).2.2)
    by_cases q : L ≤ s
    · rw [if_pos q, kc_end q]; exact ⟨rfl, fun _ => rfl⟩
    · rw [if_neg q]
      refine ⟨?_, fun h => Bool.noConfusion (show false = true from h)⟩
      by_cases r : f s = 59
      · rw [kc_go (by omega) r]; rfl
      · rw [kc_bad (by omega) r]; rfl
  | d + 1, s, n, c, b, u, hs, hn, hu => by
    have e : lp f L (d + 1) s n c = if L ≤ s then (true, s, c) else if f s = 59 then (if (mc f L (nx f L s) n).1 = true then lp f L d (mc f L (nx f L s) n).2.1 (mc f L (nx f L s) n).2.2 (c + 1) else (false, (mc f L (nx f L s) n).2.1, c + 1)) else (false, s, c) := rfl
    rw [e]
    by_cases q : L ≤ s
    · rw [if_pos q, kc_end q]; exact ⟨rfl, fun _ => rfl⟩
    · rw [if_neg q]
      by_cases r : f s = 59
      · rw [if_pos r, kc_go (by omega) r, rdL_s f L d s (tkE f L s) b u c hn hu]
        obtain ⟨m1, m2⟩ := mc_cl f L (nx f L s) b u hn hu
        have hx := mc_le (f := f) (nx_le f hs) n
        have hm := mc_n (f := f) (L := L) (s := nx f L s) hn
        rw [show tkS f L (tkE f L s) = nx f L s from rfl]
        cases hM : (mc f L (nx f L s) n).1
        · rw [if_neg (show ¬ false = true by decide)]
          refine ⟨?_, fun h => Bool.noConfusion (show false = true from h)⟩
          obtain ⟨p1, p2⟩ := m2 hM
          show _ = nI (mc f L (nx f L s) n).2.1
          rcases p2 with p2 | ⟨p2, p3, p4⟩
          · rw [p2, if_neg (show ¬ false = true by decide), p1]
          · rw [p2, if_pos (show true = true from rfl), p1, kc_bad p3 p4]
        · rw [if_pos rfl]
          obtain ⟨p1, p2, p3⟩ := m1 hM
          rw [p1, if_pos rfl, p2]
          exact lp_kc f L d _ _ (c + 1) _ _ hx hm p3
      · rw [if_neg r, kc_bad (by omega) r]
        exact ⟨rfl, fun h => Bool.noConfusion (show false = true from h)⟩
/-- the reference's whole reading, n judges ahead of it -/
def mrd (f : Nat → Int32) (L n : Nat) : Bool × Nat × Nat := if (mc f L (tkS f L 0) n).1 = true then lp f L 23 (mc f L (tkS f L 0) n).2.1 (mc f L (tkS f L 0) n).2.2 1 else (false, (mc f L (tkS f L 0) n).2.1, 1)
theorem mrd_rd (f : Nat → Int32) (L sX : Nat) {n : Nat} (b : AA) (u : VV) (hn : n ≤ 6) (hu : u 8 = nI n) : (rdL f L 24 sX 0 b u 0).1 = (if (mrd f L n).1 = true then -1 else nI (mrd f L n).2.1) ∧ ((mrd f L n).1 = true → (rdL f L 24 sX 0 b u 0).2.1 = (mrd f L n).2.2) := by
  rw [rdL_s f L 23 sX 0 b u 0 hn hu]
  obtain ⟨m1, m2⟩ := mc_cl f L (tkS f L 0) b u hn hu
  have hx := mc_le (f := f) (tkS_le f (Nat.zero_le L)) n
  have hm := mc_n (f := f) (L := L) (s := tkS f L 0) hn
  unfold mrd
  cases hM : (mc f L (tkS f L 0) n).1
  · rw [if_neg (show ¬ false = true by decide)]
    refine ⟨?_, fun h => Bool.noConfusion (show false = true from h)⟩
    obtain ⟨p1, p2⟩ := m2 hM
    show _ = nI (mc f L (tkS f L 0) n).2.1
    rcases p2 with p2 | ⟨p2, p3, p4⟩
    · rw [p2, if_neg (show ¬ false = true by decide), p1]
    · rw [p2, if_pos (show true = true from rfl), p1, kc_bad p3 p4]
  · rw [if_pos rfl]
    obtain ⟨p1, p2, p3⟩ := m1 hM
    rw [p1, if_pos rfl, p2]
    exact lp_kc f L 23 _ _ 1 _ _ hx hm p3
def kqR (a : AA) (v : VV) (a' : AA) (v' : VV) : Prop := (∀ f, f ≠ 0 → f ≠ 3 → f ≠ 4 → f ≠ 16 → a' f = a f) ∧ (∀ j, (j < 4 ∨ 10 < j) → a' 0 j = a 0 j) ∧ (∀ i, i ≠ 1 → i ≠ 2 → i < 11 ∨ 15 < i → v' i = v i)
theorem kpM.Q {a a' : AA} {v v' : VV} (h : kpM a v a' v') : kqR a v a' v' := ⟨h.1, h.2.1, fun i h1 h2 h3 => h.2.2 i h1 h2 (by omega) (by omega) (by omega)⟩
theorem kqR.tr {a a' a'' : AA} {v v' v'' : VV} (h : kqR a v a' v') (h' : kqR a' v' a'' v'') : kqR a v a'' v'' := ⟨fun f h1 h2 h3 h4 => (h'.1 f h1 h2 h3 h4).trans (h.1 f h1 h2 h3 h4), fun j hj => (h'.2.1 j hj).trans (h.2.1 j hj), fun i h1 h2 h3 => (h'.2.2 i h1 h2 h3).trans (h.2.2 i h1 h2 h3)⟩
theorem kqR.v {a : AA} {v v' : VV} (h : ∀ i, i ≠ 1 → i ≠ 2 → i < 11 ∨ 15 < i → v' i = v i) : kqR a v a v' := ⟨fun _ _ _ _ _ => rfl, fun _ _ => rfl, h⟩
/-- what the reading comes to: r = (whether, where, clauses), (c, u) what the class is told then -/
def rdP (G : GG) (hh : HH) (k : Nat) (a : AA) (v : VV) (b : Bool) (r : Bool × Nat × Nat) (c : AA) (u : VV) (y : Int32) (h1 : HH) : Prop := y = bl r.1 ∧ ∃ a' v', MdAt G h1 k a' v' ∧ Fr k (k + 11) hh h1 ∧ v' 11 = nI r.2.1 ∧ v' 14 = nI r.2.2 ∧ kqR a v a' v' ∧ (b = false → sdM a v a' v') ∧ (b = true → r.1 = true → ∃ n', TlM n' c u a' v')
theorem rdP.ff {G : GG} {hh : HH} {k : Nat} {a : AA} {v : VV} {r : Bool × Nat × Nat} {c c' : AA} {u u' : VV} {y : Int32} {h1 : HH} (h : rdP G hh k a v false r c u y h1) : rdP G hh k a v false r c' u' y h1 := by
  obtain ⟨e, a', v', p1, p2, p3, p4, p5, p6, _⟩ := h
  exact ⟨e, a', v', p1, p2, p3, p4, p5, p6, fun q => Bool.noConfusion q⟩
theorem rdP.tr {G : GG} {hh hh2 : HH} {k : Nat} {a a2 : AA} {v v2 : VV} {b : Bool} {r : Bool × Nat × Nat} {c : AA} {u : VV} {y : Int32} {h1 : HH} (h : rdP G hh2 k a2 v2 b r c u y h1) (hK : kqR a v a2 v2) (hS : b = false → sdM a v a2 v2) (hF : Fr k (k + 11) hh hh2) : rdP G hh k a v b r c u y h1 := by
  obtain ⟨e, a', v', p1, p2, p3, p4, p5, p6, p7⟩ := h
  exact ⟨e, a', v', p1, hF.tr p2 (by omega) (by omega), p3, p4, hK.tr p5, fun q => (hS q).tr (p6 q), p7⟩
theorem l_reads0 (G : GG) (hh : HH) {k : Nat} {x : Int32} {Q : QQ} (hq : Q (some (.int 0)) hh) : RR G mX5_reads 32 [(0, .ref (ad G k)), (1, .int x), (2, .int 0)] [] hh Q := by
  refine R_iload_n dX5_reads_32 rfl ?_
  refine R_if_eq (tgt := 102) dX5_reads_33 (by decide) (fun _ => ?_) (fun c => absurd rfl c)
  refine R_iload_n dX5_reads_102 rfl ?_
  exact R_zret dX5_reads_103 rfl (Or.inl rfl) hq
set_option maxRecDepth 4000 in
theorem l_reads (G : GG) {k : Nat} {L : Nat} (hL : L ≤ 200) {b : Bool} : ∀ (d : Nat) (s n c : Nat) (c9 : AA) (u9 : VV) (a : AA) (v : VV) (hh : HH), c + d = 24 → s ≤ L → n ≤ 6 → v 8 = nI L → v 11 = nI s → v 12 = nI (tkE (a 7) L s) → v 13 = nI n → v 14 = nI c → v 15 = bl b → (b = true → TlM n c9 u9 a v) → (∀ j, j < 54 → a 17 j = wdA j) → MdAt G hh k a v → RR G mX5_reads 32 [(0, .ref (ad G k)), (1, .int (bl b)), (2, .int (bl true))] [] hh (fun r9 h1 => ∃ y, r9 = some (.int y) ∧ rdP G hh k a v b (lp (a 7) L d s n c) (kc (a 7) L d s c c9 u9).2.2.1 (kc (a 7) L d s c c9 u9).2.2.2 y h1) := by
  intro d
  induction d with
  | zero =>
    intro s n c c9 u9 a v hh hcd hs hn hl e11 e12 hj hc hb hT hW h
    refine R_iload_n dX5_reads_32 rfl ?_
    refine R_if_eq (tgt := 102) dX5_reads_33 (by decide) (fun c33 => absurd c33 (show ¬ bl true = 0 by decide)) (fun c33 => ?_)
    refine R_aload_n dX5_reads_36 rfl ?_
    refine R_get dX5_reads_37 gf_X5_75 h.1 rfl ?_
    refine RR.top (y := nI (s)) (e11) ?_
    refine R_aload_n dX5_reads_40 rfl ?_
    refine R_get dX5_reads_41 gf_X5_61 h.1 rfl ?_
    refine RR.top (y := nI (L)) (hl) ?_
    refine R_icmp_ge (tgt := 102) dX5_reads_44 (by decide) (fun c44 => ?_) (fun c44 => ?_)
    · refine R_iload_n dX5_reads_102 rfl ?_
      exact R_zret dX5_reads_103 rfl (by first | exact Or.inl rfl | exact Or.inr rfl | assumption | exact bl01 _ | omega) (⟨_, rfl, by (have hLs : L ≤ s := (nI_leI (by omega) (by omega)).mp c44; have e9 : lp (a 7) L 0 s n c = (true, s, c) := if_pos hLs; rw [e9, kc_end hLs]; exact ⟨rfl, a, v, h, Fr.rf, e11, hc, kpM.Q kpM.rf, fun _ => sdM.rf, fun q9 _ => ⟨n, hT q9⟩⟩)⟩)
    · refine R_aload_n dX5_reads_47 rfl ?_
      refine R_get dX5_reads_48 gf_X5_126 h.1 rfl ?_
      refine RR.top (y := nI c) hc ?_
      refine R_bipush (v := 24) dX5_reads_51 (by decide) ?_
      refine R_icmp_ge (tgt := 74) dX5_reads_53 (by decide) (fun c53 => ?_) (fun c53 => absurd (nI_le (a := 24) (by omega) (by omega)) c53)
      refine R_iconst (v := 0) dX5_reads_74 (by decide) ?_
      refine R_istore_n dX5_reads_75 (by decide) ?_
      refine R_iload_n dX5_reads_76 rfl ?_
      refine R_if_eq (tgt := 32) dX5_reads_77 (by decide) (fun c77 => ?_) (fun c77 => absurd rfl c77)
      exact RR.pick [1, 2, 0] rfl (l_reads0 G hh ⟨_, rfl, by (rw [show lp (a 7) L 0 s n c = (false, s, c) from if_neg (fun q9 => c44 (nI_le q9 (by omega)))]; exact ⟨rfl, a, v, h, Fr.rf, e11, hc, kpM.Q kpM.rf, fun _ => sdM.rf, fun _ q9 => Bool.noConfusion q9⟩)⟩)
  | succ d ih =>
    intro s n c c9 u9 a v hh hcd hs hn hl e11 e12 hj hc hb hT hW h
    refine R_iload_n dX5_reads_32 rfl ?_
    refine R_if_eq (tgt := 102) dX5_reads_33 (by decide) (fun c33 => absurd c33 (show ¬ bl true = 0 by decide)) (fun c33 => ?_)
    refine R_aload_n dX5_reads_36 rfl ?_
    refine R_get dX5_reads_37 gf_X5_75 h.1 rfl ?_
    refine RR.top (y := nI (s)) (e11) ?_
    refine R_aload_n dX5_reads_40 rfl ?_
    refine R_get dX5_reads_41 gf_X5_61 h.1 rfl ?_
    refine RR.top (y := nI (L)) (hl) ?_
    refine R_icmp_ge (tgt := 102) dX5_reads_44 (by decide) (fun c44 => ?_) (fun c44 => ?_)
    · refine R_iload_n dX5_reads_102 rfl ?_
      exact R_zret dX5_reads_103 rfl (by first | exact Or.inl rfl | exact Or.inr rfl | assumption | exact bl01 _ | omega) (⟨_, rfl, by (have hLs : L ≤ s := (nI_leI (by omega) (by omega)).mp c44; have e9 : lp (a 7) L (d + 1) s n c = (true, s, c) := if_pos hLs; rw [e9, kc_end hLs]; exact ⟨rfl, a, v, h, Fr.rf, e11, hc, kpM.Q kpM.rf, fun _ => sdM.rf, fun q9 _ => ⟨n, hT q9⟩⟩)⟩)
    · have hlt : s < L := Nat.lt_of_not_ge (fun q9 => c44 (nI_le q9 (by omega)))
      refine R_aload_n dX5_reads_47 rfl ?_
      refine R_get dX5_reads_48 gf_X5_126 h.1 rfl ?_
      refine RR.top (y := nI c) hc ?_
      refine R_bipush (v := 24) dX5_reads_51 (by decide) ?_
      refine R_icmp_ge (tgt := 74) dX5_reads_53 (by decide) (fun c53 => absurd c53 (nI_ge (b := 24) (by omega) (by decide))) (fun c53 => ?_)
      refine R_aload_n dX5_reads_56 rfl ?_
      refine R_get dX5_reads_57 gf_X5_23 h.1 rfl ?_
      refine R_aload_n dX5_reads_60 rfl ?_
      refine R_get dX5_reads_61 gf_X5_75 h.1 rfl ?_
      refine RR.top (y := nI (s)) (e11) ?_
      refine R_ialdN dX5_reads_64 h.a7 (by first | omega | decide) (by decide) ?_
      refine R_bipush (v := 59) dX5_reads_65 (by decide) ?_
      refine R_icmp_ne (tgt := 74) dX5_reads_67 (by decide) (fun c67 => ?_) (fun c67 => ?_)
      · refine R_iconst (v := 0) dX5_reads_74 (by decide) ?_
        refine R_istore_n dX5_reads_75 (by decide) ?_
        refine R_iload_n dX5_reads_76 rfl ?_
        refine R_if_eq (tgt := 32) dX5_reads_77 (by decide) (fun c77 => ?_) (fun c77 => absurd rfl c77)
        exact RR.pick [1, 2, 0] rfl (l_reads0 G hh ⟨_, rfl, by (rw [show lp (a 7) L (d + 1) s n c = (false, s, c) from (if_neg (fun q9 => c44 (nI_le q9 (by omega)))).trans (if_neg c67)]; exact ⟨rfl, a, v, h, Fr.rf, e11, hc, kpM.Q kpM.rf, fun _ => sdM.rf, fun _ q9 => Bool.noConfusion q9⟩)⟩)
      · refine R_iconst (v := 1) dX5_reads_70 (by decide) ?_
        refine R_goto (tgt := 75) dX5_reads_71 (by decide) ?_
        refine R_istore_n dX5_reads_75 (by decide) ?_
        refine R_iload_n dX5_reads_76 rfl ?_
        refine R_if_eq (tgt := 32) dX5_reads_77 (by decide) (fun c77 => absurd c77 (show ¬ (1 : Int32) = 0 by decide)) (fun c77 => ?_)
        have h := h.cg rfl (vfb_self e11 e12).symm
        have hF : Fr k (k + 11) hh hh := Fr.rf
        refine R_aload_n dX5_reads_80 rfl ?_
        refine R_callVv dX5_reads_81 cv_X5_88 ⟨by decide, by decide⟩ (m_nextToken G hh hL hl (tkE_le (a 7) hs) h) h.1 rfl rfl rfl (Nat.le_of_ble_eq_true rfl) (fun hh hw9 => ?_)
        obtain ⟨h, hF1⟩ := hw9
        have h : MdAt G hh k a (vfb v (nx (a 7) L s) (tkE (a 7) L (nx (a 7) L s))) := h
        have hF := hF.tr hF1 (by omega) (by omega)
        refine R_aload_n dX5_reads_84 rfl ?_
        refine R_callVi dX5_reads_85 cv_X5_129 ⟨by decide, by decide⟩ (m_readsClause G hh hL hl (nx_le (a 7) hs) h hn hj hb (fun q9 => (hT q9).2.2.1) hW) h.1 rfl rfl rfl (Nat.le_of_ble_eq_true rfl) (fun y hh hw9 => ?_)
        obtain ⟨rfl, a', v', h, hF1, f11, f12, f13, hK, hS, hD⟩ := hw9
        have hF := hF.tr hF1 (by omega) (by omega)
        refine R_istore_n dX5_reads_88 (by decide) ?_
        refine R_aload_n dX5_reads_89 rfl ?_
        refine R_dup dX5_reads_90 rfl ?_
        refine R_get dX5_reads_91 gf_X5_126 h.1 rfl ?_
        refine RR.top (y := nI c) ((hK.2.2 14 (by decide) (by decide) (by decide) (by decide) (by decide)).trans hc) ?_
        refine R_iconst (v := 1) dX5_reads_94 (by decide) ?_
        refine R_iadd dX5_reads_95 ?_
        refine RR.top (y := nI (c + 1)) (nI_1 c) ?_
        refine Md_put14 dX5_reads_96 pf_X5_126 h (fun hh h hF1 => ?_)
        have hF := hF.tr hF1 (by omega) (by omega)
        refine R_goto (tgt := 32) dX5_reads_99 (by decide) ?_
        have hlt : s < L := Nat.lt_of_not_ge (fun q9 => c44 (nI_le q9 (by omega)))
        have h59 : a 7 s = 59 := Classical.not_not.mp c67
        have e9 : lp (a 7) L (d + 1) s n c = (if (mc (a 7) L (nx (a 7) L s) n).1 = true then lp (a 7) L d (mc (a 7) L (nx (a 7) L s) n).2.1 (mc (a 7) L (nx (a 7) L s) n).2.2 (c + 1) else (false, (mc (a 7) L (nx (a 7) L s) n).2.1, c + 1)) := (if_neg (by omega)).trans (if_pos h59)
        have h7 : a' 7 = a 7 := hK.1 7 (by decide) (by decide) (by decide) (by decide)
        have hK2 : kqR a v a' (va_up v' 14 (nI (c + 1))) := (kpM.Q hK).tr (kqR.v (fun i _ _ q9 => if_neg (by omega)))
        cases hM : (mc (a 7) L (nx (a 7) L s) n).1
        · refine RR.pick [1, 2, 0] rfl (l_reads0 G hh ⟨_, rfl, ?_⟩)
          rw [e9, hM, if_neg (by decide)]
          exact ⟨rfl, a', _, h, hF, f11, rfl, hK2, fun q9 => hS q9, fun _ q9 => Bool.noConfusion q9⟩
        · have hx := mc_le (f := a 7) (nx_le (a 7) hs) n
          have hm := mc_n (f := a 7) (L := L) (s := nx (a 7) L s) hn
          refine RR.pick [1, 2, 0] rfl (RR.post (ih (mc (a 7) L (nx (a 7) L s) n).2.1 (mc (a 7) L (nx (a 7) L s) n).2.2 (c + 1) (clC (a 7) L (nx (a 7) L s) c9 u9 n).2.2.1 (clC (a 7) L (nx (a 7) L s) c9 u9 n).2.2.2 a' (va_up v' 14 (nI (c + 1))) hh (by omega) hx hm ((hK2.2.2 8 (by decide) (by decide) (by decide)).trans hl) f11 (by rw [h7]; exact f12) f13 rfl ((hK.2.2 15 (by decide) (by decide) (by decide) (by decide) (by decide)).trans hb) (fun q9 => hD q9 hM c9 u9 (hT q9)) (fun j hj => by rw [hK.1 17 (by decide) (by decide) (by decide) (by decide)]; exact hW j hj) h) (fun r9 h1 hq => ?_))
          obtain ⟨y, rfl, hp⟩ := hq
          refine ⟨y, rfl, ?_⟩
          rw [h7] at hp
          have hp := hp.tr hK2 hS hF
          rw [e9, hM, if_pos (show true = true from rfl)]
          cases b with
          | false => exact rdP.ff hp
          | true =>
            have hu := (hT rfl).2.1
            obtain ⟨m1, _⟩ := mc_cl (a 7) L (nx (a 7) L s) c9 u9 hn hu
            obtain ⟨p1, p2, p3⟩ := m1 hM
            rw [kc_go hlt h59, rdL_s (a 7) L d s (tkE (a 7) L s) c9 u9 c hn hu, show tkS (a 7) L (tkE (a 7) L s) = nx (a 7) L s from rfl, p1, if_pos (show true = true from rfl), p2]
            exact hp
