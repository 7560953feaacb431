theorem arrV_cg {cA : ClassId} {n : Nat} {f g : Nat → Value} (h : ∀ j, j < n → f j = g j) : arrV cA n f = arrV cA n g := by
  unfold arrV
  have e : (Array.ofFn (n := n) fun i => f i.val) = Array.ofFn (n := n) fun i => g i.val := by
    congr 1
    funext i
    exact h i.val i.isLt
  first
    | rw [e]
    | (congr 1; exact e)
    | (simp only [e])
theorem RR.post {G : GG} {μ : MI} {pc : Nat} {lv : List (Nat × Value)} {st : List Value} {hh : HH} {Q Q' : QQ} (h : RR G μ pc lv st hh Q) (hq : ∀ r h, Q r h → Q' r h) : RR G μ pc lv st hh Q' := by
  intro p e s m args below meth c C H locs ls hP hS hl T hT X
  obtain ⟨t, h1, o, h2, h3, ⟨⟨r, hh', hr, hq1, hp⟩, hF⟩, hL⟩ := h p e s m args below meth c C H locs ls hP hS hl T hT X
  exact ⟨t, h1, o, h2, h3, ⟨⟨r, hh', hr, hq r hh' hq1, hp⟩, hF⟩, hL⟩
/-- another text for the same cells -/
theorem RR.swap {G : GG} {μ : MI} {pc : Nat} {lv : List (Nat × Value)} {st : List Value} {hh hh1 : HH} {Q : QQ} (h : ∀ H, va_P (gD G) clsX (wd G hh) H → va_P (gD G) clsX (wd G hh1) H) (k : RR G μ pc lv st hh1 Q) : RR G μ pc lv st hh Q := fun p e s m args below meth c C H locs ls hP hS hl => k p e s m args below meth c C H locs ls (h H hP) hS hl
theorem swapI {G : GG} {hh : HH} {q n : Nat} {f g : Nat → Int32} (hfg : ∀ j, j < n → f j = g j) : ∀ H, va_P (gD G) clsX (wd G (va_up hh q (eI G n f))) H → va_P (gD G) clsX (wd G (va_up hh q (eI G n g))) H := by
  intro H hP i p hp
  have hi : i < gn G := by
    have := (List.getElem?_eq_some_iff.mp hp).1
    simpa [wd] using this
  rw [wd_get hi] at hp
  cases hp
  have h1 := hP i _ (wd_get hi)
  by_cases hq : i = q
  · subst hq
    simp only [va_up, if_true] at h1 ⊢
    show H[ad G i]? = some (vp_cell _ _)
    have h2 : H[ad G i]? = some (vp_cell (gI G) (n, .inl f)) := h1
    rw [h2, vp_cell_i, vp_cell_i, arrV_cg (fun j hj => by rw [hfg j hj])]
  · simp only [va_up, if_neg hq] at h1 ⊢
    exact h1
theorem foldS_last (f : Nat → Int32) : ∀ (d i : Nat) (s : Int32), foldS f i (d + 1) s = foldS f i d s + f (i + d)
  | 0, i, s => rfl
  | d + 1, i, s => by
    show foldS f (i + 1) (d + 1) (s + f i) = foldS f (i + 1) d (s + f i) + f (i + (d + 1))
    rw [foldS_last f d (i + 1) (s + f i), show i + 1 + d = i + (d + 1) by omega]
theorem StAt.cgv {G : GG} {hh : HH} {k : Nat} {a a' : AA} {v v' : VV} (h : StAt G hh k a v) (ha : ∀ j, j < 8 → a j = a' j) (hv : ∀ i, 8 ≤ i → i < 15 → v i = v' i) : StAt G hh k a' v' := by
  have e : fStAt G k v = fStAt G k v' := by
    simp only [fStAt, hv 8 (by omega) (by omega), hv 9 (by omega) (by omega), hv 10 (by omega) (by omega), hv 11 (by omega) (by omega), hv 12 (by omega) (by omega), hv 13 (by omega) (by omega), hv 14 (by omega) (by omega)]
  unfold StAt at h ⊢
  rw [← e, ← ha 0 (by omega), ← ha 1 (by omega), ← ha 2 (by omega), ← ha 3 (by omega), ← ha 4 (by omega), ← ha 5 (by omega), ← ha 6 (by omega), ← ha 7 (by omega)]
  exact h
def itT : Nat → Int32 → Int32
  | 0, c => c
  | n + 1, c => itT n (tw c)
theorem itT_add : ∀ (m n : Nat) (c : Int32), itT n (itT m c) = itT (m + n) c
  | 0, n, c => by rw [Nat.zero_add]; rfl
  | m + 1, n, c => by
    rw [show m + 1 + n = (m + n) + 1 by omega]
    exact itT_add m n (tw c)
def halfI (c : Int32) : Int32 := (c.toUInt32 >>> ((1 : Int32).toUInt32 &&& Int32.toUInt32 31)).toInt32
def wrI (m : Int32) : Int64 := m.toInt64 * (2147483648 / m.toInt64)
def accI (m c : Int32) : Prop := ¬ (0 ≤ lg_cmp (halfI c).toInt64 (wrI m))
def rmI (x y : Int32) : Int32 := x - x / y * y
def vct (v : VV) (c t : Int32) : VV := va_up (va_up v 12 c) 13 t
theorem vct_st (v : VV) (c t c' t' : Int32) : va_up (va_up (vct v c t) 12 c') 13 t' = vct v c' t' := by
  funext i
  simp only [vct, va_up]
  by_cases h1 : i = 13
  · simp [h1]
  · by_cases h2 : i = 12
    · simp [h2]
    · simp [h1, h2]
theorem vct_self (v : VV) : vct v (v 12) (v 13) = v := by
  funext i
  simp only [vct, va_up]
  by_cases h1 : i = 13
  · simp [h1]
  · by_cases h2 : i = 12
    · simp [h2]
    · simp [h1, h2]
theorem fl_ne0 {m : Int32} (h : 1 ≤ m) : ¬ m = 0 := fun e => by subst e; exact absurd h (by decide)
theorem fl_ne0L {m : Int32} (h : 1 ≤ m) : ¬ m.toInt64 = 0 := fun e => by
  have h1 : m.toInt64.toInt = (0 : Int64).toInt := by rw [e]
  rw [Int32.toInt_toInt64] at h1
  have h2 := Int32.le_iff_toInt_le.mp h
  simp at h1 h2
  omega

abbrev wtj (a : AA) (v : VV) (s : Int32) : Nat → Int32 := fun j => wt a v j s
set_option maxRecDepth 4000 in
theorem l_weighAll (G : GG) (hh0 : HH) {k : Nat} {a : AA} {v : VV} {n : Nat} (hn : n ≤ 6) (hv : v 8 = nI n) (s : Int32) : ∀ (d i : Nat) (g : Nat → Int32) (hh : HH), i + d = n → (∀ j, j < i → g j = foldS (wtj a v s) 0 (j + 1) 0) → StAt G hh k (va_up a 7 g) v → Fr k (k + 9) hh0 hh → RR G mX2_weighAll 4 [(0, .ref (ad G k)), (1, .int s), (2, .int (foldS (wtj a v s) 0 i 0)), (3, .int (nI i))] [] hh (fun r h1 => ∃ w, r = some (.int w) ∧ (w = foldS (wtj a v s) 0 n 0 ∧ ∃ g, (∀ j, j < n → g j = foldS (wtj a v s) 0 (j + 1) 0) ∧ StAt G h1 k (va_up a 7 g) v ∧ Fr k (k + 9) hh0 h1)) := by
  intro d
  induction d with
  | zero =>
    intro i g hh hi hg h hF
    refine R_iload_n dX2_weighAll_4 rfl ?_
    refine R_aload_n dX2_weighAll_5 rfl ?_
    refine R_get dX2_weighAll_6 gf_X2_52 h.1 rfl ?_
    refine R_icmp_ge (tgt := 34) dX2_weighAll_9 (by decide) (fun c9 => ?_) (fun c9 => absurd (by rw [hv]; exact nI_le (by omega) (by omega)) c9)
    refine R_iload_n dX2_weighAll_34 rfl ?_
    exact R_iret dX2_weighAll_35 rfl (⟨_, rfl, by rw [show n = i by omega], g, by rw [show n = i by omega]; exact hg, h, hF⟩)
  | succ d ih =>
    intro i g hh hi hg h hF
    refine R_iload_n dX2_weighAll_4 rfl ?_
    refine R_aload_n dX2_weighAll_5 rfl ?_
    refine R_get dX2_weighAll_6 gf_X2_52 h.1 rfl ?_
    refine R_icmp_ge (tgt := 34) dX2_weighAll_9 (by decide) (fun c9 => absurd c9 (by rw [hv]; exact nI_ge (by omega) (by omega))) (fun c9 => ?_)
    refine R_iload_n dX2_weighAll_12 rfl ?_
    refine R_aload_n dX2_weighAll_13 rfl ?_
    refine R_iload_n dX2_weighAll_14 rfl ?_
    refine R_iload_n dX2_weighAll_15 rfl ?_
    refine R_callVp dX2_weighAll_16 cv_X2_94 ⟨by decide, by decide⟩ (e_weightOf G hh h i (by omega) s) h.1 rfl rfl rfl (Nat.le_of_ble_eq_true rfl) ?_
    refine R_iadd dX2_weighAll_19 ?_
    refine RR.top (y := foldS (wtj a v s) 0 (i + 1) 0) (by rw [foldS_last, Nat.zero_add]; rfl) ?_
    refine R_istore_n dX2_weighAll_20 (by decide) ?_
    refine R_aload_n dX2_weighAll_21 rfl ?_
    refine R_get dX2_weighAll_22 gf_X2_33 h.1 rfl ?_
    refine R_iload_n dX2_weighAll_25 rfl ?_
    refine R_iload_n dX2_weighAll_26 rfl ?_
    refine St_ast7N dX2_weighAll_27 h (by omega) (fun hh h hF1 => ?_)
    have hF := hF.tr hF1 (by omega) (by omega)
    refine R_iinc (y := nI (i + 1)) dX2_weighAll_28 rfl (by decide) (nI_s i) ?_
    refine R_goto (tgt := 4) dX2_weighAll_31 (by decide) ?_
    have h := h.cg (bx_uu a 7 g _) rfl
    exact RR.pick [2, 3, 1, 0] rfl (ih (i + 1) (upd g i (foldS (wtj a v s) 0 (i + 1) 0)) hh (by omega) (fun j hj => by
      by_cases e : j = i
      · subst e; simp [upd]
      · simp only [upd, if_neg e]; exact hg j (by omega)) h hF)
set_option maxRecDepth 4000 in
theorem e_weighAll (G : GG) (hh : HH) {k : Nat} {a : AA} {v : VV} (h : StAt G hh k a v) {n : Nat} (hn : n ≤ 6) (hv : v 8 = nI n) (s : Int32) : EVi G mX2_weighAll [.ref (ad G k), .int s] hh (fun w h1 => w = foldS (wtj a v s) 0 n 0 ∧ ∃ g, (∀ j, j < n → g j = foldS (wtj a v s) 0 (j + 1) 0) ∧ StAt G h1 k (va_up a 7 g) v ∧ Fr k (k + 9) hh h1) := by
  refine EV.of [(0, .ref (ad G k)), (1, .int s)] (by decide +kernel) (Nat.le_of_ble_eq_true rfl) rfl ?_
  refine R_iconst (v := 0) dX2_weighAll_0 (by decide) ?_
  refine R_istore_n dX2_weighAll_1 (by decide) ?_
  refine R_iconst (v := 0) dX2_weighAll_2 (by decide) ?_
  refine R_istore_n dX2_weighAll_3 (by decide) ?_
  exact RR.pick [2, 3, 1, 0] rfl (l_weighAll G hh hn hv s n 0 (a 7) hh (by omega) (fun j hj => by omega) (h.cg (by funext j; simp only [va_up]; split <;> simp_all) rfl) Fr.rf)
set_option maxRecDepth 4000 in
theorem l_drawBelow (G : GG) (hh0 : HH) {k : Nat} {a : AA} {v : VV} {m : Int32} (hm : 1 ≤ m) : ∀ (d i : Nat) (c t : Int32) (hh : HH), 1 ≤ d → i + d ≤ 1000000 → accI m (itT d c) → (∀ j, 1 ≤ j → j < d → ¬ accI m (itT j c)) → StAt G hh k a (vct v c t) → Fr k (k + 9) hh0 hh → RR G mX2_drawBelow 20 [(0, .ref (ad G k)), (1, .int m), (2, .long (wrI m)), (4, .int (nI i))] [] hh (fun r h1 => ∃ w, r = some (.int w) ∧ (w = rmI (halfI (itT d c)) m ∧ StAt G h1 k a (vct v (itT d c) (t + nI d)) ∧ Fr k (k + 9) hh0 h1)) := by
  intro d
  induction d with
  | zero =>
    intro i c t hh hd1 hd2 hacc hmin h hF
    exact absurd hd1 (by omega)
  | succ d ih =>
    intro i c t hh hd1 hd2 hacc hmin h hF
    refine R_iload dX2_drawBelow_20 rfl ?_
    refine R_ldc dX2_drawBelow_22 kc_X2_101 ?_
    refine R_icmp_ge (tgt := 75) dX2_drawBelow_24 (by decide) (fun c24 => absurd c24 (nI_ge (a := i) (b := 1000000) (by omega) (by decide))) (fun c24 => ?_)
    refine R_aload_n dX2_drawBelow_27 rfl ?_
    refine R_aload_n dX2_drawBelow_28 rfl ?_
    refine R_get dX2_drawBelow_29 gf_X2_43 h.1 rfl ?_
    refine R_callSNp dX2_drawBelow_32 cn_X2_110 ⟨by decide, by decide⟩ (e_turned G hh c) rfl rfl (Nat.le_of_ble_eq_true rfl) ?_
    refine St_put12 dX2_drawBelow_35 pf_X2_43 h (fun hh h hF1 => ?_)
    have hF := hF.tr hF1 (by omega) (by omega)
    refine R_aload_n dX2_drawBelow_38 rfl ?_
    refine R_dup dX2_drawBelow_39 rfl ?_
    refine R_get dX2_drawBelow_40 gf_X2_58 h.1 rfl ?_
    refine R_iconst (v := 1) dX2_drawBelow_43 (by decide) ?_
    refine R_iadd dX2_drawBelow_44 ?_
    refine St_put13 dX2_drawBelow_45 pf_X2_58 h (fun hh h hF1 => ?_)
    have hF := hF.tr hF1 (by omega) (by omega)
    refine R_aload_n dX2_drawBelow_48 rfl ?_
    refine R_get dX2_drawBelow_49 gf_X2_43 h.1 rfl ?_
    refine R_iconst (v := 1) dX2_drawBelow_52 (by decide) ?_
    refine R_iushr dX2_drawBelow_53 ?_
    refine R_istore dX2_drawBelow_54 (by decide) ?_
    refine R_iload dX2_drawBelow_56 rfl ?_
    refine R_i2l dX2_drawBelow_58 ?_
    refine R_lload_n dX2_drawBelow_59 rfl ?_
    refine R_lcmp dX2_drawBelow_60 ?_
    refine R_if_ge (tgt := 69) dX2_drawBelow_61 (by decide) (fun c61 => ?_) (fun c61 => ?_)
    · refine R_iinc (y := nI (i + 1)) dX2_drawBelow_69 rfl (by decide) (nI_s i) ?_
      refine R_goto (tgt := 20) dX2_drawBelow_72 (by decide) ?_
      rcases Nat.eq_zero_or_pos d with e | e
      · subst e
        exact absurd c61 hacc
      · have e9 : t + nI (d + 1) = (t + 1) + nI d := by rw [nI_succ, Int32.add_comm (nI d) 1, Int32.add_assoc]
        rw [e9]
        exact RR.pick [2, 3, 4, 0] rfl (ih (i + 1) (tw c) (t + 1) hh e (by omega) hacc (fun j h1 h2 => hmin (j + 1) (by omega) (by omega)) (h.cg rfl (vct_st v c t _ _)) hF)
    · refine R_iload dX2_drawBelow_64 rfl ?_
      refine R_iload_n dX2_drawBelow_66 rfl ?_
      refine R_irem dX2_drawBelow_67 (fl_ne0 hm) ?_
      exact R_iret dX2_drawBelow_68 rfl (by
      rcases Nat.eq_zero_or_pos d with e | e
      · subst e
        exact ⟨_, rfl, rfl, h.cg rfl (vct_st v c t _ _), hF⟩
      · exact absurd c61 (hmin 1 (by omega) (by omega)))
set_option maxRecDepth 4000 in
theorem e_drawBelow (G : GG) (hh : HH) {k : Nat} {a : AA} {v : VV} {c t : Int32} (h : StAt G hh k a (vct v c t)) {m : Int32} (hm : 1 ≤ m) (K : Nat) (hK : 1 ≤ K) (hK2 : K ≤ 1000000) (hacc : accI m (itT K c)) (hmin : ∀ j, 1 ≤ j → j < K → ¬ accI m (itT j c)) : EVi G mX2_drawBelow [.ref (ad G k), .int m] hh (fun w h1 => w = rmI (halfI (itT K c)) m ∧ StAt G h1 k a (vct v (itT K c) (t + nI K)) ∧ Fr k (k + 9) hh h1) := by
  refine EV.of [(0, .ref (ad G k)), (1, .int m)] (by decide +kernel) (Nat.le_of_ble_eq_true rfl) rfl ?_
  refine R_iload_n dX2_drawBelow_0 rfl ?_
  refine R_iconst (v := 1) dX2_drawBelow_1 (by decide) ?_
  refine R_icmp_ge (tgt := 7) dX2_drawBelow_2 (by decide) (fun c2 => ?_) (fun c2 => absurd hm c2)
  refine R_iload_n dX2_drawBelow_7 rfl ?_
  refine R_i2l dX2_drawBelow_8 ?_
  refine R_ldc2 dX2_drawBelow_9 kc_X2_108 ?_
  refine R_iload_n dX2_drawBelow_12 rfl ?_
  refine R_i2l dX2_drawBelow_13 ?_
  refine R_ldiv dX2_drawBelow_14 (fl_ne0L hm) ?_
  refine R_lmul dX2_drawBelow_15 ?_
  refine R_lstore_n dX2_drawBelow_16 (by decide) ?_
  refine R_iconst (v := 0) dX2_drawBelow_17 (by decide) ?_
  refine R_istore dX2_drawBelow_18 (by decide) ?_
  exact RR.pick [2, 3, 1, 0] rfl (l_drawBelow G hh hm K 0 c t hh hK (by omega) hacc hmin h Fr.rf)
theorem reach_cg {g g' : Nat → Int32} {x : Int32} : ∀ (d i : Nat), (∀ j, i ≤ j → j < i + d → g j = g' j) → reach g x i d = reach g' x i d
  | 0, _, _ => rfl
  | d + 1, i, h => by
    show (if x < g i then i else reach g x (i + 1) d) = (if x < g' i then i else reach g' x (i + 1) d)
    rw [h i (by omega) (by omega), reach_cg d (i + 1) (fun j h1 h2 => h j (by omega) (by omega))]
theorem reach_lt {g : Nat → Int32} {x : Int32} : ∀ (d i b : Nat), i + d ≤ b → 0 < b → reach g x i d < b
  | 0, _, b, _, hb => hb
  | d + 1, i, b, h, hb => by
    show (if x < g i then i else reach g x (i + 1) d) < b
    by_cases q : x < g i
    · rw [if_pos q]; omega
    · rw [if_neg q]; exact reach_lt d (i + 1) b (by omega) hb
/-- all weights together, the judge of a number of the chain, and whether that number ends the drawing -/
def totW (a : AA) (v : VV) (s : Int32) (n : Nat) : Int32 := foldS (wtj a v s) 0 n 0
def judOf (a : AA) (v : VV) (s : Int32) (n : Nat) (c : Int32) : Nat := reach (fun j => foldS (wtj a v s) 0 (j + 1) 0) (rmI (halfI c) (totW a v s n)) 0 n
def goodI (a : AA) (v : VV) (s p : Int32) (n : Nat) (c : Int32) : Prop := accI (totW a v s n) c ∧ fre a v (judOf a v s n c) p = true
/-- K is the first place of the chain that ends the drawing -/
def firstK (a : AA) (v : VV) (s p : Int32) (n : Nat) (c : Int32) (K : Nat) : Prop := 1 ≤ K ∧ goodI a v s p n (itT K c) ∧ ∀ j, 1 ≤ j → j < K → ¬ goodI a v s p n (itT j c)
theorem firstK.part {a : AA} {v : VV} {s p : Int32} {n K : Nat} {c : Int32} (h : firstK a v s p n c K) : ∃ k1, 1 ≤ k1 ∧ k1 ≤ K ∧ accI (totW a v s n) (itT k1 c) ∧ (∀ j, 1 ≤ j → j < k1 → ¬ accI (totW a v s n) (itT j c)) ∧ (fre a v (judOf a v s n (itT k1 c)) p = true → k1 = K) ∧ (¬ fre a v (judOf a v s n (itT k1 c)) p = true → k1 < K ∧ firstK a v s p n (itT k1 c) (K - k1)) := by
  obtain ⟨k1, ⟨h1, h2⟩, h3⟩ := pk_least (fun k => 1 ≤ k ∧ accI (totW a v s n) (itT k c)) ⟨K, h.1, h.2.1.1⟩
  have hle : k1 ≤ K := by
    rcases Nat.lt_or_ge K k1 with q | q
    · exact absurd ⟨h.1, h.2.1.1⟩ (h3 K q)
    · exact q
  refine ⟨k1, h1, hle, h2, fun j a b c => h3 j b ⟨a, c⟩, fun hf => ?_, fun hf => ?_⟩
  · rcases Nat.lt_or_ge k1 K with q | q
    · exact absurd ⟨h2, hf⟩ (h.2.2 k1 h1 q)
    · omega
  · have hlt : k1 < K := by
      rcases Nat.lt_or_ge k1 K with q | q
      · exact q
      · have e : k1 = K := by omega
        rw [e] at hf
        exact absurd h.2.1.2 hf
    refine ⟨hlt, by omega, ?_, fun j a b => ?_⟩
    · rw [itT_add, show k1 + (K - k1) = K by omega]; exact h.2.1
    · rw [itT_add]; exact h.2.2 (k1 + j) (by omega) (by omega)
set_option maxRecDepth 4000 in
theorem l_drawJudge (G : GG) (hh0 : HH) {k : Nat} {a : AA} {v : VV} {n : Nat} (hn : n ≤ 6) (hv : v 8 = nI n) (s p : Int32) (hm : 1 ≤ totW a v s n) {g : Nat → Int32} (hg : ∀ j, j < n → g j = foldS (wtj a v s) 0 (j + 1) 0) : ∀ (K i : Nat) (c t : Int32) (hh : HH), i + K ≤ 1000000 → firstK a v s p n c K → StAt G hh k (va_up a 7 g) (vct v c t) → Fr k (k + 9) hh0 hh → RR G mX2_drawJudge 9 [(0, .ref (ad G k)), (1, .int s), (2, .int p), (3, .int (totW a v s n)), (4, .int (nI i))] [] hh (fun r h1 => ∃ w, r = some (.int w) ∧ (w = nI (judOf a v s n (itT K c)) ∧ StAt G h1 k (va_up a 7 g) (vct v (itT K c) (t + nI K)) ∧ Fr k (k + 9) hh0 h1)) := by
  intro K
  induction K using Nat.strongRecOn with
  | ind K ih =>
  intro i c t hh hi hK h hF
  obtain ⟨k1, hk1, hk2, hacc, hmin, hyes, hno⟩ := hK.part
  have hK1 := hK.1
  have ej : ∀ (hh : HH), StAt G hh k (va_up a 7 g) (vct v (itT k1 c) (t + nI k1)) → EVp G mX2_judgeReaching [.ref (ad G k), .int (rmI (halfI (itT k1 c)) (totW a v s n))] hh (nI (judOf a v s n (itT k1 c))) := by
    intro hh h
    have h1 := e_judgeReaching G hh h hn hv (rmI (halfI (itT k1 c)) (totW a v s n))
    rw [show reach (va_up a 7 g 7) (rmI (halfI (itT k1 c)) (totW a v s n)) 0 n = judOf a v s n (itT k1 c) from reach_cg n 0 (fun j _ hj => hg j (by omega))] at h1
    exact h1
  refine R_iload dX2_drawJudge_9 rfl ?_
  refine R_ldc dX2_drawJudge_11 kc_X2_101 ?_
  refine R_icmp_ge (tgt := 46) dX2_drawJudge_13 (by decide) (fun c13 => absurd c13 (nI_ge (a := i) (b := 1000000) (by omega) (by decide))) (fun c13 => ?_)
  refine R_aload_n dX2_drawJudge_16 rfl ?_
  refine R_aload_n dX2_drawJudge_17 rfl ?_
  refine R_iload_n dX2_drawJudge_18 rfl ?_
  refine R_callVi dX2_drawJudge_19 cv_X2_102 ⟨by decide, by decide⟩ (e_drawBelow G hh h hm k1 hk1 (by omega) hacc hmin) h.1 rfl rfl rfl (Nat.le_of_ble_eq_true rfl) (fun w1 hh hw => ?_)
  obtain ⟨rfl, h, hF1⟩ := hw
  have hF := hF.tr hF1 (by omega) (by omega)
  refine R_callVp dX2_drawJudge_22 cv_X2_105 ⟨by decide, by decide⟩ (ej hh h) h.1 rfl rfl rfl (Nat.le_of_ble_eq_true rfl) ?_
  refine R_istore dX2_drawJudge_25 (by decide) ?_
  refine R_aload_n dX2_drawJudge_27 rfl ?_
  refine R_iload dX2_drawJudge_28 rfl ?_
  refine R_iload_n dX2_drawJudge_30 rfl ?_
  refine R_callVp dX2_drawJudge_31 cv_X2_82 ⟨by decide, by decide⟩ (e_fre G hh h (judOf a v s n (itT k1 c)) p (reach_lt n 0 6 (by omega) (by omega))) h.1 rfl rfl rfl (Nat.le_of_ble_eq_true rfl) ?_
  refine R_if_eq (tgt := 40) dX2_drawJudge_34 (by decide) (fun c34 => ?_) (fun c34 => ?_)
  · refine R_iinc (y := nI (i + 1)) dX2_drawJudge_40 rfl (by decide) (nI_s i) ?_
    refine R_goto (tgt := 9) dX2_drawJudge_43 (by decide) ?_
    have hf : ¬ fre a v (judOf a v s n (itT k1 c)) p = true := by
      have q : bl (fre a v (judOf a v s n (itT k1 c)) p) = 0 := c34
      revert q; cases fre a v (judOf a v s n (itT k1 c)) p <;> simp [bl]
    obtain ⟨hlt, hK'⟩ := hno hf
    have e9 : t + nI K = (t + nI k1) + nI (K - k1) := by rw [Int32.add_assoc, nI_add, show k1 + (K - k1) = K by omega]
    have e8 : itT K c = itT (K - k1) (itT k1 c) := by rw [itT_add, show k1 + (K - k1) = K by omega]
    rw [e9, e8]
    exact RR.pick [2, 3, 4, 5, 0] rfl (ih (K - k1) (by omega) (i + 1) _ _ hh (by omega) hK' h hF)
  · refine R_iload dX2_drawJudge_37 rfl ?_
    exact R_iret dX2_drawJudge_39 rfl (by
      have hf : fre a v (judOf a v s n (itT k1 c)) p = true := by
        have q : ¬ bl (fre a v (judOf a v s n (itT k1 c)) p) = 0 := c34
        revert q; cases fre a v (judOf a v s n (itT k1 c)) p <;> simp [bl]
      have e := hyes hf
      subst e
      exact ⟨_, rfl, rfl, h, hF⟩)
set_option maxRecDepth 4000 in
theorem e_drawJudge (G : GG) (hh : HH) {k : Nat} {a : AA} {v : VV} (h : StAt G hh k a v) {n : Nat} (hn : n ≤ 6) (hv : v 8 = nI n) (s p : Int32) (hm : 1 ≤ totW a v s n) {K : Nat} (hK : firstK a v s p n (v 12) K) (hK2 : K ≤ 1000000) : EVi G mX2_drawJudge [.ref (ad G k), .int s, .int p] hh (fun w h1 => w = nI (judOf a v s n (itT K (v 12))) ∧ ∃ g, StAt G h1 k (va_up a 7 g) (vct v (itT K (v 12)) (v 13 + nI K)) ∧ Fr k (k + 9) hh h1) := by
  refine EV.of [(0, .ref (ad G k)), (1, .int s), (2, .int p)] (by decide +kernel) (Nat.le_of_ble_eq_true rfl) rfl ?_
  refine R_aload_n dX2_drawJudge_0 rfl ?_
  refine R_iload_n dX2_drawJudge_1 rfl ?_
  refine R_callVi dX2_drawJudge_2 cv_X2_97 ⟨by decide, by decide⟩ (e_weighAll G hh h hn hv s) h.1 rfl rfl rfl (Nat.le_of_ble_eq_true rfl) (fun w1 hh1 hw => ?_)
  obtain ⟨rfl, g, hg, h, hF⟩ := hw
  refine R_istore_n dX2_drawJudge_5 (by decide) ?_
  refine R_iconst (v := 0) dX2_drawJudge_6 (by decide) ?_
  refine R_istore dX2_drawJudge_7 (by decide) ?_
  refine RR.pick [2, 3, 4, 1, 0] rfl ?_
  refine RR.post (l_drawJudge G hh hn hv s p hm hg K 0 (v 12) (v 13) hh1 (by omega) hK (h.cg rfl (vct_self v).symm) hF) (fun r h1 hq => ?_)
  obtain ⟨w, e1, e2, e3, e4⟩ := hq
  exact ⟨w, e1, e2, g, e3, e4⟩
