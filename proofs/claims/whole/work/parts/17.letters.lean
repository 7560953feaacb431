theorem Le_cpy {G : GG} {μ : MI} {pc : Nat} {lv : List (Nat × Value)} {st : List Value} {hh : HH} {Q : QQ} {k n k2 n2 idx sp dp m : Nat} {f g : Nat → Int32} {len len2 : Int32} (hd : decode μ.2.1 pc = .ok (.invokestatic idx, 3)) (w1 : Cond.methodLink μ.1.cls idx arraycopyName ∈ XW) (w2 : Cond.native arraycopyName ∈ XW) (w3 : Cond.static arraycopyName ∈ XW) (w4 : Cond.initialized "java/lang/System" ∈ XW) (hh0 : 1 ≤ μ.2.2.2.2) (h : LeAt G hh k n f len) (h2 : LeAt G hh k2 n2 g len2) (h4 : sp + m ≤ n2) (h5 : dp + m ≤ n) (hb : n ≤ 1000) (hb2 : n2 ≤ 1000) (hcat : (st.map fun v => v.category).sum ≤ 8) (k1 : ∀ hh1, LeAt G hh1 k n (va_cpy g f sp dp m) len → Fr k (k + 2) hh hh1 → RR G μ (pc + 3) lv st hh1 Q) : RR G μ pc lv (.int (nI m) :: .int (nI dp) :: .ref (ad G (k + 1)) :: .int (nI sp) :: .ref (ad G (k2 + 1)) :: st) hh Q := by
  refine R_copyi (f := g) (g := f) hd w1 w2 w3 w4 hh0 h2.2 h.2 (nI_pos (by omega)) (nI_pos (by omega)) (nI_pos (by omega)) (by rw [nI_clamp (by omega), nI_clamp (by omega)]; exact h4) (by rw [nI_clamp (by omega), nI_clamp (by omega)]; exact h5) hcat ?_
  rw [nI_clamp (by omega), nI_clamp (by omega), nI_clamp (by omega)]
  exact k1 _ (h.s0 _) (Fr.up _ Fr.rf (by omega) (by omega))
theorem LeAt.cg {G : GG} {hh : HH} {k n : Nat} {f f' : Nat → Int32} {len len' : Int32} (h : LeAt G hh k n f len) (e : f = f') (e2 : len = len') : LeAt G hh k n f' len' := by subst e; subst e2; exact h
set_option maxRecDepth 4000 in
theorem e_hasRoom (G : GG) (hh : HH) {k n L : Nat} {f : Nat → Int32} (h : LeAt G hh k n f (nI L)) (hL : L ≤ n) (hn : n ≤ 1000) (m : Nat) (hm : m ≤ 1000) : EVp G mX1_hasRoomFor [.ref (ad G k), .int (nI m)] hh (bl (decide (L + m ≤ n))) := by
  refine EV.of [(0, .ref (ad G k)), (1, .int (nI m))] (by decide +kernel) (Nat.le_of_ble_eq_true rfl) rfl ?_
  refine R_aload_n dX1_hasRoomFor_0 rfl ?_
  refine R_get dX1_hasRoomFor_1 gf_X1_21 h.1 rfl ?_
  refine R_iload_n dX1_hasRoomFor_4 rfl ?_
  refine R_iadd dX1_hasRoomFor_5 ?_
  refine RR.top (y := nI (L + m)) (nI_add L m) ?_
  refine R_aload_n dX1_hasRoomFor_6 rfl ?_
  refine R_get dX1_hasRoomFor_7 gf_X1_15 h.1 rfl ?_
  refine R_alenI dX1_hasRoomFor_10 h.2 ?_
  refine R_icmp_gt (tgt := 18) dX1_hasRoomFor_11 (by decide) (fun c11 => ?_) (fun c11 => ?_)
  · refine R_iconst (v := 0) dX1_hasRoomFor_18 (by decide) ?_
    exact R_zret dX1_hasRoomFor_19 rfl (by first | exact Or.inl rfl | exact Or.inr rfl | assumption | omega) (⟨_, rfl, by simp_all [bl, nI_ltI (show n < 2 ^ 31 by omega) (show L + m < 2 ^ 31 by omega)], rfl⟩)
  · refine R_iconst (v := 1) dX1_hasRoomFor_14 (by decide) ?_
    refine R_goto (tgt := 19) dX1_hasRoomFor_15 (by decide) ?_
    exact R_zret dX1_hasRoomFor_19 rfl (by first | exact Or.inl rfl | exact Or.inr rfl | assumption | omega) (⟨_, rfl, by simp_all [bl, nI_ltI (show n < 2 ^ 31 by omega) (show L + m < 2 ^ 31 by omega)], rfl⟩)
/-- a letter more, at a place -/
def insA (f : Nat → Int32) (i L : Nat) (x : Int32) : Nat → Int32 := upd (va_cpy f f i (i + 1) (L - i)) i x
theorem cpy0 (f g : Nat → Int32) (s d : Nat) : va_cpy f g s d 0 = g := by
  funext j
  rw [pk_cpy_out (by omega)]
theorem insA_end (f : Nat → Int32) (L : Nat) (x : Int32) : insA f L L x = upd f L x := by
  unfold insA
  rw [Nat.sub_self, cpy0]
set_option maxRecDepth 4000 in
theorem e_putAt (G : GG) (hh : HH) {k n L : Nat} {f : Nat → Int32} (h : LeAt G hh k n f (nI L)) (hL : L ≤ n) (hn : n ≤ 1000) (i : Nat) (hi : i ≤ L) (hr : L < n) (x : Int32) : EVv G mX1_putAt [.ref (ad G k), .int (nI i), .int x] hh (fun h1 => LeAt G h1 k n (insA f i L x) (nI (L + 1)) ∧ Fr k (k + 2) hh h1) := by
  refine EV.of [(0, .ref (ad G k)), (1, .int (nI i)), (2, .int x)] (by decide +kernel) (Nat.le_of_ble_eq_true rfl) rfl ?_
  have hF : Fr k (k + 2) hh hh := Fr.rf
  refine R_iload_n dX1_putAt_0 rfl ?_
  refine R_if_lt (tgt := 20) dX1_putAt_1 (by decide) (fun c1 => absurd c1 (nI_pos (by omega))) (fun c1 => ?_)
  refine R_iload_n dX1_putAt_4 rfl ?_
  refine R_aload_n dX1_putAt_5 rfl ?_
  refine R_get dX1_putAt_6 gf_X1_21 h.1 rfl ?_
  refine R_icmp_gt (tgt := 20) dX1_putAt_9 (by decide) (fun c9 => absurd c9 (nI_nlt (by omega) (by omega))) (fun c9 => ?_)
  refine R_aload_n dX1_putAt_12 rfl ?_
  refine R_iconst (v := 1) dX1_putAt_13 (by decide) ?_
  refine R_callVp dX1_putAt_14 cv_X1_29 ⟨by decide, by decide⟩ (e_hasRoom G hh h hL hn 1 (by omega)) h.1 rfl rfl rfl (Nat.le_of_ble_eq_true rfl) ?_
  refine R_if_ne (tgt := 21) dX1_putAt_17 (by decide) (fun c17 => ?_) (fun c17 => absurd (by simp [bl]; omega) c17)
  refine R_aload_n dX1_putAt_21 rfl ?_
  refine R_get dX1_putAt_22 gf_X1_15 h.1 rfl ?_
  refine R_iload_n dX1_putAt_25 rfl ?_
  refine R_aload_n dX1_putAt_26 rfl ?_
  refine R_get dX1_putAt_27 gf_X1_15 h.1 rfl ?_
  refine R_iload_n dX1_putAt_30 rfl ?_
  refine R_iconst (v := 1) dX1_putAt_31 (by decide) ?_
  refine R_iadd dX1_putAt_32 ?_
  refine RR.top (y := nI (i + 1)) (nI_1 i) ?_
  refine R_aload_n dX1_putAt_33 rfl ?_
  refine R_get dX1_putAt_34 gf_X1_21 h.1 rfl ?_
  refine R_iload_n dX1_putAt_37 rfl ?_
  refine R_isub dX1_putAt_38 ?_
  refine RR.top (y := nI (L - i)) (pk_sub (by omega)) ?_
  refine Le_cpy dX1_putAt_39 mm_X1_33 aC_n aC_s aC_i (by decide) h h (by omega) (by omega) hn hn (Nat.le_of_ble_eq_true rfl) (fun hh h hF1 => ?_)
  have hF := hF.tr hF1 (by omega) (by omega)
  refine R_aload_n dX1_putAt_42 rfl ?_
  refine R_get dX1_putAt_43 gf_X1_15 h.1 rfl ?_
  refine R_iload_n dX1_putAt_46 rfl ?_
  refine R_iload_n dX1_putAt_47 rfl ?_
  refine Le_ast0N dX1_putAt_48 h (by omega) (by omega) (fun hh h hF1 => ?_)
  have hF := hF.tr hF1 (by omega) (by omega)
  refine R_aload_n dX1_putAt_49 rfl ?_
  refine R_dup dX1_putAt_50 rfl ?_
  refine R_get dX1_putAt_51 gf_X1_21 h.1 rfl ?_
  refine R_iconst (v := 1) dX1_putAt_54 (by decide) ?_
  refine R_iadd dX1_putAt_55 ?_
  refine RR.top (y := nI (L + 1)) (nI_1 L) ?_
  refine Le_put1 dX1_putAt_56 pf_X1_21 h (fun hh h hF1 => ?_)
  have hF := hF.tr hF1 (by omega) (by omega)
  exact R_vret dX1_putAt_59 rfl (⟨rfl, h, hF⟩)
set_option maxRecDepth 4000 in
theorem e_append (G : GG) (hh : HH) {k n L : Nat} {f : Nat → Int32} (h : LeAt G hh k n f (nI L)) (hL : L ≤ n) (hn : n ≤ 1000) (hr : L < n) (x : Int32) : EVv G mX1_append [.ref (ad G k), .int x] hh (fun h1 => LeAt G h1 k n (upd f L x) (nI (L + 1)) ∧ Fr k (k + 2) hh h1) := by
  refine EV.of [(0, .ref (ad G k)), (1, .int x)] (by decide +kernel) (Nat.le_of_ble_eq_true rfl) rfl ?_
  refine R_aload_n dX1_append_0 rfl ?_
  refine R_aload_n dX1_append_1 rfl ?_
  refine R_get dX1_append_2 gf_X1_21 h.1 rfl ?_
  refine R_iload_n dX1_append_5 rfl ?_
  refine R_callVv dX1_append_6 cv_X1_25 ⟨by decide, by decide⟩ (e_putAt G hh h hL hn L (Nat.le_refl L) hr x) h.1 rfl rfl rfl (Nat.le_of_ble_eq_true rfl) (fun hh hw => ?_)
  rw [insA_end] at hw
  exact R_vret dX1_append_9 rfl (⟨rfl, hw⟩)
set_option maxRecDepth 4000 in
theorem e_removeSpan (G : GG) (hh : HH) {k n L : Nat} {f : Nat → Int32} (h : LeAt G hh k n f (nI L)) (hL : L ≤ n) (hn : n ≤ 1000) (i j : Nat) (hi : i ≤ j) (hj : j ≤ L) : EVv G mX1_removeSpan [.ref (ad G k), .int (nI i), .int (nI j)] hh (fun h1 => LeAt G h1 k n (va_cpy f f j i (L - j)) (nI (L - (j - i))) ∧ Fr k (k + 2) hh h1) := by
  refine EV.of [(0, .ref (ad G k)), (1, .int (nI i)), (2, .int (nI j))] (by decide +kernel) (Nat.le_of_ble_eq_true rfl) rfl ?_
  have hF : Fr k (k + 2) hh hh := Fr.rf
  refine R_iload_n dX1_removeSpan_0 rfl ?_
  refine R_if_lt (tgt := 17) dX1_removeSpan_1 (by decide) (fun c1 => absurd c1 (nI_pos (by omega))) (fun c1 => ?_)
  refine R_iload_n dX1_removeSpan_4 rfl ?_
  refine R_iload_n dX1_removeSpan_5 rfl ?_
  refine R_icmp_lt (tgt := 17) dX1_removeSpan_6 (by decide) (fun c6 => absurd c6 (nI_nlt (by omega) (by omega))) (fun c6 => ?_)
  refine R_iload_n dX1_removeSpan_9 rfl ?_
  refine R_aload_n dX1_removeSpan_10 rfl ?_
  refine R_get dX1_removeSpan_11 gf_X1_21 h.1 rfl ?_
  refine R_icmp_le (tgt := 18) dX1_removeSpan_14 (by decide) (fun c14 => ?_) (fun c14 => absurd (nI_le (by omega) (by omega)) c14)
  refine R_aload_n dX1_removeSpan_18 rfl ?_
  refine R_get dX1_removeSpan_19 gf_X1_15 h.1 rfl ?_
  refine R_iload_n dX1_removeSpan_22 rfl ?_
  refine R_aload_n dX1_removeSpan_23 rfl ?_
  refine R_get dX1_removeSpan_24 gf_X1_15 h.1 rfl ?_
  refine R_iload_n dX1_removeSpan_27 rfl ?_
  refine R_aload_n dX1_removeSpan_28 rfl ?_
  refine R_get dX1_removeSpan_29 gf_X1_21 h.1 rfl ?_
  refine R_iload_n dX1_removeSpan_32 rfl ?_
  refine R_isub dX1_removeSpan_33 ?_
  refine RR.top (y := nI (L - j)) (pk_sub (by omega)) ?_
  refine Le_cpy dX1_removeSpan_34 mm_X1_33 aC_n aC_s aC_i (by decide) h h (by omega) (by omega) hn hn (Nat.le_of_ble_eq_true rfl) (fun hh h hF1 => ?_)
  have hF := hF.tr hF1 (by omega) (by omega)
  refine R_aload_n dX1_removeSpan_37 rfl ?_
  refine R_dup dX1_removeSpan_38 rfl ?_
  refine R_get dX1_removeSpan_39 gf_X1_21 h.1 rfl ?_
  refine R_iload_n dX1_removeSpan_42 rfl ?_
  refine R_iload_n dX1_removeSpan_43 rfl ?_
  refine R_isub dX1_removeSpan_44 ?_
  refine RR.top (y := nI (j - i)) (pk_sub (by omega)) ?_
  refine R_isub dX1_removeSpan_45 ?_
  refine RR.top (y := nI (L - (j - i))) (pk_sub (by omega)) ?_
  refine Le_put1 dX1_removeSpan_46 pf_X1_21 h (fun hh h hF1 => ?_)
  have hF := hF.tr hF1 (by omega) (by omega)
  exact R_vret dX1_removeSpan_49 rfl (⟨rfl, h, hF⟩)
set_option maxRecDepth 4000 in
theorem e_appendAll (G : GG) (hh : HH) {k n L : Nat} {f : Nat → Int32} (h : LeAt G hh k n f (nI L)) (hL : L ≤ n) (hn : n ≤ 1000) {k2 n2 m : Nat} {g : Nat → Int32} (h2 : LeAt G hh k2 n2 g (nI m)) (hm : m ≤ n2) (hn2 : n2 ≤ 1000) (hap : k2 = k ∨ k2 + 2 ≤ k ∨ k + 2 ≤ k2) (hr : L + m ≤ n) : EVv G mX1_appendAll [.ref (ad G k), .ref (ad G k2)] hh (fun h1 => LeAt G h1 k n (va_cpy g f 0 L m) (nI (L + m)) ∧ Fr k (k + 2) hh h1) := by
  refine EV.of [(0, .ref (ad G k)), (1, .ref (ad G k2))] (by decide +kernel) (Nat.le_of_ble_eq_true rfl) rfl ?_
  have hF : Fr k (k + 2) hh hh := Fr.rf
  refine R_aload_n dX1_appendAll_0 rfl ?_
  refine R_get dX1_appendAll_1 gf_X1_21 h2.1 rfl ?_
  refine R_istore_n dX1_appendAll_4 (by decide) ?_
  refine R_aload_n dX1_appendAll_5 rfl ?_
  refine R_iload_n dX1_appendAll_6 rfl ?_
  refine R_callVp dX1_appendAll_7 cv_X1_29 ⟨by decide, by decide⟩ (e_hasRoom G hh h hL hn m (by omega)) h.1 rfl rfl rfl (Nat.le_of_ble_eq_true rfl) ?_
  refine R_if_ne (tgt := 14) dX1_appendAll_10 (by decide) (fun c10 => ?_) (fun c10 => absurd (by simp [bl]; omega) c10)
  refine R_aload_n dX1_appendAll_14 rfl ?_
  refine R_get dX1_appendAll_15 gf_X1_15 h2.1 rfl ?_
  refine R_iconst (v := 0) dX1_appendAll_18 (by decide) ?_
  refine R_aload_n dX1_appendAll_19 rfl ?_
  refine R_get dX1_appendAll_20 gf_X1_15 h.1 rfl ?_
  refine R_aload_n dX1_appendAll_23 rfl ?_
  refine R_get dX1_appendAll_24 gf_X1_21 h.1 rfl ?_
  refine R_iload_n dX1_appendAll_27 rfl ?_
  refine Le_cpy (sp := 0) dX1_appendAll_28 mm_X1_33 aC_n aC_s aC_i (by decide) h h2 (by omega) (by omega) hn hn2 (Nat.le_of_ble_eq_true rfl) (fun hh h hF1 => ?_)
  have hF := hF.tr hF1 (by omega) (by omega)
  refine R_aload_n dX1_appendAll_31 rfl ?_
  refine R_dup dX1_appendAll_32 rfl ?_
  refine R_get dX1_appendAll_33 gf_X1_21 h.1 rfl ?_
  refine R_iload_n dX1_appendAll_36 rfl ?_
  refine R_iadd dX1_appendAll_37 ?_
  refine RR.top (y := nI (L + m)) (nI_add L m) ?_
  refine Le_put1 dX1_appendAll_38 pf_X1_21 h (fun hh h hF1 => ?_)
  have hF := hF.tr hF1 (by omega) (by omega)
  exact R_vret dX1_appendAll_41 rfl (⟨rfl, h, hF⟩)
def stnd (f g : Nat → Int32) (p i d : Nat) : Bool := (List.range' i d).all (fun j => decide (f (p + j) = g j))
set_option maxRecDepth 4000 in
theorem l_standsAt (G : GG) (hh : HH) {k n L : Nat} {f : Nat → Int32} (h : LeAt G hh k n f (nI L)) (hL : L ≤ n) (hn : n ≤ 1000) {k2 n2 m : Nat} {g : Nat → Int32} (h2 : LeAt G hh k2 n2 g (nI m)) (hm : m ≤ n2) (hn2 : n2 ≤ 1000) (p : Nat) (hp : p + m ≤ L) : ∀ (d i : Nat), i + d = m → RR G mX1_standsAt 2 [(0, .ref (ad G k)), (1, .int (nI p)), (2, .ref (ad G k2)), (3, .int (nI i))] [] hh (fun r h => ∃ w, r = some (.int w) ∧ (w = bl (stnd f g p i d) ∧ h = hh)) := by
  intro d
  induction d with
  | zero =>
    intro i hi
    refine R_iload_n dX1_standsAt_2 rfl ?_
    refine R_aload_n dX1_standsAt_3 rfl ?_
    refine R_get dX1_standsAt_4 gf_X1_21 h2.1 rfl ?_
    refine R_icmp_ge (tgt := 35) dX1_standsAt_7 (by decide) (fun c7 => ?_) (fun c7 => absurd (nI_le (by omega) (by omega)) c7)
    refine R_iconst (v := 1) dX1_standsAt_35 (by decide) ?_
    exact R_zret dX1_standsAt_36 rfl (by first | exact Or.inl rfl | exact Or.inr rfl | assumption | omega) (⟨_, rfl, by simp [stnd, bl], rfl⟩)
  | succ d ih =>
    intro i hi
    refine R_iload_n dX1_standsAt_2 rfl ?_
    refine R_aload_n dX1_standsAt_3 rfl ?_
    refine R_get dX1_standsAt_4 gf_X1_21 h2.1 rfl ?_
    refine R_icmp_ge (tgt := 35) dX1_standsAt_7 (by decide) (fun c7 => absurd c7 (nI_ge (by omega) (by omega))) (fun c7 => ?_)
    refine R_aload_n dX1_standsAt_10 rfl ?_
    refine R_get dX1_standsAt_11 gf_X1_15 h.1 rfl ?_
    refine R_iload_n dX1_standsAt_14 rfl ?_
    refine R_iload_n dX1_standsAt_15 rfl ?_
    refine R_iadd dX1_standsAt_16 ?_
    refine RR.top (y := nI (p + i)) (nI_add p i) ?_
    refine R_ialdN dX1_standsAt_17 h.2 (show p + i < n by omega) (by omega) ?_
    refine R_aload_n dX1_standsAt_18 rfl ?_
    refine R_get dX1_standsAt_19 gf_X1_15 h2.1 rfl ?_
    refine R_iload_n dX1_standsAt_22 rfl ?_
    refine R_ialdN dX1_standsAt_23 h2.2 (by omega) (by omega) ?_
    refine R_icmp_eq (tgt := 29) dX1_standsAt_24 (by decide) (fun c24 => ?_) (fun c24 => ?_)
    · refine R_iinc (y := nI (i + 1)) dX1_standsAt_29 rfl (by decide) (nI_s i) ?_
      refine R_goto (tgt := 2) dX1_standsAt_32 (by decide) ?_
      have e9 : stnd f g p i (d + 1) = stnd f g p (i + 1) d := by simp_all [stnd, List.range'_succ]
      rw [e9]
      exact RR.pick [1, 2, 3, 0] rfl (ih (i + 1) (by omega))
    · refine R_iconst (v := 0) dX1_standsAt_27 (by decide) ?_
      exact R_zret dX1_standsAt_28 rfl (by first | exact Or.inl rfl | exact Or.inr rfl | assumption | omega) (⟨_, rfl, by simp_all [stnd, bl, List.range'_succ], rfl⟩)
set_option maxRecDepth 4000 in
theorem e_standsAt (G : GG) (hh : HH) {k n L : Nat} {f : Nat → Int32} (h : LeAt G hh k n f (nI L)) (hL : L ≤ n) (hn : n ≤ 1000) {k2 n2 m : Nat} {g : Nat → Int32} (h2 : LeAt G hh k2 n2 g (nI m)) (hm : m ≤ n2) (hn2 : n2 ≤ 1000) (p : Nat) (hp : p + m ≤ L) : EVp G mX1_standsAt [.ref (ad G k), .int (nI p), .ref (ad G k2)] hh (bl (stnd f g p 0 m)) := by
  refine EV.of [(0, .ref (ad G k)), (1, .int (nI p)), (2, .ref (ad G k2))] (by decide +kernel) (Nat.le_of_ble_eq_true rfl) rfl ?_
  refine R_iconst (v := 0) dX1_standsAt_0 (by decide) ?_
  refine R_istore_n dX1_standsAt_1 (by decide) ?_
  exact RR.pick [1, 2, 3, 0] rfl (l_standsAt G hh h hL hn h2 hm hn2 p hp m 0 (by omega))
def plc (f g : Nat → Int32) (m : Nat) : Nat → Nat → Int32
  | _, 0 => -1
  | i, d + 1 => if stnd f g i 0 m = true then nI i else plc f g m (i + 1) d
set_option maxRecDepth 4000 in
theorem l_placeOf (G : GG) (hh : HH) {k n L : Nat} {f : Nat → Int32} (h : LeAt G hh k n f (nI L)) (hL : L ≤ n) (hn : n ≤ 1000) {k2 n2 m : Nat} {g : Nat → Int32} (h2 : LeAt G hh k2 n2 g (nI m)) (hm : m ≤ n2) (hn2 : n2 ≤ 1000) : ∀ (d i : Nat), i + d = L + 1 - m → RR G mX1_placeOf 2 [(0, .ref (ad G k)), (1, .ref (ad G k2)), (2, .int (nI i))] [] hh (fun r h => ∃ w, r = some (.int w) ∧ (w = plc f g m i d ∧ h = hh)) := by
  intro d
  induction d with
  | zero =>
    intro i hi
    refine R_iload_n dX1_placeOf_2 rfl ?_
    refine R_aload_n dX1_placeOf_3 rfl ?_
    refine R_get dX1_placeOf_4 gf_X1_21 h2.1 rfl ?_
    refine R_iadd dX1_placeOf_7 ?_
    refine RR.top (y := nI (i + m)) (nI_add i m) ?_
    refine R_aload_n dX1_placeOf_8 rfl ?_
    refine R_get dX1_placeOf_9 gf_X1_21 h.1 rfl ?_
    refine R_icmp_gt (tgt := 32) dX1_placeOf_12 (by decide) (fun c12 => ?_) (fun c12 => absurd (nI_lt (by omega) (by omega)) c12)
    refine R_iconst (v := (-1)) dX1_placeOf_32 (by decide) ?_
    exact R_iret dX1_placeOf_33 rfl (⟨_, rfl, rfl, rfl⟩)
  | succ d ih =>
    intro i hi
    refine R_iload_n dX1_placeOf_2 rfl ?_
    refine R_aload_n dX1_placeOf_3 rfl ?_
    refine R_get dX1_placeOf_4 gf_X1_21 h2.1 rfl ?_
    refine R_iadd dX1_placeOf_7 ?_
    refine RR.top (y := nI (i + m)) (nI_add i m) ?_
    refine R_aload_n dX1_placeOf_8 rfl ?_
    refine R_get dX1_placeOf_9 gf_X1_21 h.1 rfl ?_
    refine R_icmp_gt (tgt := 32) dX1_placeOf_12 (by decide) (fun c12 => absurd c12 (nI_nlt (by omega) (by omega))) (fun c12 => ?_)
    refine R_aload_n dX1_placeOf_15 rfl ?_
    refine R_iload_n dX1_placeOf_16 rfl ?_
    refine R_aload_n dX1_placeOf_17 rfl ?_
    refine R_callVp dX1_placeOf_18 cv_X1_39 ⟨by decide, by decide⟩ (e_standsAt G hh h hL hn h2 hm hn2 i (by omega)) h.1 rfl rfl rfl (Nat.le_of_ble_eq_true rfl) ?_
    refine R_if_eq (tgt := 26) dX1_placeOf_21 (by decide) (fun c21 => ?_) (fun c21 => ?_)
    · refine R_iinc (y := nI (i + 1)) dX1_placeOf_26 rfl (by decide) (nI_s i) ?_
      refine R_goto (tgt := 2) dX1_placeOf_29 (by decide) ?_
      have e9 : plc f g m i (d + 1) = plc f g m (i + 1) d := by simp only [plc]; rw [if_neg (by simpa [bl] using c21)]
      rw [e9]
      exact RR.pick [1, 2, 0] rfl (ih (i + 1) (by omega))
    · refine R_iload_n dX1_placeOf_24 rfl ?_
      exact R_iret dX1_placeOf_25 rfl (⟨_, rfl, by simp only [plc]; rw [if_pos (by simpa [bl] using c21)], rfl⟩)
set_option maxRecDepth 4000 in
theorem e_placeOf (G : GG) (hh : HH) {k n L : Nat} {f : Nat → Int32} (h : LeAt G hh k n f (nI L)) (hL : L ≤ n) (hn : n ≤ 1000) {k2 n2 m : Nat} {g : Nat → Int32} (h2 : LeAt G hh k2 n2 g (nI m)) (hm : m ≤ n2) (hn2 : n2 ≤ 1000) : EVp G mX1_placeOf [.ref (ad G k), .ref (ad G k2)] hh (plc f g m 0 (L + 1 - m)) := by
  refine EV.of [(0, .ref (ad G k)), (1, .ref (ad G k2))] (by decide +kernel) (Nat.le_of_ble_eq_true rfl) rfl ?_
  refine R_iconst (v := 0) dX1_placeOf_0 (by decide) ?_
  refine R_istore_n dX1_placeOf_1 (by decide) ?_
  exact RR.pick [1, 2, 0] rfl (l_placeOf G hh h hL hn h2 hm hn2 (L + 1 - m) 0 (by omega))
def isWl (f : Nat → Int32) (fr w i d : Nat) : Bool := (List.range' i d).all (fun j => decide (f (fr + j) = chS w j))
def isW (f : Nat → Int32) (fr t w : Nat) : Bool := decide (t - fr = lenS.getD w 0) && isWl f fr w 0 (lenS.getD w 0)
set_option maxRecDepth 4000 in
theorem l_isWordAt (G : GG) (hh : HH) {k n L : Nat} {f : Nat → Int32} (h : LeAt G hh k n f (nI L)) (hL : L ≤ n) (hn : n ≤ 1000) {w : Nat} (hw : w < 9) (fr t : Nat) (ht : t ≤ L) (hft : fr + lenS.getD w 0 = t) : ∀ (d i : Nat), i + d = lenS.getD w 0 → RR G mX1_isWordAt 27 [(0, .ref (ad G k)), (1, .int (nI fr)), (2, .int (nI t)), (3, .ref (kK G w)), (4, .int (nI i))] [] hh (fun r h => ∃ x, r = some (.int x) ∧ (x = bl (isWl f fr w i d) ∧ h = hh)) := by
  intro d
  induction d with
  | zero =>
    intro i hi
    refine R_iload dX1_isWordAt_27 rfl ?_
    refine R_aload_n dX1_isWordAt_29 rfl ?_
    refine R_callStrp hw dX1_isWordAt_30 cv_X1_43 ⟨by decide, by decide⟩ (e_strLen G hh w hw) rfl rfl rfl (Nat.le_of_ble_eq_true rfl) ?_
    refine R_icmp_ge (tgt := 62) dX1_isWordAt_33 (by decide) (fun c33 => ?_) (fun c33 => absurd (nI_le (by omega) (by have := lenS_lt w hw; omega)) c33)
    refine R_iconst (v := 1) dX1_isWordAt_62 (by decide) ?_
    exact R_zret dX1_isWordAt_63 rfl (by first | exact Or.inl rfl | exact Or.inr rfl | assumption | omega) (⟨_, rfl, by simp [isWl, bl], rfl⟩)
  | succ d ih =>
    intro i hi
    refine R_iload dX1_isWordAt_27 rfl ?_
    refine R_aload_n dX1_isWordAt_29 rfl ?_
    refine R_callStrp hw dX1_isWordAt_30 cv_X1_43 ⟨by decide, by decide⟩ (e_strLen G hh w hw) rfl rfl rfl (Nat.le_of_ble_eq_true rfl) ?_
    refine R_icmp_ge (tgt := 62) dX1_isWordAt_33 (by decide) (fun c33 => absurd c33 (nI_ge (by omega) (by have := lenS_lt w hw; omega))) (fun c33 => ?_)
    refine R_aload_n dX1_isWordAt_36 rfl ?_
    refine R_get dX1_isWordAt_37 gf_X1_15 h.1 rfl ?_
    refine R_iload_n dX1_isWordAt_40 rfl ?_
    refine R_iload dX1_isWordAt_41 rfl ?_
    refine R_iadd dX1_isWordAt_43 ?_
    refine RR.top (y := nI (fr + i)) (nI_add fr i) ?_
    refine R_ialdN dX1_isWordAt_44 h.2 (by omega) (by omega) ?_
    refine R_aload_n dX1_isWordAt_45 rfl ?_
    refine R_iload dX1_isWordAt_46 rfl ?_
    refine R_callStrp hw dX1_isWordAt_48 cv_X1_48 ⟨by decide, by decide⟩ (e_charAt G hh w i hw (by omega)) rfl rfl rfl (Nat.le_of_ble_eq_true rfl) ?_
    refine R_icmp_eq (tgt := 56) dX1_isWordAt_51 (by decide) (fun c51 => ?_) (fun c51 => ?_)
    · refine R_iinc (y := nI (i + 1)) dX1_isWordAt_56 rfl (by decide) (nI_s i) ?_
      refine R_goto (tgt := 27) dX1_isWordAt_59 (by decide) ?_
      have e9 : isWl f fr w i (d + 1) = isWl f fr w (i + 1) d := by simp_all [isWl, List.range'_succ]
      rw [e9]
      exact RR.pick [1, 2, 3, 4, 0] rfl (ih (i + 1) (by omega))
    · refine R_iconst (v := 0) dX1_isWordAt_54 (by decide) ?_
      exact R_zret dX1_isWordAt_55 rfl (by first | exact Or.inl rfl | exact Or.inr rfl | assumption | omega) (⟨_, rfl, by simp_all [isWl, bl, List.range'_succ], rfl⟩)
set_option maxRecDepth 4000 in
theorem e_isWordAt (G : GG) (hh : HH) {k n L : Nat} {f : Nat → Int32} (h : LeAt G hh k n f (nI L)) (hL : L ≤ n) (hn : n ≤ 1000) {w : Nat} (hw : w < 9) (fr t : Nat) (hf : fr ≤ t) (ht : t ≤ L) : EVp G mX1_isWordAt [.ref (ad G k), .int (nI fr), .int (nI t), .ref (kK G w)] hh (bl (isW f fr t w)) := by
  refine EV.of [(0, .ref (ad G k)), (1, .int (nI fr)), (2, .int (nI t)), (3, .ref (kK G w))] (by decide +kernel) (Nat.le_of_ble_eq_true rfl) rfl ?_
  refine R_iload_n dX1_isWordAt_0 rfl ?_
  refine R_if_lt (tgt := 22) dX1_isWordAt_1 (by decide) (fun c1 => absurd c1 (nI_pos (by omega))) (fun c1 => ?_)
  refine R_iload_n dX1_isWordAt_4 rfl ?_
  refine R_aload_n dX1_isWordAt_5 rfl ?_
  refine R_get dX1_isWordAt_6 gf_X1_21 h.1 rfl ?_
  refine R_icmp_gt (tgt := 22) dX1_isWordAt_9 (by decide) (fun c9 => absurd c9 (nI_nlt (by omega) (by omega))) (fun c9 => ?_)
  refine R_iload_n dX1_isWordAt_12 rfl ?_
  refine R_iload_n dX1_isWordAt_13 rfl ?_
  refine R_isub dX1_isWordAt_14 ?_
  refine RR.top (y := nI (t - fr)) (pk_sub hf) ?_
  refine R_aload_n dX1_isWordAt_15 rfl ?_
  refine R_callStrp hw dX1_isWordAt_16 cv_X1_43 ⟨by decide, by decide⟩ (e_strLen G hh w hw) rfl rfl rfl (Nat.le_of_ble_eq_true rfl) ?_
  refine R_icmp_eq (tgt := 24) dX1_isWordAt_19 (by decide) (fun c19 => ?_) (fun c19 => ?_)
  · refine R_iconst (v := 0) dX1_isWordAt_24 (by decide) ?_
    refine R_istore dX1_isWordAt_25 (by decide) ?_
    rw [nI_eq (by omega) (by have := lenS_lt w hw; omega)] at c19
    have e9 : isW f fr t w = isWl f fr w 0 (lenS.getD w 0) := by simp only [isW, c19, decide_true, Bool.true_and]
    rw [e9]
    exact RR.pick [1, 2, 3, 4, 0] rfl (l_isWordAt G hh h hL hn hw fr t ht (by omega) _ 0 (by omega))
  · refine R_iconst (v := 0) dX1_isWordAt_22 (by decide) ?_
    exact R_zret dX1_isWordAt_23 rfl (by first | exact Or.inl rfl | exact Or.inr rfl | assumption | omega) (⟨_, rfl, by rw [nI_eq (by omega) (by have := lenS_lt w hw; omega)] at c19; rw [isW, decide_eq_false c19]; rfl, rfl⟩)
def rulL (f : Nat → Int32) (fr t : Nat) : Nat → Nat → Int32
  | _, 0 => -1
  | i, d + 1 => if isW f fr t (5 + i) = true then nI i else rulL f fr t (i + 1) d
set_option maxRecDepth 4000 in
theorem l_ruleAt (G : GG) (hh : HH) {k n L : Nat} {f : Nat → Int32} (h : LeAt G hh k n f (nI L)) (hL : L ≤ n) (hn : n ≤ 1000) (fr t : Nat) (hf : fr ≤ t) (ht : t ≤ L) : ∀ (d i : Nat), i + d = 4 → RR G mX1_ruleAt 2 [(0, .ref (ad G k)), (1, .int (nI fr)), (2, .int (nI t)), (3, .int (nI i))] [] hh (fun r h => ∃ x, r = some (.int x) ∧ (x = rulL f fr t i d ∧ h = hh)) := by
  intro d
  induction d with
  | zero =>
    intro i hi
    refine R_iload_n dX1_ruleAt_2 rfl ?_
    refine R_iconst (v := 4) dX1_ruleAt_3 (by decide) ?_
    refine R_icmp_ge (tgt := 28) dX1_ruleAt_4 (by decide) (fun c4 => ?_) (fun c4 => absurd (nI_le (a := 4) (by omega) (by omega)) c4)
    refine R_iconst (v := (-1)) dX1_ruleAt_28 (by decide) ?_
    exact R_iret dX1_ruleAt_29 rfl (⟨_, rfl, rfl, rfl⟩)
  | succ d ih =>
    intro i hi
    refine R_iload_n dX1_ruleAt_2 rfl ?_
    refine R_iconst (v := 4) dX1_ruleAt_3 (by decide) ?_
    refine R_icmp_ge (tgt := 28) dX1_ruleAt_4 (by decide) (fun c4 => absurd c4 (nI_ge (b := 4) (by omega) (by omega))) (fun c4 => ?_)
    refine R_aload_n dX1_ruleAt_7 rfl ?_
    refine R_iload_n dX1_ruleAt_8 rfl ?_
    refine R_iload_n dX1_ruleAt_9 rfl ?_
    refine R_iload_n dX1_ruleAt_10 rfl ?_
    refine R_callSNr dX1_ruleAt_11 cn_X1_52 ⟨by decide, by decide⟩ (e_ruleName G hh i (by omega)) rfl rfl (Nat.le_of_ble_eq_true rfl) (fun q hh1 hq => ?_)
    obtain ⟨rfl, eh⟩ := hq
    rw [eh]
    refine R_callVp dX1_ruleAt_14 cv_X1_56 ⟨by decide, by decide⟩ (e_isWordAt G hh h hL hn (show 5 + i < 9 by omega) fr t hf ht) h.1 rfl rfl rfl (Nat.le_of_ble_eq_true rfl) ?_
    refine R_if_eq (tgt := 22) dX1_ruleAt_17 (by decide) (fun c17 => ?_) (fun c17 => ?_)
    · refine R_iinc (y := nI (i + 1)) dX1_ruleAt_22 rfl (by decide) (nI_s i) ?_
      refine R_goto (tgt := 2) dX1_ruleAt_25 (by decide) ?_
      have e9 : rulL f fr t i (d + 1) = rulL f fr t (i + 1) d := by simp only [rulL]; rw [if_neg (by simpa [bl] using c17)]
      rw [e9]
      exact RR.pick [1, 2, 3, 0] rfl (ih (i + 1) (by omega))
    · refine R_iload_n dX1_ruleAt_20 rfl ?_
      exact R_iret dX1_ruleAt_21 rfl (⟨_, rfl, by simp only [rulL]; rw [if_pos (by simpa [bl] using c17)], rfl⟩)
set_option maxRecDepth 4000 in
theorem e_ruleAt (G : GG) (hh : HH) {k n L : Nat} {f : Nat → Int32} (h : LeAt G hh k n f (nI L)) (hL : L ≤ n) (hn : n ≤ 1000) (fr t : Nat) (hf : fr ≤ t) (ht : t ≤ L) : EVp G mX1_ruleAt [.ref (ad G k), .int (nI fr), .int (nI t)] hh (rulL f fr t 0 4) := by
  refine EV.of [(0, .ref (ad G k)), (1, .int (nI fr)), (2, .int (nI t))] (by decide +kernel) (Nat.le_of_ble_eq_true rfl) rfl ?_
  refine R_iconst (v := 0) dX1_ruleAt_0 (by decide) ?_
  refine R_istore_n dX1_ruleAt_1 (by decide) ?_
  exact RR.pick [1, 2, 3, 0] rfl (l_ruleAt G hh h hL hn fr t hf ht 4 0 (by omega))
def numF (f : Nat → Int32) : Nat → Nat → Int32 → Int32
  | _, 0, x => x
  | i, d + 1, x => if f i - 48 < 0 ∨ 9 < f i - 48 then -1 else numF f (i + 1) d (10 * x + (f i - 48))
def numOf (f : Nat → Int32) (fr t md : Nat) : Int32 := if t ≤ fr ∨ md < t - fr then -1 else numF f fr (t - fr) 0
set_option maxRecDepth 4000 in
theorem l_numberAt (G : GG) (hh : HH) {k n L : Nat} {f : Nat → Int32} (h : LeAt G hh k n f (nI L)) (hL : L ≤ n) (hn : n ≤ 1000) (fr t md : Nat) (ht : t ≤ L) : ∀ (d i : Nat) (x : Int32), i + d = t → RR G mX1_numberAt 32 [(0, .ref (ad G k)), (1, .int (nI fr)), (2, .int (nI t)), (3, .int (nI md)), (4, .int x), (5, .int (nI i))] [] hh (fun r h => ∃ y, r = some (.int y) ∧ (y = numF f i d x ∧ h = hh)) := by
  intro d
  induction d with
  | zero =>
    intro i x hi
    refine R_iload dX1_numberAt_32 rfl ?_
    refine R_iload_n dX1_numberAt_34 rfl ?_
    refine R_icmp_ge (tgt := 80) dX1_numberAt_35 (by decide) (fun c35 => ?_) (fun c35 => absurd (nI_le (by omega) (by omega)) c35)
    refine R_iload dX1_numberAt_80 rfl ?_
    exact R_iret dX1_numberAt_82 rfl (⟨_, rfl, rfl, rfl⟩)
  | succ d ih =>
    intro i x hi
    refine R_iload dX1_numberAt_32 rfl ?_
    refine R_iload_n dX1_numberAt_34 rfl ?_
    refine R_icmp_ge (tgt := 80) dX1_numberAt_35 (by decide) (fun c35 => absurd c35 (nI_ge (by omega) (by omega))) (fun c35 => ?_)
    refine R_aload_n dX1_numberAt_38 rfl ?_
    refine R_get dX1_numberAt_39 gf_X1_15 h.1 rfl ?_
    refine R_iload dX1_numberAt_42 rfl ?_
    refine R_ialdN dX1_numberAt_44 h.2 (by omega) (by omega) ?_
    refine R_bipush (v := 48) dX1_numberAt_45 (by decide) ?_
    refine R_isub dX1_numberAt_47 ?_
    refine R_istore dX1_numberAt_48 (by decide) ?_
    refine R_iload dX1_numberAt_50 rfl ?_
    refine R_if_lt (tgt := 62) dX1_numberAt_52 (by decide) (fun c52 => ?_) (fun c52 => ?_)
    · refine R_iconst (v := (-1)) dX1_numberAt_62 (by decide) ?_
      exact R_iret dX1_numberAt_63 rfl (⟨_, rfl, by simp only [numF]; rw [if_pos (Or.inl c52)], rfl⟩)
    · refine R_iload dX1_numberAt_55 rfl ?_
      refine R_bipush (v := 9) dX1_numberAt_57 (by decide) ?_
      refine R_icmp_le (tgt := 64) dX1_numberAt_59 (by decide) (fun c59 => ?_) (fun c59 => ?_)
      · refine R_bipush (v := 10) dX1_numberAt_64 (by decide) ?_
        refine R_iload dX1_numberAt_66 rfl ?_
        refine R_imul dX1_numberAt_68 ?_
        refine R_iload dX1_numberAt_69 rfl ?_
        refine R_iadd dX1_numberAt_71 ?_
        refine R_istore dX1_numberAt_72 (by decide) ?_
        refine R_iinc (y := nI (i + 1)) dX1_numberAt_74 rfl (by decide) (nI_s i) ?_
        refine R_goto (tgt := 32) dX1_numberAt_77 (by decide) ?_
        have e9 : numF f i (d + 1) x = numF f (i + 1) d (10 * x + (f i - 48)) := by simp only [numF]; rw [if_neg (by rintro (q | q); exact c52 q; exact absurd c59 (Int32.not_le.mpr q))]
        rw [e9]
        exact RR.pick [3, 4, 5, 6, 1, 0] rfl (ih (i + 1) _ (by omega))
      · refine R_iconst (v := (-1)) dX1_numberAt_62 (by decide) ?_
        exact R_iret dX1_numberAt_63 rfl (⟨_, rfl, by simp only [numF]; rw [if_pos (Or.inr (Int32.not_le.mp c59))], rfl⟩)
set_option maxRecDepth 4000 in
theorem e_numberAt (G : GG) (hh : HH) {k n L : Nat} {f : Nat → Int32} (h : LeAt G hh k n f (nI L)) (hL : L ≤ n) (hn : n ≤ 1000) (fr t md : Nat) (hf : fr ≤ t) (ht : t ≤ L) (hmd : md ≤ 1000) : EVp G mX1_numberAt [.ref (ad G k), .int (nI fr), .int (nI t), .int (nI md)] hh (numOf f fr t md) := by
  refine EV.of [(0, .ref (ad G k)), (1, .int (nI fr)), (2, .int (nI t)), (3, .int (nI md))] (by decide +kernel) (Nat.le_of_ble_eq_true rfl) rfl ?_
  refine R_iload_n dX1_numberAt_0 rfl ?_
  refine R_if_lt (tgt := 24) dX1_numberAt_1 (by decide) (fun c1 => absurd c1 (nI_pos (by omega))) (fun c1 => ?_)
  refine R_iload_n dX1_numberAt_4 rfl ?_
  refine R_aload_n dX1_numberAt_5 rfl ?_
  refine R_get dX1_numberAt_6 gf_X1_21 h.1 rfl ?_
  refine R_icmp_gt (tgt := 24) dX1_numberAt_9 (by decide) (fun c9 => absurd c9 (nI_nlt (by omega) (by omega))) (fun c9 => ?_)
  refine R_iload_n dX1_numberAt_12 rfl ?_
  refine R_iload_n dX1_numberAt_13 rfl ?_
  refine R_icmp_le (tgt := 24) dX1_numberAt_14 (by decide) (fun c14 => ?_) (fun c14 => ?_)
  · refine R_iconst (v := (-1)) dX1_numberAt_24 (by decide) ?_
    exact R_iret dX1_numberAt_25 rfl (⟨_, rfl, by rw [numOf, if_pos (Or.inl ((nI_leI (by omega) (by omega)).mp c14))], rfl⟩)
  · refine R_iload_n dX1_numberAt_17 rfl ?_
    refine R_iload_n dX1_numberAt_18 rfl ?_
    refine R_isub dX1_numberAt_19 ?_
    refine RR.top (y := nI (t - fr)) (pk_sub hf) ?_
    refine R_iload_n dX1_numberAt_20 rfl ?_
    refine R_icmp_le (tgt := 26) dX1_numberAt_21 (by decide) (fun c21 => ?_) (fun c21 => ?_)
    · refine R_iconst (v := 0) dX1_numberAt_26 (by decide) ?_
      refine R_istore dX1_numberAt_27 (by decide) ?_
      refine R_iload_n dX1_numberAt_29 rfl ?_
      refine R_istore dX1_numberAt_30 (by decide) ?_
      rw [nI_leI (by omega) (by omega)] at c14 c21
      have e9 : numOf f fr t md = numF f fr (t - fr) 0 := by rw [numOf, if_neg (by omega)]
      rw [e9]
      exact RR.pick [2, 3, 4, 5, 1, 0] rfl (l_numberAt G hh h hL hn fr t md ht _ fr 0 (by omega))
    · refine R_iconst (v := (-1)) dX1_numberAt_24 (by decide) ?_
      exact R_iret dX1_numberAt_25 rfl (⟨_, rfl, by rw [numOf, if_pos (Or.inr (by rw [nI_leI (by omega) (by omega)] at c21; omega))], rfl⟩)
