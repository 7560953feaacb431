theorem nAt.xt {ad : Nat → Nat} {n : Nat} {hh : HH} {k a : Nat} {e0 : va_E} (_ : nAt ad n hh k a e0) (q : Nat) (e : va_E) : Xt n ad hh (va_up ad n q) (va_up hh n e) := Xt.push n ad hh q e
def CN (G : GG) (ad : Nat → Nat) (hh : HH) : Prop := hh 0 = .inr (4, [.ref (ad 1), .ref (ad 3), .ref (ad 5), .ref (ad 6), .ref (ad 7), .ref (ad 8), .ref (ad 17), .ref (ad 26), .ref (ad 35), .ref (ad 44), .ref (ad 118), .ref (ad 119)]) ∧ LN G ad hh 1 200 ∧ LN G ad hh 3 130 ∧ hh 6 = eZ G 3 (fun _ => 0) ∧ hh 7 = .inr (3, [.ref (ad 1), .int 0, .int 0, .int 0, .int 0]) ∧ SN G ad hh 8 ∧ SN G ad hh 17 ∧ SN G ad hh 26 ∧ SN G ad hh 35 ∧ HN G ad hh 44 ∧ hh 119 = eZ G 2 (fun _ => 0)
def Yt (ad : Nat → Nat) (hh : HH) (ad1 : Nat → Nat) (hh1 : HH) : Prop := ∀ i, i < 120 → ad1 i = ad i ∧ (i ≠ 5 → i ≠ 118 → hh1 i = hh i)
theorem CN.y {G : GG} {ad ad1 : Nat → Nat} {hh hh1 : HH} (h : CN G ad hh) (hy : Yt ad hh ad1 hh1) : CN G ad1 hh1 := by
  obtain ⟨h0, h1, h3, h6, h7, h8, h17, h26, h35, h44, h119⟩ := h
  have r : ∀ i, i < 120 → i ≠ 5 → i ≠ 118 → ad1 i = ad i ∧ hh1 i = hh i := fun i a1 a2 a3 => ⟨(hy i a1).1, (hy i a1).2 a2 a3⟩
  refine ⟨?_, h1.r (fun i _ _ => r i (by omega) (by omega) (by omega)), h3.r (fun i _ _ => r i (by omega) (by omega) (by omega)), (r 6 (by omega) (by omega) (by omega)).2.trans h6, ?_, h8.r (fun i _ _ => r i (by omega) (by omega) (by omega)), h17.r (fun i _ _ => r i (by omega) (by omega) (by omega)), h26.r (fun i _ _ => r i (by omega) (by omega) (by omega)), h35.r (fun i _ _ => r i (by omega) (by omega) (by omega)), h44.r (fun i _ _ => r i (by omega) (by omega) (by omega)), (r 119 (by omega) (by omega) (by omega)).2.trans h119⟩
  · rw [(r 0 (by omega) (by omega) (by omega)).2, h0, (hy 1 (by omega)).1, (hy 3 (by omega)).1, (hy 5 (by omega)).1, (hy 6 (by omega)).1, (hy 7 (by omega)).1, (hy 8 (by omega)).1, (hy 17 (by omega)).1, (hy 26 (by omega)).1, (hy 35 (by omega)).1, (hy 44 (by omega)).1, (hy 118 (by omega)).1, (hy 119 (by omega)).1]
  · rw [(r 7 (by omega) (by omega) (by omega)).2, h7, (hy 1 (by omega)).1]
def S3 (G : GG) (ad : Nat → Nat) (hh : HH) : Prop := (∃ f : Nat → Option Nat, hh 5 = eL G 3 f ∧ ∀ j, j < 3 → f j = some (ad (120 + 2 * j))) ∧ ∀ j, j < 3 → LN G ad hh (120 + 2 * j) 40
def K2 (G : GG) (ad : Nat → Nat) (hh : HH) : Prop := (∃ f : Nat → Option Nat, hh 118 = eS G 2 f ∧ ∀ j, j < 2 → f j = some (ad (126 + 9 * j))) ∧ ∀ j, j < 2 → SN G ad hh (126 + 9 * j)
def QW (G : GG) (a : Nat) : QN := fun ad1 n1 hh1 => n1 = 144 ∧ ad1 0 = a ∧ CN G ad1 hh1 ∧ S3 G ad1 hh1 ∧ K2 G ad1 hh1
theorem S3.r {G : GG} {ad ad1 : Nat → Nat} {hh hh1 : HH} (h : S3 G ad hh) (h5 : hh1 5 = hh 5) (hx : ∀ i, 120 ≤ i → i < 126 → ad1 i = ad i ∧ hh1 i = hh i) : S3 G ad1 hh1 := by
  obtain ⟨⟨f, h1, h2⟩, h3⟩ := h
  refine ⟨⟨f, h5.trans h1, fun j hj => ?_⟩, fun j hj => (h3 j hj).r (fun i _ _ => hx i (by omega) (by omega))⟩
  rw [h2 j hj, (hx (120 + 2 * j) (by omega) (by omega)).1]
theorem k_loop (G : GG) (b : Nat) {a : Nat} : ∀ d i ad hh f, i + d = 2 → ad 0 = a → CN G ad hh → S3 G ad hh → hh 118 = eS G 2 f → (∀ j, j < i → f j = some (ad (126 + 9 * j))) → (∀ j, j < i → SN G ad hh (126 + 9 * j)) → MR G b mX4_init 143 1956 162 [(0, .ref a), (1, .int (nI i))] [] ad (126 + 9 * i) hh (125 + 9 * i) (1746 + 105 * i) (QW G a) := by
  intro d
  induction d with
  | zero =>
    intro i ad hh f hi h0 hC h3 hk hf hs
    have e8 : i = 2 := by omega
    subst e8
    refine M_iload_n dX4_init_162 rfl ?_
    refine M_iconst (v := 2) dX4_init_163 (by decide) ?_
    refine M_icmp_ge (tgt := 186) dX4_init_164 (by decide) (fun c9 => ?_) (fun c9 => absurd (by decide) c9)
    exact M_vret dX4_init_186 rfl ⟨rfl, h0, hC, h3, ⟨f, hk, hf⟩, hs⟩
  | succ d ih =>
    intro i ad hh f hi h0 hC h3 hk hf hs
    refine M_iload_n dX4_init_162 rfl ?_
    refine M_iconst (v := 2) dX4_init_163 (by decide) ?_
    refine M_icmp_ge (tgt := 186) dX4_init_164 (by decide) (fun c9 => absurd c9 (nI_ge (b := 2) (by omega) (by decide))) (fun c9 => ?_)
    refine M_aload_n dX4_init_167 rfl ?_
    have hw : nAt ad (126 + 9 * i) hh 0 a _ := ⟨by omega, h0, hC.1⟩
    refine M_get dX4_init_168 gf_X4_61 hw rfl ?_
    refine M_iload_n dX4_init_171 rfl ?_
    refine M_new dX4_init_172 nw_X4_38 (by omega) (by omega) (fun q => ?_)
    refine M_dup dX4_init_175 rfl ?_
    refine M_callJ (As := []) dX4_init_176 ci_X4_40 ⟨by decide, by decide⟩ (n_State G b (nAt.new q _)) rfl rfl (Nat.le_of_ble_eq_true rfl) (by omega) (fun ad1 n1 hh1 hQ => ?_)
    obtain ⟨rfl, hX1, ha1, hS1⟩ := hQ
    have hX2 := (Xt.push (126 + 9 * i) ad hh q (.inr (2, [.null, .null, .null, .null, .null, .null, .null, .null, .int 0, .int 0, .int 0, .int 0, .int 0, .int 0, .int 0]))).tr hX1 (Nat.le_refl _)
    have h1 : nAt ad1 (126 + 9 * i + 9) hh1 118 (ad 118) (eS G 2 f) := ⟨by omega, (hX2 118 (by omega)).1, (hX2 118 (by omega)).2.trans hk⟩
    have hS9 : nAt ad1 (126 + 9 * i + 9) hh1 (126 + 9 * i) q _ := ⟨by omega, ha1, hS1.1⟩
    refine M_aastS dX4_init_179 h1 hS9 (by omega) (by decide) ?_
    refine M_iinc (y := nI (i + 1)) dX4_init_180 rfl (by decide) (nI_s i) ?_
    refine M_goto (tgt := 162) dX4_init_183 (by decide) ?_
    refine M_pick [1, 0] rfl ?_
    have hY : Yt ad hh ad1 (va_up hh1 118 (eS G 2 (va_up f i (some q)))) := fun j hj => ⟨(hX2 j (by omega)).1, fun a1 a2 => (if_neg a2).trans (hX2 j (by omega)).2⟩
    have ih := ih (i + 1) ad1 (va_up hh1 118 (eS G 2 (va_up f i (some q)))) (va_up f i (some q)) (by omega) ((hX2 0 (by omega)).1.trans h0) (hC.y hY) (h3.r (hX2 5 (by omega)).2 (fun j g1 g2 => ⟨(hX2 j (by omega)).1, (if_neg (by omega)).trans (hX2 j (by omega)).2⟩)) (if_pos rfl) ?_ ?_
    · exact ih
    · intro j hj
      by_cases e9 : j = i
      · subst e9
        show (if j = j then some q else f j) = _
        rw [if_pos rfl, ha1]
      · show (if j = i then some q else f j) = _
        rw [if_neg e9, hf j (by omega), (hX2 (126 + 9 * j) (by omega)).1]
    · intro j hj
      by_cases e9 : j = i
      · subst e9
        exact hS1.u (by omega)
      · exact ((hs j (by omega)).x hX2 (by omega)).u (by omega)
theorem s_loop (G : GG) (b : Nat) {a : Nat} : ∀ d i ad hh f, i + d = 3 → ad 0 = a → CN G ad hh → hh 118 = eS G 2 (fun _ => none) → hh 5 = eL G 3 f → (∀ j, j < i → f j = some (ad (120 + 2 * j))) → (∀ j, j < i → LN G ad hh (120 + 2 * j) 40) → MR G b mX4_init 143 1956 134 [(0, .ref a), (1, .int (nI i))] [] ad (120 + 2 * i) hh (119 + 2 * i) (1620 + 42 * i) (QW G a) := by
  intro d
  induction d with
  | zero =>
    intro i ad hh f hi h0 hC h3 hk hf hs
    have e8 : i = 3 := by omega
    subst e8
    refine M_iload_n dX4_init_134 rfl ?_
    refine M_iconst (v := 3) dX4_init_135 (by decide) ?_
    refine M_icmp_ge (tgt := 160) dX4_init_136 (by decide) (fun c9 => ?_) (fun c9 => absurd (by decide) c9)
    refine M_iconst (v := 0) dX4_init_160 (by decide) ?_
    refine M_istore_n dX4_init_161 (by decide) ?_
    refine M_pick [1, 0] rfl ?_
    exact k_loop G b 2 0 ad hh _ rfl h0 hC ⟨⟨f, hk, hf⟩, hs⟩ h3 (fun j hj => absurd hj (Nat.not_lt_zero j)) (fun j hj => absurd hj (Nat.not_lt_zero j))
  | succ d ih =>
    intro i ad hh f hi h0 hC h3 hk hf hs
    refine M_iload_n dX4_init_134 rfl ?_
    refine M_iconst (v := 3) dX4_init_135 (by decide) ?_
    refine M_icmp_ge (tgt := 160) dX4_init_136 (by decide) (fun c9 => absurd c9 (nI_ge (b := 3) (by omega) (by decide))) (fun c9 => ?_)
    refine M_aload_n dX4_init_139 rfl ?_
    have hw : nAt ad (120 + 2 * i) hh 0 a _ := ⟨by omega, h0, hC.1⟩
    refine M_get dX4_init_140 gf_X4_21 hw rfl ?_
    refine M_iload_n dX4_init_143 rfl ?_
    refine M_new dX4_init_144 nw_X4_7 (by omega) (by omega) (fun q => ?_)
    refine M_dup dX4_init_147 rfl ?_
    refine M_bipush (v := nI 40) dX4_init_148 (by decide) ?_
    refine M_callI (As := [.int (nI 40)]) dX4_init_150 ci_X4_11 ⟨by decide, by decide⟩ (n_Letters G b (nAt.new q _) (by decide)) rfl rfl (Nat.le_of_ble_eq_true rfl) (by omega) (fun ad1 n1 hh1 hQ => ?_)
    obtain ⟨rfl, hX1, ha1, hS1⟩ := hQ
    have hX2 := (Xt.push (120 + 2 * i) ad hh q (.inr (1, [.null, .int 0]))).tr hX1 (Nat.le_refl _)
    have h1 : nAt ad1 (120 + 2 * i + 2) hh1 5 (ad 5) (eL G 3 f) := ⟨by omega, (hX2 5 (by omega)).1, (hX2 5 (by omega)).2.trans hk⟩
    have hS9 : nAt ad1 (120 + 2 * i + 2) hh1 (120 + 2 * i) q _ := ⟨by omega, ha1, hS1.1⟩
    refine M_aastL dX4_init_153 h1 hS9 (by omega) (by decide) ?_
    refine M_iinc (y := nI (i + 1)) dX4_init_154 rfl (by decide) (nI_s i) ?_
    refine M_goto (tgt := 134) dX4_init_157 (by decide) ?_
    refine M_pick [1, 0] rfl ?_
    have hY : Yt ad hh ad1 (va_up hh1 5 (eL G 3 (va_up f i (some q)))) := fun j hj => ⟨(hX2 j (by omega)).1, fun a1 a2 => (if_neg a1).trans (hX2 j (by omega)).2⟩
    have ih := ih (i + 1) ad1 (va_up hh1 5 (eL G 3 (va_up f i (some q)))) (va_up f i (some q)) (by omega) ((hX2 0 (by omega)).1.trans h0) (hC.y hY) ((hX2 118 (by omega)).2.trans h3) (if_pos rfl) ?_ ?_
    · exact ih
    · intro j hj
      by_cases e9 : j = i
      · subst e9
        show (if j = j then some q else f j) = _
        rw [if_pos rfl, ha1]
      · show (if j = i then some q else f j) = _
        rw [if_neg e9, hf j (by omega), (hX2 (120 + 2 * j) (by omega)).1]
    · intro j hj
      by_cases e9 : j = i
      · subst e9
        exact hS1.u (by omega)
      · exact ((hs j (by omega)).x hX2 (by omega)).u (by omega)
set_option maxRecDepth 4000 in
theorem n_Wheel (G : GG) (b : Nat) {ad : Nat → Nat} {hh : HH} {a : Nat} (h : nAt ad 1 hh 0 a (.inr (4, [.null, .null, .null, .null, .null, .null, .null, .null, .null, .null, .null, .null]))) : EN G b mX4_init [.ref a] ad 1 hh 143 1956 (QW G a) := by
  refine EN.of [(0, .ref a)] (by decide +kernel) (Nat.le_of_ble_eq_true rfl) rfl ?_
  refine M_aload_n dX4_init_0 rfl ?_
  refine M_objInit dX4_init_1 oi_X4 oi_m oi_c (by decide) (Nat.le_of_ble_eq_true rfl) ?_
  refine M_aload_n dX4_init_4 rfl ?_
  refine M_new dX4_init_5 nw_X4_7 (by decide) (by decide) (fun q1 => ?_)
  refine M_dup dX4_init_8 rfl ?_
  refine M_sipush (v := nI 200) dX4_init_9 (by decide) ?_
  refine M_callI (As := [.int (nI 200)]) dX4_init_12 ci_X4_11 ⟨by decide, by decide⟩ (n_Letters G b (nAt.new _ _) (by decide)) rfl rfl (Nat.le_of_ble_eq_true rfl) (by decide) (fun ad1 n1 hh1 hQ => ?_)
  obtain ⟨rfl, hX1, e1, f1⟩ := hQ
  have hX2 := (Xt.push 1 _ _ q1 (.inr (1, [.null, .int 0]))).tr hX1 (Nat.le_refl _)
  have h := h.x (n1 := 3) hX2 (by decide) (by decide)
  refine M_putF dX4_init_15 ff_X4_14 rfl h rfl rfl (Nat.le_of_ble_eq_true rfl) ?_
  have h := h.up (.inr (4, [.ref q1, .null, .null, .null, .null, .null, .null, .null, .null, .null, .null, .null]))
  have f1 := f1.u (j := 0) (e := (.inr (4, [.ref q1, .null, .null, .null, .null, .null, .null, .null, .null, .null, .null, .null]))) (Or.inl (by decide))
  refine M_aload_n dX4_init_18 rfl ?_
  refine M_new dX4_init_19 nw_X4_7 (by decide) (by decide) (fun q3 => ?_)
  refine M_dup dX4_init_22 rfl ?_
  refine M_sipush (v := nI 130) dX4_init_23 (by decide) ?_
  refine M_callI (As := [.int (nI 130)]) dX4_init_26 ci_X4_11 ⟨by decide, by decide⟩ (n_Letters G b (nAt.new _ _) (by decide)) rfl rfl (Nat.le_of_ble_eq_true rfl) (by decide) (fun ad3 n3 hh3 hQ => ?_)
  obtain ⟨rfl, hX1, e3, f3⟩ := hQ
  have hX2 := (Xt.push 3 _ _ q3 (.inr (1, [.null, .int 0]))).tr hX1 (Nat.le_refl _)
  have h := h.x (n1 := 5) hX2 (by decide) (by decide)
  have f1 := f1.x hX2 (by decide)
  have e1 := (hX2 1 (by decide)).1.trans e1
  refine M_putF dX4_init_29 ff_X4_18 rfl h rfl rfl (Nat.le_of_ble_eq_true rfl) ?_
  have h := h.up (.inr (4, [.ref q1, .ref q3, .null, .null, .null, .null, .null, .null, .null, .null, .null, .null]))
  have f1 := f1.u (j := 0) (e := (.inr (4, [.ref q1, .ref q3, .null, .null, .null, .null, .null, .null, .null, .null, .null, .null]))) (Or.inl (by decide))
  have f3 := f3.u (j := 0) (e := (.inr (4, [.ref q1, .ref q3, .null, .null, .null, .null, .null, .null, .null, .null, .null, .null]))) (Or.inl (by decide))
  refine M_aload_n dX4_init_32 rfl ?_
  refine M_iconst (v := nI 3) dX4_init_33 (by decide) ?_
  refine M_newqL (N := 3) dX4_init_34 aq_X4_7 (by decide) (by decide) (by decide) (fun q5 => ?_)
  have hX2 := h.xt q5 (eL G 3 (fun _ => none))
  have f5 := h.newq q5 (eL G 3 (fun _ => none))
  have h := h.x (n1 := 6) hX2 (by decide) (by decide)
  have f1 := f1.x hX2 (by decide)
  have e1 := (hX2 1 (by decide)).1.trans e1
  have f3 := f3.x hX2 (by decide)
  have e3 := (hX2 3 (by decide)).1.trans e3
  refine M_putF dX4_init_37 ff_X4_21 rfl h rfl rfl (Nat.le_of_ble_eq_true rfl) ?_
  have h := h.up (.inr (4, [.ref q1, .ref q3, .ref q5, .null, .null, .null, .null, .null, .null, .null, .null, .null]))
  have f1 := f1.u (j := 0) (e := (.inr (4, [.ref q1, .ref q3, .ref q5, .null, .null, .null, .null, .null, .null, .null, .null, .null]))) (Or.inl (by decide))
  have f3 := f3.u (j := 0) (e := (.inr (4, [.ref q1, .ref q3, .ref q5, .null, .null, .null, .null, .null, .null, .null, .null, .null]))) (Or.inl (by decide))
  have f5 := f5.ne (.inr (4, [.ref q1, .ref q3, .ref q5, .null, .null, .null, .null, .null, .null, .null, .null, .null])) (j := 0) (by decide)
  refine M_aload_n dX4_init_40 rfl ?_
  refine M_iconst (v := nI 3) dX4_init_41 (by decide) ?_
  refine M_newz (N := 3) dX4_init_42 ac_bool (by decide) (by decide) (by decide) (fun q6 => ?_)
  have hX2 := h.xt q6 (eZ G 3 (fun _ => 0))
  have f6 := h.newq q6 (eZ G 3 (fun _ => 0))
  have h := h.x (n1 := 7) hX2 (by decide) (by decide)
  have f1 := f1.x hX2 (by decide)
  have e1 := (hX2 1 (by decide)).1.trans e1
  have f3 := f3.x hX2 (by decide)
  have e3 := (hX2 3 (by decide)).1.trans e3
  have f5 := f5.x (n1 := 7) hX2 (by decide) (by decide)
  refine M_putF dX4_init_44 ff_X4_25 rfl h rfl rfl (Nat.le_of_ble_eq_true rfl) ?_
  have h := h.up (.inr (4, [.ref q1, .ref q3, .ref q5, .ref q6, .null, .null, .null, .null, .null, .null, .null, .null]))
  have f1 := f1.u (j := 0) (e := (.inr (4, [.ref q1, .ref q3, .ref q5, .ref q6, .null, .null, .null, .null, .null, .null, .null, .null]))) (Or.inl (by decide))
  have f3 := f3.u (j := 0) (e := (.inr (4, [.ref q1, .ref q3, .ref q5, .ref q6, .null, .null, .null, .null, .null, .null, .null, .null]))) (Or.inl (by decide))
  have f5 := f5.ne (.inr (4, [.ref q1, .ref q3, .ref q5, .ref q6, .null, .null, .null, .null, .null, .null, .null, .null])) (j := 0) (by decide)
  have f6 := f6.ne (.inr (4, [.ref q1, .ref q3, .ref q5, .ref q6, .null, .null, .null, .null, .null, .null, .null, .null])) (j := 0) (by decide)
  refine M_aload_n dX4_init_47 rfl ?_
  refine M_new dX4_init_48 nw_X4_29 (by decide) (by decide) (fun q7 => ?_)
  refine M_dup dX4_init_51 rfl ?_
  refine M_aload_n dX4_init_52 rfl ?_
  refine M_get dX4_init_53 gf_X4_14 (h.push _ _) rfl ?_
  refine M_callI (As := [.ref q1]) dX4_init_56 ci_X4_31 ⟨by decide, by decide⟩ (n_Reader G b (nAt.new _ _)) rfl rfl (Nat.le_of_ble_eq_true rfl) (by decide) (fun ad7 n7 hh7 hQ => ?_)
  obtain ⟨rfl, hX1, e7, f7⟩ := hQ
  have hX2 := (Xt.push 7 _ _ q7 (.inr (3, [.null, .int 0, .int 0, .int 0, .int 0]))).tr hX1 (Nat.le_refl _)
  have h := h.x (n1 := 8) hX2 (by decide) (by decide)
  have f1 := f1.x hX2 (by decide)
  have e1 := (hX2 1 (by decide)).1.trans e1
  have f3 := f3.x hX2 (by decide)
  have e3 := (hX2 3 (by decide)).1.trans e3
  have f5 := f5.x (n1 := 8) hX2 (by decide) (by decide)
  have f6 := f6.x (n1 := 8) hX2 (by decide) (by decide)
  have f7 : nAt ad7 8 hh7 7 q7 _ := ⟨by decide, e7, f7⟩
  refine M_putF dX4_init_59 ff_X4_34 rfl h rfl rfl (Nat.le_of_ble_eq_true rfl) ?_
  have h := h.up (.inr (4, [.ref q1, .ref q3, .ref q5, .ref q6, .ref q7, .null, .null, .null, .null, .null, .null, .null]))
  have f1 := f1.u (j := 0) (e := (.inr (4, [.ref q1, .ref q3, .ref q5, .ref q6, .ref q7, .null, .null, .null, .null, .null, .null, .null]))) (Or.inl (by decide))
  have f3 := f3.u (j := 0) (e := (.inr (4, [.ref q1, .ref q3, .ref q5, .ref q6, .ref q7, .null, .null, .null, .null, .null, .null, .null]))) (Or.inl (by decide))
  have f5 := f5.ne (.inr (4, [.ref q1, .ref q3, .ref q5, .ref q6, .ref q7, .null, .null, .null, .null, .null, .null, .null])) (j := 0) (by decide)
  have f6 := f6.ne (.inr (4, [.ref q1, .ref q3, .ref q5, .ref q6, .ref q7, .null, .null, .null, .null, .null, .null, .null])) (j := 0) (by decide)
  have f7 := f7.ne (.inr (4, [.ref q1, .ref q3, .ref q5, .ref q6, .ref q7, .null, .null, .null, .null, .null, .null, .null])) (j := 0) (by decide)
  refine M_aload_n dX4_init_62 rfl ?_
  refine M_new dX4_init_63 nw_X4_38 (by decide) (by decide) (fun q8 => ?_)
  refine M_dup dX4_init_66 rfl ?_
  refine M_callJ (As := []) dX4_init_67 ci_X4_40 ⟨by decide, by decide⟩ (n_State G b (nAt.new _ _)) rfl rfl (Nat.le_of_ble_eq_true rfl) (by decide) (fun ad8 n8 hh8 hQ => ?_)
  obtain ⟨rfl, hX1, e8, f8⟩ := hQ
  have hX2 := (Xt.push 8 _ _ q8 (.inr (2, [.null, .null, .null, .null, .null, .null, .null, .null, .int 0, .int 0, .int 0, .int 0, .int 0, .int 0, .int 0]))).tr hX1 (Nat.le_refl _)
  have h := h.x (n1 := 17) hX2 (by decide) (by decide)
  have f1 := f1.x hX2 (by decide)
  have e1 := (hX2 1 (by decide)).1.trans e1
  have f3 := f3.x hX2 (by decide)
  have e3 := (hX2 3 (by decide)).1.trans e3
  have f5 := f5.x (n1 := 17) hX2 (by decide) (by decide)
  have f6 := f6.x (n1 := 17) hX2 (by decide) (by decide)
  have f7 := f7.x (n1 := 17) hX2 (by decide) (by decide)
  refine M_putF dX4_init_70 ff_X4_41 rfl h rfl rfl (Nat.le_of_ble_eq_true rfl) ?_
  have h := h.up (.inr (4, [.ref q1, .ref q3, .ref q5, .ref q6, .ref q7, .ref q8, .null, .null, .null, .null, .null, .null]))
  have f1 := f1.u (j := 0) (e := (.inr (4, [.ref q1, .ref q3, .ref q5, .ref q6, .ref q7, .ref q8, .null, .null, .null, .null, .null, .null]))) (Or.inl (by decide))
  have f3 := f3.u (j := 0) (e := (.inr (4, [.ref q1, .ref q3, .ref q5, .ref q6, .ref q7, .ref q8, .null, .null, .null, .null, .null, .null]))) (Or.inl (by decide))
  have f5 := f5.ne (.inr (4, [.ref q1, .ref q3, .ref q5, .ref q6, .ref q7, .ref q8, .null, .null, .null, .null, .null, .null])) (j := 0) (by decide)
  have f6 := f6.ne (.inr (4, [.ref q1, .ref q3, .ref q5, .ref q6, .ref q7, .ref q8, .null, .null, .null, .null, .null, .null])) (j := 0) (by decide)
  have f7 := f7.ne (.inr (4, [.ref q1, .ref q3, .ref q5, .ref q6, .ref q7, .ref q8, .null, .null, .null, .null, .null, .null])) (j := 0) (by decide)
  have f8 := f8.u (j := 0) (e := (.inr (4, [.ref q1, .ref q3, .ref q5, .ref q6, .ref q7, .ref q8, .null, .null, .null, .null, .null, .null]))) (Or.inl (by decide))
  refine M_aload_n dX4_init_73 rfl ?_
  refine M_new dX4_init_74 nw_X4_38 (by decide) (by decide) (fun q17 => ?_)
  refine M_dup dX4_init_77 rfl ?_
  refine M_callJ (As := []) dX4_init_78 ci_X4_40 ⟨by decide, by decide⟩ (n_State G b (nAt.new _ _)) rfl rfl (Nat.le_of_ble_eq_true rfl) (by decide) (fun ad17 n17 hh17 hQ => ?_)
  obtain ⟨rfl, hX1, e17, f17⟩ := hQ
  have hX2 := (Xt.push 17 _ _ q17 (.inr (2, [.null, .null, .null, .null, .null, .null, .null, .null, .int 0, .int 0, .int 0, .int 0, .int 0, .int 0, .int 0]))).tr hX1 (Nat.le_refl _)
  have h := h.x (n1 := 26) hX2 (by decide) (by decide)
  have f1 := f1.x hX2 (by decide)
  have e1 := (hX2 1 (by decide)).1.trans e1
  have f3 := f3.x hX2 (by decide)
  have e3 := (hX2 3 (by decide)).1.trans e3
  have f5 := f5.x (n1 := 26) hX2 (by decide) (by decide)
  have f6 := f6.x (n1 := 26) hX2 (by decide) (by decide)
  have f7 := f7.x (n1 := 26) hX2 (by decide) (by decide)
  have f8 := f8.x hX2 (by decide)
  have e8 := (hX2 8 (by decide)).1.trans e8
  refine M_putF dX4_init_81 ff_X4_45 rfl h rfl rfl (Nat.le_of_ble_eq_true rfl) ?_
  have h := h.up (.inr (4, [.ref q1, .ref q3, .ref q5, .ref q6, .ref q7, .ref q8, .ref q17, .null, .null, .null, .null, .null]))
  have f1 := f1.u (j := 0) (e := (.inr (4, [.ref q1, .ref q3, .ref q5, .ref q6, .ref q7, .ref q8, .ref q17, .null, .null, .null, .null, .null]))) (Or.inl (by decide))
  have f3 := f3.u (j := 0) (e := (.inr (4, [.ref q1, .ref q3, .ref q5, .ref q6, .ref q7, .ref q8, .ref q17, .null, .null, .null, .null, .null]))) (Or.inl (by decide))
  have f5 := f5.ne (.inr (4, [.ref q1, .ref q3, .ref q5, .ref q6, .ref q7, .ref q8, .ref q17, .null, .null, .null, .null, .null])) (j := 0) (by decide)
  have f6 := f6.ne (.inr (4, [.ref q1, .ref q3, .ref q5, .ref q6, .ref q7, .ref q8, .ref q17, .null, .null, .null, .null, .null])) (j := 0) (by decide)
  have f7 := f7.ne (.inr (4, [.ref q1, .ref q3, .ref q5, .ref q6, .ref q7, .ref q8, .ref q17, .null, .null, .null, .null, .null])) (j := 0) (by decide)
  have f8 := f8.u (j := 0) (e := (.inr (4, [.ref q1, .ref q3, .ref q5, .ref q6, .ref q7, .ref q8, .ref q17, .null, .null, .null, .null, .null]))) (Or.inl (by decide))
  have f17 := f17.u (j := 0) (e := (.inr (4, [.ref q1, .ref q3, .ref q5, .ref q6, .ref q7, .ref q8, .ref q17, .null, .null, .null, .null, .null]))) (Or.inl (by decide))
  refine M_aload_n dX4_init_84 rfl ?_
  refine M_new dX4_init_85 nw_X4_38 (by decide) (by decide) (fun q26 => ?_)
  refine M_dup dX4_init_88 rfl ?_
  refine M_callJ (As := []) dX4_init_89 ci_X4_40 ⟨by decide, by decide⟩ (n_State G b (nAt.new _ _)) rfl rfl (Nat.le_of_ble_eq_true rfl) (by decide) (fun ad26 n26 hh26 hQ => ?_)
  obtain ⟨rfl, hX1, e26, f26⟩ := hQ
  have hX2 := (Xt.push 26 _ _ q26 (.inr (2, [.null, .null, .null, .null, .null, .null, .null, .null, .int 0, .int 0, .int 0, .int 0, .int 0, .int 0, .int 0]))).tr hX1 (Nat.le_refl _)
  have h := h.x (n1 := 35) hX2 (by decide) (by decide)
  have f1 := f1.x hX2 (by decide)
  have e1 := (hX2 1 (by decide)).1.trans e1
  have f3 := f3.x hX2 (by decide)
  have e3 := (hX2 3 (by decide)).1.trans e3
  have f5 := f5.x (n1 := 35) hX2 (by decide) (by decide)
  have f6 := f6.x (n1 := 35) hX2 (by decide) (by decide)
  have f7 := f7.x (n1 := 35) hX2 (by decide) (by decide)
  have f8 := f8.x hX2 (by decide)
  have e8 := (hX2 8 (by decide)).1.trans e8
  have f17 := f17.x hX2 (by decide)
  have e17 := (hX2 17 (by decide)).1.trans e17
  refine M_putF dX4_init_92 ff_X4_48 rfl h rfl rfl (Nat.le_of_ble_eq_true rfl) ?_
  have h := h.up (.inr (4, [.ref q1, .ref q3, .ref q5, .ref q6, .ref q7, .ref q8, .ref q17, .ref q26, .null, .null, .null, .null]))
  have f1 := f1.u (j := 0) (e := (.inr (4, [.ref q1, .ref q3, .ref q5, .ref q6, .ref q7, .ref q8, .ref q17, .ref q26, .null, .null, .null, .null]))) (Or.inl (by decide))
  have f3 := f3.u (j := 0) (e := (.inr (4, [.ref q1, .ref q3, .ref q5, .ref q6, .ref q7, .ref q8, .ref q17, .ref q26, .null, .null, .null, .null]))) (Or.inl (by decide))
  have f5 := f5.ne (.inr (4, [.ref q1, .ref q3, .ref q5, .ref q6, .ref q7, .ref q8, .ref q17, .ref q26, .null, .null, .null, .null])) (j := 0) (by decide)
  have f6 := f6.ne (.inr (4, [.ref q1, .ref q3, .ref q5, .ref q6, .ref q7, .ref q8, .ref q17, .ref q26, .null, .null, .null, .null])) (j := 0) (by decide)
  have f7 := f7.ne (.inr (4, [.ref q1, .ref q3, .ref q5, .ref q6, .ref q7, .ref q8, .ref q17, .ref q26, .null, .null, .null, .null])) (j := 0) (by decide)
  have f8 := f8.u (j := 0) (e := (.inr (4, [.ref q1, .ref q3, .ref q5, .ref q6, .ref q7, .ref q8, .ref q17, .ref q26, .null, .null, .null, .null]))) (Or.inl (by decide))
  have f17 := f17.u (j := 0) (e := (.inr (4, [.ref q1, .ref q3, .ref q5, .ref q6, .ref q7, .ref q8, .ref q17, .ref q26, .null, .null, .null, .null]))) (Or.inl (by decide))
  have f26 := f26.u (j := 0) (e := (.inr (4, [.ref q1, .ref q3, .ref q5, .ref q6, .ref q7, .ref q8, .ref q17, .ref q26, .null, .null, .null, .null]))) (Or.inl (by decide))
  refine M_aload_n dX4_init_95 rfl ?_
  refine M_new dX4_init_96 nw_X4_38 (by decide) (by decide) (fun q35 => ?_)
  refine M_dup dX4_init_99 rfl ?_
  refine M_callJ (As := []) dX4_init_100 ci_X4_40 ⟨by decide, by decide⟩ (n_State G b (nAt.new _ _)) rfl rfl (Nat.le_of_ble_eq_true rfl) (by decide) (fun ad35 n35 hh35 hQ => ?_)
  obtain ⟨rfl, hX1, e35, f35⟩ := hQ
  have hX2 := (Xt.push 35 _ _ q35 (.inr (2, [.null, .null, .null, .null, .null, .null, .null, .null, .int 0, .int 0, .int 0, .int 0, .int 0, .int 0, .int 0]))).tr hX1 (Nat.le_refl _)
  have h := h.x (n1 := 44) hX2 (by decide) (by decide)
  have f1 := f1.x hX2 (by decide)
  have e1 := (hX2 1 (by decide)).1.trans e1
  have f3 := f3.x hX2 (by decide)
  have e3 := (hX2 3 (by decide)).1.trans e3
  have f5 := f5.x (n1 := 44) hX2 (by decide) (by decide)
  have f6 := f6.x (n1 := 44) hX2 (by decide) (by decide)
  have f7 := f7.x (n1 := 44) hX2 (by decide) (by decide)
  have f8 := f8.x hX2 (by decide)
  have e8 := (hX2 8 (by decide)).1.trans e8
  have f17 := f17.x hX2 (by decide)
  have e17 := (hX2 17 (by decide)).1.trans e17
  have f26 := f26.x hX2 (by decide)
  have e26 := (hX2 26 (by decide)).1.trans e26
  refine M_putF dX4_init_103 ff_X4_51 rfl h rfl rfl (Nat.le_of_ble_eq_true rfl) ?_
  have h := h.up (.inr (4, [.ref q1, .ref q3, .ref q5, .ref q6, .ref q7, .ref q8, .ref q17, .ref q26, .ref q35, .null, .null, .null]))
  have f1 := f1.u (j := 0) (e := (.inr (4, [.ref q1, .ref q3, .ref q5, .ref q6, .ref q7, .ref q8, .ref q17, .ref q26, .ref q35, .null, .null, .null]))) (Or.inl (by decide))
  have f3 := f3.u (j := 0) (e := (.inr (4, [.ref q1, .ref q3, .ref q5, .ref q6, .ref q7, .ref q8, .ref q17, .ref q26, .ref q35, .null, .null, .null]))) (Or.inl (by decide))
  have f5 := f5.ne (.inr (4, [.ref q1, .ref q3, .ref q5, .ref q6, .ref q7, .ref q8, .ref q17, .ref q26, .ref q35, .null, .null, .null])) (j := 0) (by decide)
  have f6 := f6.ne (.inr (4, [.ref q1, .ref q3, .ref q5, .ref q6, .ref q7, .ref q8, .ref q17, .ref q26, .ref q35, .null, .null, .null])) (j := 0) (by decide)
  have f7 := f7.ne (.inr (4, [.ref q1, .ref q3, .ref q5, .ref q6, .ref q7, .ref q8, .ref q17, .ref q26, .ref q35, .null, .null, .null])) (j := 0) (by decide)
  have f8 := f8.u (j := 0) (e := (.inr (4, [.ref q1, .ref q3, .ref q5, .ref q6, .ref q7, .ref q8, .ref q17, .ref q26, .ref q35, .null, .null, .null]))) (Or.inl (by decide))
  have f17 := f17.u (j := 0) (e := (.inr (4, [.ref q1, .ref q3, .ref q5, .ref q6, .ref q7, .ref q8, .ref q17, .ref q26, .ref q35, .null, .null, .null]))) (Or.inl (by decide))
  have f26 := f26.u (j := 0) (e := (.inr (4, [.ref q1, .ref q3, .ref q5, .ref q6, .ref q7, .ref q8, .ref q17, .ref q26, .ref q35, .null, .null, .null]))) (Or.inl (by decide))
  have f35 := f35.u (j := 0) (e := (.inr (4, [.ref q1, .ref q3, .ref q5, .ref q6, .ref q7, .ref q8, .ref q17, .ref q26, .ref q35, .null, .null, .null]))) (Or.inl (by decide))
  refine M_aload_n dX4_init_106 rfl ?_
  refine M_new dX4_init_107 nw_X4_54 (by decide) (by decide) (fun q44 => ?_)
  refine M_dup dX4_init_110 rfl ?_
  refine M_callI (As := []) dX4_init_111 ci_X4_56 ⟨by decide, by decide⟩ (n_History G b (nAt.new _ _)) rfl rfl (Nat.le_of_ble_eq_true rfl) (by decide) (fun ad44 n44 hh44 hQ => ?_)
  obtain ⟨rfl, hX1, e44, f44⟩ := hQ
  have hX2 := (Xt.push 44 _ _ q44 (.inr (0, [.null, .int 0, .int 0]))).tr hX1 (Nat.le_refl _)
  have h := h.x (n1 := 118) hX2 (by decide) (by decide)
  have f1 := f1.x hX2 (by decide)
  have e1 := (hX2 1 (by decide)).1.trans e1
  have f3 := f3.x hX2 (by decide)
  have e3 := (hX2 3 (by decide)).1.trans e3
  have f5 := f5.x (n1 := 118) hX2 (by decide) (by decide)
  have f6 := f6.x (n1 := 118) hX2 (by decide) (by decide)
  have f7 := f7.x (n1 := 118) hX2 (by decide) (by decide)
  have f8 := f8.x hX2 (by decide)
  have e8 := (hX2 8 (by decide)).1.trans e8
  have f17 := f17.x hX2 (by decide)
  have e17 := (hX2 17 (by decide)).1.trans e17
  have f26 := f26.x hX2 (by decide)
  have e26 := (hX2 26 (by decide)).1.trans e26
  have f35 := f35.x hX2 (by decide)
  have e35 := (hX2 35 (by decide)).1.trans e35
  refine M_putF dX4_init_114 ff_X4_57 rfl h rfl rfl (Nat.le_of_ble_eq_true rfl) ?_
  have h := h.up (.inr (4, [.ref q1, .ref q3, .ref q5, .ref q6, .ref q7, .ref q8, .ref q17, .ref q26, .ref q35, .ref q44, .null, .null]))
  have f1 := f1.u (j := 0) (e := (.inr (4, [.ref q1, .ref q3, .ref q5, .ref q6, .ref q7, .ref q8, .ref q17, .ref q26, .ref q35, .ref q44, .null, .null]))) (Or.inl (by decide))
  have f3 := f3.u (j := 0) (e := (.inr (4, [.ref q1, .ref q3, .ref q5, .ref q6, .ref q7, .ref q8, .ref q17, .ref q26, .ref q35, .ref q44, .null, .null]))) (Or.inl (by decide))
  have f5 := f5.ne (.inr (4, [.ref q1, .ref q3, .ref q5, .ref q6, .ref q7, .ref q8, .ref q17, .ref q26, .ref q35, .ref q44, .null, .null])) (j := 0) (by decide)
  have f6 := f6.ne (.inr (4, [.ref q1, .ref q3, .ref q5, .ref q6, .ref q7, .ref q8, .ref q17, .ref q26, .ref q35, .ref q44, .null, .null])) (j := 0) (by decide)
  have f7 := f7.ne (.inr (4, [.ref q1, .ref q3, .ref q5, .ref q6, .ref q7, .ref q8, .ref q17, .ref q26, .ref q35, .ref q44, .null, .null])) (j := 0) (by decide)
  have f8 := f8.u (j := 0) (e := (.inr (4, [.ref q1, .ref q3, .ref q5, .ref q6, .ref q7, .ref q8, .ref q17, .ref q26, .ref q35, .ref q44, .null, .null]))) (Or.inl (by decide))
  have f17 := f17.u (j := 0) (e := (.inr (4, [.ref q1, .ref q3, .ref q5, .ref q6, .ref q7, .ref q8, .ref q17, .ref q26, .ref q35, .ref q44, .null, .null]))) (Or.inl (by decide))
  have f26 := f26.u (j := 0) (e := (.inr (4, [.ref q1, .ref q3, .ref q5, .ref q6, .ref q7, .ref q8, .ref q17, .ref q26, .ref q35, .ref q44, .null, .null]))) (Or.inl (by decide))
  have f35 := f35.u (j := 0) (e := (.inr (4, [.ref q1, .ref q3, .ref q5, .ref q6, .ref q7, .ref q8, .ref q17, .ref q26, .ref q35, .ref q44, .null, .null]))) (Or.inl (by decide))
  have f44 := f44.r (ad1 := _) (hh1 := va_up _ 0 (.inr (4, [.ref q1, .ref q3, .ref q5, .ref q6, .ref q7, .ref q8, .ref q17, .ref q26, .ref q35, .ref q44, .null, .null]))) (fun i _ _ => ⟨rfl, if_neg (by omega)⟩)
  refine M_aload_n dX4_init_117 rfl ?_
  refine M_iconst (v := nI 2) dX4_init_118 (by decide) ?_
  refine M_newqS (N := 2) dX4_init_119 aq_X4_38 (by decide) (by decide) (by decide) (fun q118 => ?_)
  have hX2 := h.xt q118 (eS G 2 (fun _ => none))
  have f118 := h.newq q118 (eS G 2 (fun _ => none))
  have h := h.x (n1 := 119) hX2 (by decide) (by decide)
  have f1 := f1.x hX2 (by decide)
  have e1 := (hX2 1 (by decide)).1.trans e1
  have f3 := f3.x hX2 (by decide)
  have e3 := (hX2 3 (by decide)).1.trans e3
  have f5 := f5.x (n1 := 119) hX2 (by decide) (by decide)
  have f6 := f6.x (n1 := 119) hX2 (by decide) (by decide)
  have f7 := f7.x (n1 := 119) hX2 (by decide) (by decide)
  have f8 := f8.x hX2 (by decide)
  have e8 := (hX2 8 (by decide)).1.trans e8
  have f17 := f17.x hX2 (by decide)
  have e17 := (hX2 17 (by decide)).1.trans e17
  have f26 := f26.x hX2 (by decide)
  have e26 := (hX2 26 (by decide)).1.trans e26
  have f35 := f35.x hX2 (by decide)
  have e35 := (hX2 35 (by decide)).1.trans e35
  have f44 := f44.r (fun i _ _ => hX2 i (by omega))
  have e44 := (hX2 44 (by decide)).1.trans e44
  refine M_putF dX4_init_122 ff_X4_61 rfl h rfl rfl (Nat.le_of_ble_eq_true rfl) ?_
  have h := h.up (.inr (4, [.ref q1, .ref q3, .ref q5, .ref q6, .ref q7, .ref q8, .ref q17, .ref q26, .ref q35, .ref q44, .ref q118, .null]))
  have f1 := f1.u (j := 0) (e := (.inr (4, [.ref q1, .ref q3, .ref q5, .ref q6, .ref q7, .ref q8, .ref q17, .ref q26, .ref q35, .ref q44, .ref q118, .null]))) (Or.inl (by decide))
  have f3 := f3.u (j := 0) (e := (.inr (4, [.ref q1, .ref q3, .ref q5, .ref q6, .ref q7, .ref q8, .ref q17, .ref q26, .ref q35, .ref q44, .ref q118, .null]))) (Or.inl (by decide))
  have f5 := f5.ne (.inr (4, [.ref q1, .ref q3, .ref q5, .ref q6, .ref q7, .ref q8, .ref q17, .ref q26, .ref q35, .ref q44, .ref q118, .null])) (j := 0) (by decide)
  have f6 := f6.ne (.inr (4, [.ref q1, .ref q3, .ref q5, .ref q6, .ref q7, .ref q8, .ref q17, .ref q26, .ref q35, .ref q44, .ref q118, .null])) (j := 0) (by decide)
  have f7 := f7.ne (.inr (4, [.ref q1, .ref q3, .ref q5, .ref q6, .ref q7, .ref q8, .ref q17, .ref q26, .ref q35, .ref q44, .ref q118, .null])) (j := 0) (by decide)
  have f8 := f8.u (j := 0) (e := (.inr (4, [.ref q1, .ref q3, .ref q5, .ref q6, .ref q7, .ref q8, .ref q17, .ref q26, .ref q35, .ref q44, .ref q118, .null]))) (Or.inl (by decide))
  have f17 := f17.u (j := 0) (e := (.inr (4, [.ref q1, .ref q3, .ref q5, .ref q6, .ref q7, .ref q8, .ref q17, .ref q26, .ref q35, .ref q44, .ref q118, .null]))) (Or.inl (by decide))
  have f26 := f26.u (j := 0) (e := (.inr (4, [.ref q1, .ref q3, .ref q5, .ref q6, .ref q7, .ref q8, .ref q17, .ref q26, .ref q35, .ref q44, .ref q118, .null]))) (Or.inl (by decide))
  have f35 := f35.u (j := 0) (e := (.inr (4, [.ref q1, .ref q3, .ref q5, .ref q6, .ref q7, .ref q8, .ref q17, .ref q26, .ref q35, .ref q44, .ref q118, .null]))) (Or.inl (by decide))
  have f44 := f44.r (ad1 := _) (hh1 := va_up _ 0 (.inr (4, [.ref q1, .ref q3, .ref q5, .ref q6, .ref q7, .ref q8, .ref q17, .ref q26, .ref q35, .ref q44, .ref q118, .null]))) (fun i _ _ => ⟨rfl, if_neg (by omega)⟩)
  have f118 := f118.ne (.inr (4, [.ref q1, .ref q3, .ref q5, .ref q6, .ref q7, .ref q8, .ref q17, .ref q26, .ref q35, .ref q44, .ref q118, .null])) (j := 0) (by decide)
  refine M_aload_n dX4_init_125 rfl ?_
  refine M_iconst (v := nI 2) dX4_init_126 (by decide) ?_
  refine M_newz (N := 2) dX4_init_127 ac_bool (by decide) (by decide) (by decide) (fun q119 => ?_)
  have hX2 := h.xt q119 (eZ G 2 (fun _ => 0))
  have f119 := h.newq q119 (eZ G 2 (fun _ => 0))
  have h := h.x (n1 := 120) hX2 (by decide) (by decide)
  have f1 := f1.x hX2 (by decide)
  have e1 := (hX2 1 (by decide)).1.trans e1
  have f3 := f3.x hX2 (by decide)
  have e3 := (hX2 3 (by decide)).1.trans e3
  have f5 := f5.x (n1 := 120) hX2 (by decide) (by decide)
  have f6 := f6.x (n1 := 120) hX2 (by decide) (by decide)
  have f7 := f7.x (n1 := 120) hX2 (by decide) (by decide)
  have f8 := f8.x hX2 (by decide)
  have e8 := (hX2 8 (by decide)).1.trans e8
  have f17 := f17.x hX2 (by decide)
  have e17 := (hX2 17 (by decide)).1.trans e17
  have f26 := f26.x hX2 (by decide)
  have e26 := (hX2 26 (by decide)).1.trans e26
  have f35 := f35.x hX2 (by decide)
  have e35 := (hX2 35 (by decide)).1.trans e35
  have f44 := f44.r (fun i _ _ => hX2 i (by omega))
  have e44 := (hX2 44 (by decide)).1.trans e44
  have f118 := f118.x (n1 := 120) hX2 (by decide) (by decide)
  refine M_putF dX4_init_129 ff_X4_65 rfl h rfl rfl (Nat.le_of_ble_eq_true rfl) ?_
  have h := h.up (.inr (4, [.ref q1, .ref q3, .ref q5, .ref q6, .ref q7, .ref q8, .ref q17, .ref q26, .ref q35, .ref q44, .ref q118, .ref q119]))
  have f1 := f1.u (j := 0) (e := (.inr (4, [.ref q1, .ref q3, .ref q5, .ref q6, .ref q7, .ref q8, .ref q17, .ref q26, .ref q35, .ref q44, .ref q118, .ref q119]))) (Or.inl (by decide))
  have f3 := f3.u (j := 0) (e := (.inr (4, [.ref q1, .ref q3, .ref q5, .ref q6, .ref q7, .ref q8, .ref q17, .ref q26, .ref q35, .ref q44, .ref q118, .ref q119]))) (Or.inl (by decide))
  have f5 := f5.ne (.inr (4, [.ref q1, .ref q3, .ref q5, .ref q6, .ref q7, .ref q8, .ref q17, .ref q26, .ref q35, .ref q44, .ref q118, .ref q119])) (j := 0) (by decide)
  have f6 := f6.ne (.inr (4, [.ref q1, .ref q3, .ref q5, .ref q6, .ref q7, .ref q8, .ref q17, .ref q26, .ref q35, .ref q44, .ref q118, .ref q119])) (j := 0) (by decide)
  have f7 := f7.ne (.inr (4, [.ref q1, .ref q3, .ref q5, .ref q6, .ref q7, .ref q8, .ref q17, .ref q26, .ref q35, .ref q44, .ref q118, .ref q119])) (j := 0) (by decide)
  have f8 := f8.u (j := 0) (e := (.inr (4, [.ref q1, .ref q3, .ref q5, .ref q6, .ref q7, .ref q8, .ref q17, .ref q26, .ref q35, .ref q44, .ref q118, .ref q119]))) (Or.inl (by decide))
  have f17 := f17.u (j := 0) (e := (.inr (4, [.ref q1, .ref q3, .ref q5, .ref q6, .ref q7, .ref q8, .ref q17, .ref q26, .ref q35, .ref q44, .ref q118, .ref q119]))) (Or.inl (by decide))
  have f26 := f26.u (j := 0) (e := (.inr (4, [.ref q1, .ref q3, .ref q5, .ref q6, .ref q7, .ref q8, .ref q17, .ref q26, .ref q35, .ref q44, .ref q118, .ref q119]))) (Or.inl (by decide))
  have f35 := f35.u (j := 0) (e := (.inr (4, [.ref q1, .ref q3, .ref q5, .ref q6, .ref q7, .ref q8, .ref q17, .ref q26, .ref q35, .ref q44, .ref q118, .ref q119]))) (Or.inl (by decide))
  have f44 := f44.r (ad1 := _) (hh1 := va_up _ 0 (.inr (4, [.ref q1, .ref q3, .ref q5, .ref q6, .ref q7, .ref q8, .ref q17, .ref q26, .ref q35, .ref q44, .ref q118, .ref q119]))) (fun i _ _ => ⟨rfl, if_neg (by omega)⟩)
  have f118 := f118.ne (.inr (4, [.ref q1, .ref q3, .ref q5, .ref q6, .ref q7, .ref q8, .ref q17, .ref q26, .ref q35, .ref q44, .ref q118, .ref q119])) (j := 0) (by decide)
  have f119 := f119.ne (.inr (4, [.ref q1, .ref q3, .ref q5, .ref q6, .ref q7, .ref q8, .ref q17, .ref q26, .ref q35, .ref q44, .ref q118, .ref q119])) (j := 0) (by decide)
  refine M_iconst (v := 0) dX4_init_132 (by decide) ?_
  refine M_istore_n dX4_init_133 (by decide) ?_
  refine M_pick [1, 0] rfl ?_
  refine s_loop G b 3 0 _ _ _ rfl h.2.1 ⟨?_, f1, f3, f6.2.2, ?_, f8, f17, f26, f35, f44, f119.2.2⟩ f118.2.2 f5.2.2 (fun j hj => absurd hj (Nat.not_lt_zero j)) (fun j hj => absurd hj (Nat.not_lt_zero j))
  · rw [e1, e3, f5.2.1, f6.2.1, f7.2.1, e8, e17, e26, e35, e44, f118.2.1, f119.2.1]
    exact h.2.2
  · rw [e1]; exact f7.2.2
