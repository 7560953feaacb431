theorem SN.r {G : GG} {ad ad1 : Nat → Nat} {hh hh1 : HH} {k : Nat} (h : SN G ad hh k) (hx : ∀ i, k ≤ i → i < k + 9 → ad1 i = ad i ∧ hh1 i = hh i) : SN G ad1 hh1 k := by
  obtain ⟨h0, h1, h2, h3, h4, h5, h6, h7, h8⟩ := h
  refine ⟨?_, (hx _ (by omega) (by omega)).2.trans h1, (hx _ (by omega) (by omega)).2.trans h2, (hx _ (by omega) (by omega)).2.trans h3, (hx _ (by omega) (by omega)).2.trans h4, (hx _ (by omega) (by omega)).2.trans h5, (hx _ (by omega) (by omega)).2.trans h6, (hx _ (by omega) (by omega)).2.trans h7, (hx _ (by omega) (by omega)).2.trans h8⟩
  rw [(hx k (by omega) (by omega)).2, h0, (hx (k + 1) (by omega) (by omega)).1, (hx (k + 2) (by omega) (by omega)).1, (hx (k + 3) (by omega) (by omega)).1, (hx (k + 4) (by omega) (by omega)).1, (hx (k + 5) (by omega) (by omega)).1, (hx (k + 6) (by omega) (by omega)).1, (hx (k + 7) (by omega) (by omega)).1, (hx (k + 8) (by omega) (by omega)).1]
theorem LN.r {G : GG} {ad ad1 : Nat → Nat} {hh hh1 : HH} {k N : Nat} (h : LN G ad hh k N) (hx : ∀ i, k ≤ i → i < k + 2 → ad1 i = ad i ∧ hh1 i = hh i) : LN G ad1 hh1 k N := ⟨by rw [(hx k (by omega) (by omega)).2, h.1, (hx (k + 1) (by omega) (by omega)).1], (hx _ (by omega) (by omega)).2.trans h.2⟩
def HN (G : GG) (ad : Nat → Nat) (hh : HH) (k : Nat) : Prop := hh k = .inr (0, [.ref (ad (k + 1)), .int 0, .int 0]) ∧ (∃ f : Nat → Option Nat, hh (k + 1) = eS G 8 f ∧ ∀ j, j < 8 → f j = some (ad (k + 2 + 9 * j))) ∧ ∀ j, j < 8 → SN G ad hh (k + 2 + 9 * j)
theorem HN.r {G : GG} {ad ad1 : Nat → Nat} {hh hh1 : HH} {k : Nat} (h : HN G ad hh k) (hx : ∀ i, k ≤ i → i < k + 74 → ad1 i = ad i ∧ hh1 i = hh i) : HN G ad1 hh1 k := by
  obtain ⟨h0, ⟨f, h1, h2⟩, h3⟩ := h
  refine ⟨by rw [(hx k (by omega) (by omega)).2, h0, (hx (k + 1) (by omega) (by omega)).1], ⟨f, (hx (k + 1) (by omega) (by omega)).2.trans h1, fun j hj => ?_⟩, fun j hj => (h3 j hj).r (fun i h1 h2 => hx i (by omega) (by omega))⟩
  rw [h2 j hj, (hx (k + 2 + 9 * j) (by omega) (by omega)).1]
theorem h_loop (G : GG) (b : Nat) {k a q1 : Nat} {ad0 : Nat → Nat} {hh0 : HH} : ∀ d i ad hh f, i + d = 8 → Xt k ad0 hh0 ad hh → nAt ad (k + 2 + 9 * i) hh k a (.inr (0, [.ref q1, .int 0, .int 0])) → nAt ad (k + 2 + 9 * i) hh (k + 1) q1 (eS G 8 f) → (∀ j, j < i → f j = some (ad (k + 2 + 9 * j))) → (∀ j, j < i → SN G ad hh (k + 2 + 9 * j)) → MR G b mX0_init 73 848 15 [(0, .ref a), (1, .int (nI i))] [] ad (k + 2 + 9 * i) hh (1 + 9 * i) (8 + 105 * i) (fun ad1 n1 hh1 => n1 = k + 74 ∧ Xt k ad0 hh0 ad1 hh1 ∧ ad1 k = a ∧ HN G ad1 hh1 k) := by
  intro d
  induction d with
  | zero =>
    intro i ad hh f hi hX h h1 hf hs
    have e8 : i = 8 := by omega
    subst e8
    refine M_iload_n dX0_init_15 rfl ?_
    refine M_bipush (v := 8) dX0_init_16 (by decide) ?_
    refine M_icmp_ge (tgt := 40) dX0_init_18 (by decide) (fun c9 => ?_) (fun c9 => absurd (by decide) c9)
    refine M_vret dX0_init_40 rfl ⟨rfl, hX, h.2.1, ?_, ⟨f, h1.2.2, hf⟩, hs⟩
    rw [h1.2.1]
    exact h.2.2
  | succ d ih =>
    intro i ad hh f hi hX h h1 hf hs
    refine M_iload_n dX0_init_15 rfl ?_
    refine M_bipush (v := 8) dX0_init_16 (by decide) ?_
    refine M_icmp_ge (tgt := 40) dX0_init_18 (by decide) (fun c9 => absurd c9 (nI_ge (b := 8) (by omega) (by decide))) (fun c9 => ?_)
    refine M_aload_n dX0_init_21 rfl ?_
    refine M_get dX0_init_22 gf_X0_11 h rfl ?_
    refine M_iload_n dX0_init_25 rfl ?_
    refine M_new dX0_init_26 nw_X0_9 (by omega) (by omega) (fun q => ?_)
    refine M_dup dX0_init_29 rfl ?_
    refine M_callJ (As := []) dX0_init_30 ci_X0_17 ⟨by decide, by decide⟩ (n_State G b (nAt.new q _)) rfl rfl (Nat.le_of_ble_eq_true rfl) (by omega) (fun ad1 n1 hh1 hQ => ?_)
    obtain ⟨rfl, hX1, ha1, hS1⟩ := hQ
    have hX2 := (Xt.push (k + 2 + 9 * i) ad hh q (.inr (2, [.null, .null, .null, .null, .null, .null, .null, .null, .int 0, .int 0, .int 0, .int 0, .int 0, .int 0, .int 0]))).tr hX1 (Nat.le_refl _)
    have h := h.x (n1 := k + 2 + 9 * i + 9) hX2 (by omega) (by omega)
    have h1 := h1.x (n1 := k + 2 + 9 * i + 9) hX2 (by omega) (by omega)
    have hS9 : nAt ad1 (k + 2 + 9 * i + 9) hh1 (k + 2 + 9 * i) q _ := ⟨by omega, ha1, hS1.1⟩
    refine M_aastS dX0_init_33 h1 hS9 (by omega) (by decide) ?_
    refine M_iinc (y := nI (i + 1)) dX0_init_34 rfl (by decide) (nI_s i) ?_
    refine M_goto (tgt := 15) dX0_init_37 (by decide) ?_
    have e : eS G 8 (va_up f i (some q)) = eS G 8 (va_up f i (some q)) := rfl
    refine M_pick [1, 0] rfl ?_
    have ih := ih (i + 1) ad1 (va_up hh1 (k + 1) (eS G 8 (va_up f i (some q)))) (va_up f i (some q)) (by omega) ((hX.tr (hX2.dn (m := k) (by omega)) (Nat.le_refl k)).up _ (by omega)) (h.ne _ (by omega)) (h1.up _) ?_ ?_
    · exact ih
    · intro j hj
      by_cases e9 : j = i
      · subst e9
        show (if j = j then some q else f j) = _
        rw [if_pos rfl, ha1]
      · show (if j = i then some q else f j) = _
        rw [if_neg e9, hf j (by omega), (hX2 (k + 2 + 9 * j) (by omega)).1]
    · intro j hj
      by_cases e9 : j = i
      · subst e9
        exact hS1.u (by omega)
      · exact ((hs j (by omega)).x hX2 (by omega)).u (by omega)
set_option maxRecDepth 4000 in
theorem n_History (G : GG) (b : Nat) {ad : Nat → Nat} {hh : HH} {k a : Nat} (h : nAt ad (k + 1) hh k a (.inr (0, [.null, .int 0, .int 0]))) : EN G b mX0_init [.ref a] ad (k + 1) hh 73 848 (fun ad1 n1 hh1 => n1 = k + 74 ∧ Xt k ad hh ad1 hh1 ∧ ad1 k = a ∧ HN G ad1 hh1 k) := by
  refine EN.of [(0, .ref a)] (by decide +kernel) (Nat.le_of_ble_eq_true rfl) rfl ?_
  refine M_aload_n dX0_init_0 rfl ?_
  refine M_objInit dX0_init_1 oi_X0 oi_m oi_c (by decide) (Nat.le_of_ble_eq_true rfl) ?_
  refine M_aload_n dX0_init_4 rfl ?_
  refine M_bipush (v := 8) dX0_init_5 (by decide) ?_
  refine M_newqS (N := 8) dX0_init_7 aq_X0_9 (by decide) (by decide) (by decide) (fun q => ?_)
  have hX := (Xt.push (k + 1) ad hh q (eS G 8 (fun _ => none))).dn (m := k) (by omega)
  have h1 := nAt.new (ad := ad) (n := k + 1) (hh := hh) q (eS G 8 (fun _ => none))
  have h := h.push q (eS G 8 (fun _ => none))
  refine M_putF dX0_init_10 ff_X0_11 rfl h rfl rfl (Nat.le_of_ble_eq_true rfl) ?_
  have hX := hX.up (.inr (0, [.ref q, .int 0, .int 0])) (Nat.le_refl k)
  have h1 := h1.ne (.inr (0, [.ref q, .int 0, .int 0])) (j := k) (by omega)
  have h := h.up (.inr (0, [.ref q, .int 0, .int 0]))
  refine M_iconst (v := 0) dX0_init_13 (by decide) ?_
  refine M_istore_n dX0_init_14 (by decide) ?_
  refine M_pick [1, 0] rfl ?_
  exact h_loop G b 8 0 _ _ _ rfl hX h h1 (fun j hj => absurd hj (Nat.not_lt_zero j)) (fun j hj => absurd hj (Nat.not_lt_zero j))
