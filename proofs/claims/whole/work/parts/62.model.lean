theorem va_up2 {α : Type} (f : Nat → α) (i : Nat) (e e' : α) : va_up (va_up f i e) i e' = va_up f i e' := by
  funext j; by_cases h : j = i
  · subst h; rw [vu_s, vu_s]
  · rw [vu_n _ _ h, vu_n _ _ h, vu_n _ _ h]
/-- a store that brings an array nearer to w -/
theorem M_iastG {G : GG} {b : Nat} {μ : MI} {rc rs pc : Nat} {lv : List (Nat × Value)} {st : List Value} {ad : Nat → Nat} {n : Nat} {hh0 : HH} {ck sk : Nat} {Q : QN} {k a N i : Nat} {f w : Nat → Int32} {x : Int32} (hd : decode μ.2.1 pc = .ok (.iastore, 1)) (hk : k < n ∧ ad k = a) (hi : i < N) (hN : N < 2 ^ 31) (hf : ∀ j, j < i → f j = w j) (hx : x = w i) (k1 : ∀ f', (∀ j, j < i + 1 → f' j = w j) → MR G b μ rc rs (pc + 1) lv st ad n (va_up hh0 k (eI G N f')) ck sk Q) : MR G b μ rc rs pc lv (.int x :: .int (nI i) :: .ref a :: st) ad n (va_up hh0 k (eI G N f)) ck sk Q := by
  refine M_iast hd (⟨hk.1, hk.2, vu_s _ _ _⟩ : nAt ad n (va_up hh0 k (eI G N f)) k a (eI G N f)) hi hN ?_
  rw [va_up2]
  refine k1 _ (fun j hj => ?_)
  by_cases e : j = i
  · subst e; subst hx; exact if_pos rfl
  · exact (if_neg e).trans (hf j (by omega))
def rw0 (j : Nat) : Int32 := if j = 0 ∨ j = 1 ∨ j = 847 ∨ j = 848 then 1 else 0
def MN (am : AA) (vm : VV) : Prop := am 0 = rw0 ∧ am 3 = (fun _ => 0) ∧ am 4 = (fun _ => 0) ∧ am 6 = (fun _ => 0) ∧ am 7 = (fun _ => 0) ∧ (∀ j, j < 3 → am 9 j = -1) ∧ (∀ j, j < 54 → am 17 j = wdA j) ∧ ∀ i, vm i = 0
def aM (s w : Nat → Int32) : AA := fun f => if f = 9 then s else if f = 17 then w else fun _ => 0
theorem an0 : anR (fun _ => 0) = fun _ => 0 := by
  funext j; unfold anR zrF upd
  split
  · rfl
  · split <;> rfl
theorem rw_0 : cpR (upd (upd (fun _ => 0) 0 1) 1 1) 0 847 77 = rw0 := by
  funext j; unfold cpR rw0
  have u : ∀ i, upd (upd (fun _ => (0 : Int32)) 0 1) 1 1 i = if i = 0 ∨ i = 1 then 1 else 0 := fun i => by
    unfold upd
    by_cases h1 : i = 1
    · subst h1; rfl
    · by_cases h0 : i = 0
      · subst h0; rfl
      · rw [if_neg h1, if_neg h0, if_neg (by omega)]
  rw [u, u]
  by_cases h : 847 ≤ j ∧ j < 847 + 77
  · rw [if_pos h]
    by_cases h2 : j = 847 ∨ j = 848
    · rw [if_pos (by omega), if_pos (by omega)]
    · rw [if_neg (by omega), if_neg (by omega)]
  · rw [if_neg h]
    by_cases h2 : j = 0 ∨ j = 1
    · rw [if_pos h2, if_pos (by omega)]
    · rw [if_neg h2, if_neg (by omega)]
theorem n_mtail (G : GG) (b : Nat) {ad : Nat → Nat} {hh : HH} {a : Nat} {s w : Nat → Int32} (hM : MdAt (gy G ad 155) hh 144 (aM s w) (fun _ => 0)) (he : ad 144 = a) (hs : ∀ j, j < 3 → s j = -1) (hw : ∀ j, j < 54 → w j = wdA j) {Q : QN} (hq : ∀ hh1 am vm, MdAt (gy G ad 155) hh1 144 am vm → MN am vm → Fr 144 155 hh hh1 → Q ad 155 hh1) : MR G b mX5_init 10 1534 401 [(0, .ref a)] [] ad 155 hh 10 1534 Q := by
  subst he
  refine M_aload_n dX5_init_401 rfl ?_
  have q1 : nAt ad 155 hh 144 (ad 144) _ := ⟨by decide, rfl, hM.1.2⟩
  refine M_callV (As := []) (rest := []) dX5_init_402 cv_X5_41 ⟨by decide, by decide⟩ (m_anew (gy G ad 155) hh hM) q1 rfl rfl rfl (Nat.le_of_ble_eq_true rfl) ⟨by decide, by decide⟩ (fun h1 hz => ?_)
  obtain ⟨hM, hF⟩ := hz
  have hM := hM.cg (a' := va_up (aM s w) 0 (fun _ => 0)) (by rw [show aM s w 0 = fun _ => 0 from rfl, an0]) (v' := fun _ => 0) (by funext i; unfold va_up; first | (split <;> first | rfl | (split <;> rfl)))
  refine M_aload_n dX5_init_405 rfl ?_
  have q1 : nAt ad 155 h1 144 (ad 144) _ := ⟨by decide, rfl, hM.1.2⟩
  refine M_get dX5_init_406 gf_X5_7 q1 rfl ?_
  refine M_iconst (v := nI 0) dX5_init_409 (by decide) ?_
  refine M_iconst (v := 1) dX5_init_410 (by decide) ?_
  have q2 : nAt ad 155 h1 145 (ad 145) (eI G 1001 (fun _ => 0)) := ⟨by decide, rfl, hM.a0.2⟩
  refine M_iast dX5_init_411 q2 (by decide) (by decide) ?_
  have hM := hM.s0 (upd (fun _ => 0) 0 1)
  have hF := hF.up (k := 145) (eI G 1001 (upd (fun _ => 0) 0 1)) (by decide) (by decide)
  refine M_aload_n dX5_init_412 rfl ?_
  have q1 : nAt ad 155 (va_up h1 145 (eI G 1001 (upd (fun _ => 0) 0 1))) 144 (ad 144) _ := ⟨by decide, rfl, hM.1.2⟩
  refine M_get dX5_init_413 gf_X5_7 q1 rfl ?_
  refine M_iconst (v := nI 1) dX5_init_416 (by decide) ?_
  refine M_iconst (v := 1) dX5_init_417 (by decide) ?_
  have q2 : nAt ad 155 (va_up h1 145 (eI G 1001 (upd (fun _ => 0) 0 1))) 145 (ad 145) (eI G 1001 (upd (fun _ => 0) 0 1)) := ⟨by decide, rfl, hM.a0.2⟩
  refine M_iast dX5_init_418 q2 (by decide) (by decide) ?_
  have hM := hM.s0 (upd (upd (fun _ => 0) 0 1) 1 1)
  have hF := hF.up (k := 145) (eI G 1001 (upd (upd (fun _ => 0) 0 1) 1 1)) (by decide) (by decide)
  refine M_aload_n dX5_init_419 rfl ?_
  refine M_iconst (v := nI 0) dX5_init_420 (by decide) ?_
  refine M_sipush (v := nI 847) dX5_init_421 (by decide) ?_
  have q1 : nAt ad 155 (va_up (va_up h1 145 (eI G 1001 (upd (fun _ => 0) 0 1))) 145 (eI G 1001 (upd (upd (fun _ => 0) 0 1) 1 1))) 144 (ad 144) _ := ⟨by decide, rfl, hM.1.2⟩
  refine M_callV (As := [.int (nI 0), .int (nI 847)]) (rest := []) dX5_init_424 cv_X5_44 ⟨by decide, by decide⟩ (m_copyRow (gy G ad 155) _ hM 0 847 (by decide) (by decide) (by decide)) q1 rfl rfl rfl (Nat.le_of_ble_eq_true rfl) ⟨by decide, by decide⟩ (fun h2 hz => ?_)
  obtain ⟨hM, hF2⟩ := hz
  refine M_vret dX5_init_427 rfl (hq _ _ _ hM ⟨?_, ?_, ?_, ?_, ?_, ?_, ?_, fun _ => rfl⟩ (hF.tr hF2 (by decide) (by decide)))
  · simp only [vu_s]; exact rw_0
  · rfl
  · rfl
  · rfl
  · rfl
  · exact hs
  · exact hw
theorem fM_q {G : GG} {ad : Nat → Nat} {q145 q146 q147 q148 q149 q150 q151 q152 q153 q154 : Nat} (h145 : ad 145 = q145) (h146 : ad 146 = q146) (h147 : ad 147 = q147) (h148 : ad 148 = q148) (h149 : ad 149 = q149) (h150 : ad 150 = q150) (h151 : ad 151 = q151) (h152 : ad 152 = q152) (h153 : ad 153 = q153) (h154 : ad 154 = q154) : (Sum.inr (5, [.ref q145, .int 0, .int 0, .ref q146, .ref q147, .int 0, .ref q148, .ref q149, .int 0, .ref q150, .ref q151, .int 0, .int 0, .int 0, .int 0, .int 0, .ref q152, .ref q153, .ref q154, .int 0]) : va_E) = Sum.inr (5, fMdAt (gy G ad 155) 144 (fun _ => 0)) := by
  subst h145 h146 h147 h148 h149 h150 h151 h152 h153 h154
  rfl
set_option maxRecDepth 8000 in
theorem n_Model (G : GG) (b : Nat) {ad : Nat → Nat} {hh : HH} {a : Nat} (h : nAt ad 145 hh 144 a (.inr (5, [.null, .int 0, .int 0, .null, .null, .int 0, .null, .null, .int 0, .null, .null, .int 0, .int 0, .int 0, .int 0, .int 0, .null, .null, .null, .int 0]))) : EN G b mX5_init [.ref a] ad 145 hh 10 1534 (fun ad1 n1 hh1 => n1 = 155 ∧ ad1 144 = a ∧ Xt 144 ad hh ad1 hh1 ∧ ∃ am vm, MdAt (gy G ad1 155) hh1 144 am vm ∧ MN am vm) := by
  refine EN.of [(0, .ref a)] (by decide +kernel) (Nat.le_of_ble_eq_true rfl) rfl ?_
  have hX : Xt 144 ad hh ad hh := Xt.rf
  refine M_aload_n dX5_init_0 rfl ?_
  refine M_objInit dX5_init_1 oi_X5 oi_m oi_c (by decide) (Nat.le_of_ble_eq_true rfl) ?_
  refine M_aload_n dX5_init_4 rfl ?_
  refine M_sipush (v := nI 1001) dX5_init_5 (by decide) ?_
  refine M_newi (N := 1001) dX5_init_8 ac_int (by decide) (by decide) (by decide) (fun q145 => ?_)
  have hX := hX.tr (h.xt q145 (eI G 1001 (fun _ => 0))) (by decide)
  have f145 := h.newq q145 (eI G 1001 (fun _ => 0))
  have h := h.push q145 (eI G 1001 (fun _ => 0))
  refine M_putF dX5_init_10 ff_X5_7 rfl h rfl rfl (Nat.le_of_ble_eq_true rfl) ?_
  have hX := hX.up (.inr (5, [.ref q145, .int 0, .int 0, .null, .null, .int 0, .null, .null, .int 0, .null, .null, .int 0, .int 0, .int 0, .int 0, .int 0, .null, .null, .null, .int 0])) (Nat.le_refl 144)
  have h := h.up (.inr (5, [.ref q145, .int 0, .int 0, .null, .null, .int 0, .null, .null, .int 0, .null, .null, .int 0, .int 0, .int 0, .int 0, .int 0, .null, .null, .null, .int 0]))
  have f145 := f145.ne (.inr (5, [.ref q145, .int 0, .int 0, .null, .null, .int 0, .null, .null, .int 0, .null, .null, .int 0, .int 0, .int 0, .int 0, .int 0, .null, .null, .null, .int 0])) (j := 144) (by decide)
  refine M_aload_n dX5_init_13 rfl ?_
  refine M_bipush (v := nI 6) dX5_init_14 (by decide) ?_
  refine M_newi (N := 6) dX5_init_16 ac_int (by decide) (by decide) (by decide) (fun q146 => ?_)
  have hX := hX.tr (h.xt q146 (eI G 6 (fun _ => 0))) (by decide)
  have f146 := h.newq q146 (eI G 6 (fun _ => 0))
  have h := h.push q146 (eI G 6 (fun _ => 0))
  have f145 := f145.push q146 (eI G 6 (fun _ => 0))
  refine M_putF dX5_init_18 ff_X5_13 rfl h rfl rfl (Nat.le_of_ble_eq_true rfl) ?_
  have hX := hX.up (.inr (5, [.ref q145, .int 0, .int 0, .ref q146, .null, .int 0, .null, .null, .int 0, .null, .null, .int 0, .int 0, .int 0, .int 0, .int 0, .null, .null, .null, .int 0])) (Nat.le_refl 144)
  have h := h.up (.inr (5, [.ref q145, .int 0, .int 0, .ref q146, .null, .int 0, .null, .null, .int 0, .null, .null, .int 0, .int 0, .int 0, .int 0, .int 0, .null, .null, .null, .int 0]))
  have f145 := f145.ne (.inr (5, [.ref q145, .int 0, .int 0, .ref q146, .null, .int 0, .null, .null, .int 0, .null, .null, .int 0, .int 0, .int 0, .int 0, .int 0, .null, .null, .null, .int 0])) (j := 144) (by decide)
  have f146 := f146.ne (.inr (5, [.ref q145, .int 0, .int 0, .ref q146, .null, .int 0, .null, .null, .int 0, .null, .null, .int 0, .int 0, .int 0, .int 0, .int 0, .null, .null, .null, .int 0])) (j := 144) (by decide)
  refine M_aload_n dX5_init_21 rfl ?_
  refine M_bipush (v := nI 6) dX5_init_22 (by decide) ?_
  refine M_newi (N := 6) dX5_init_24 ac_int (by decide) (by decide) (by decide) (fun q147 => ?_)
  have hX := hX.tr (h.xt q147 (eI G 6 (fun _ => 0))) (by decide)
  have f147 := h.newq q147 (eI G 6 (fun _ => 0))
  have h := h.push q147 (eI G 6 (fun _ => 0))
  have f145 := f145.push q147 (eI G 6 (fun _ => 0))
  have f146 := f146.push q147 (eI G 6 (fun _ => 0))
  refine M_putF dX5_init_26 ff_X5_16 rfl h rfl rfl (Nat.le_of_ble_eq_true rfl) ?_
  have hX := hX.up (.inr (5, [.ref q145, .int 0, .int 0, .ref q146, .ref q147, .int 0, .null, .null, .int 0, .null, .null, .int 0, .int 0, .int 0, .int 0, .int 0, .null, .null, .null, .int 0])) (Nat.le_refl 144)
  have h := h.up (.inr (5, [.ref q145, .int 0, .int 0, .ref q146, .ref q147, .int 0, .null, .null, .int 0, .null, .null, .int 0, .int 0, .int 0, .int 0, .int 0, .null, .null, .null, .int 0]))
  have f145 := f145.ne (.inr (5, [.ref q145, .int 0, .int 0, .ref q146, .ref q147, .int 0, .null, .null, .int 0, .null, .null, .int 0, .int 0, .int 0, .int 0, .int 0, .null, .null, .null, .int 0])) (j := 144) (by decide)
  have f146 := f146.ne (.inr (5, [.ref q145, .int 0, .int 0, .ref q146, .ref q147, .int 0, .null, .null, .int 0, .null, .null, .int 0, .int 0, .int 0, .int 0, .int 0, .null, .null, .null, .int 0])) (j := 144) (by decide)
  have f147 := f147.ne (.inr (5, [.ref q145, .int 0, .int 0, .ref q146, .ref q147, .int 0, .null, .null, .int 0, .null, .null, .int 0, .int 0, .int 0, .int 0, .int 0, .null, .null, .null, .int 0])) (j := 144) (by decide)
  refine M_aload_n dX5_init_29 rfl ?_
  refine M_iconst (v := nI 2) dX5_init_30 (by decide) ?_
  refine M_newz (N := 2) dX5_init_31 ac_bool (by decide) (by decide) (by decide) (fun q148 => ?_)
  have hX := hX.tr (h.xt q148 (eZ G 2 (fun _ => 0))) (by decide)
  have f148 := h.newq q148 (eZ G 2 (fun _ => 0))
  have h := h.push q148 (eZ G 2 (fun _ => 0))
  have f145 := f145.push q148 (eZ G 2 (fun _ => 0))
  have f146 := f146.push q148 (eZ G 2 (fun _ => 0))
  have f147 := f147.push q148 (eZ G 2 (fun _ => 0))
  refine M_putF dX5_init_33 ff_X5_19 rfl h rfl rfl (Nat.le_of_ble_eq_true rfl) ?_
  have hX := hX.up (.inr (5, [.ref q145, .int 0, .int 0, .ref q146, .ref q147, .int 0, .ref q148, .null, .int 0, .null, .null, .int 0, .int 0, .int 0, .int 0, .int 0, .null, .null, .null, .int 0])) (Nat.le_refl 144)
  have h := h.up (.inr (5, [.ref q145, .int 0, .int 0, .ref q146, .ref q147, .int 0, .ref q148, .null, .int 0, .null, .null, .int 0, .int 0, .int 0, .int 0, .int 0, .null, .null, .null, .int 0]))
  have f145 := f145.ne (.inr (5, [.ref q145, .int 0, .int 0, .ref q146, .ref q147, .int 0, .ref q148, .null, .int 0, .null, .null, .int 0, .int 0, .int 0, .int 0, .int 0, .null, .null, .null, .int 0])) (j := 144) (by decide)
  have f146 := f146.ne (.inr (5, [.ref q145, .int 0, .int 0, .ref q146, .ref q147, .int 0, .ref q148, .null, .int 0, .null, .null, .int 0, .int 0, .int 0, .int 0, .int 0, .null, .null, .null, .int 0])) (j := 144) (by decide)
  have f147 := f147.ne (.inr (5, [.ref q145, .int 0, .int 0, .ref q146, .ref q147, .int 0, .ref q148, .null, .int 0, .null, .null, .int 0, .int 0, .int 0, .int 0, .int 0, .null, .null, .null, .int 0])) (j := 144) (by decide)
  have f148 := f148.ne (.inr (5, [.ref q145, .int 0, .int 0, .ref q146, .ref q147, .int 0, .ref q148, .null, .int 0, .null, .null, .int 0, .int 0, .int 0, .int 0, .int 0, .null, .null, .null, .int 0])) (j := 144) (by decide)
  refine M_aload_n dX5_init_36 rfl ?_
  refine M_sipush (v := nI 200) dX5_init_37 (by decide) ?_
  refine M_newi (N := 200) dX5_init_40 ac_int (by decide) (by decide) (by decide) (fun q149 => ?_)
  have hX := hX.tr (h.xt q149 (eI G 200 (fun _ => 0))) (by decide)
  have f149 := h.newq q149 (eI G 200 (fun _ => 0))
  have h := h.push q149 (eI G 200 (fun _ => 0))
  have f145 := f145.push q149 (eI G 200 (fun _ => 0))
  have f146 := f146.push q149 (eI G 200 (fun _ => 0))
  have f147 := f147.push q149 (eI G 200 (fun _ => 0))
  have f148 := f148.push q149 (eI G 200 (fun _ => 0))
  refine M_putF dX5_init_42 ff_X5_23 rfl h rfl rfl (Nat.le_of_ble_eq_true rfl) ?_
  have hX := hX.up (.inr (5, [.ref q145, .int 0, .int 0, .ref q146, .ref q147, .int 0, .ref q148, .ref q149, .int 0, .null, .null, .int 0, .int 0, .int 0, .int 0, .int 0, .null, .null, .null, .int 0])) (Nat.le_refl 144)
  have h := h.up (.inr (5, [.ref q145, .int 0, .int 0, .ref q146, .ref q147, .int 0, .ref q148, .ref q149, .int 0, .null, .null, .int 0, .int 0, .int 0, .int 0, .int 0, .null, .null, .null, .int 0]))
  have f145 := f145.ne (.inr (5, [.ref q145, .int 0, .int 0, .ref q146, .ref q147, .int 0, .ref q148, .ref q149, .int 0, .null, .null, .int 0, .int 0, .int 0, .int 0, .int 0, .null, .null, .null, .int 0])) (j := 144) (by decide)
  have f146 := f146.ne (.inr (5, [.ref q145, .int 0, .int 0, .ref q146, .ref q147, .int 0, .ref q148, .ref q149, .int 0, .null, .null, .int 0, .int 0, .int 0, .int 0, .int 0, .null, .null, .null, .int 0])) (j := 144) (by decide)
  have f147 := f147.ne (.inr (5, [.ref q145, .int 0, .int 0, .ref q146, .ref q147, .int 0, .ref q148, .ref q149, .int 0, .null, .null, .int 0, .int 0, .int 0, .int 0, .int 0, .null, .null, .null, .int 0])) (j := 144) (by decide)
  have f148 := f148.ne (.inr (5, [.ref q145, .int 0, .int 0, .ref q146, .ref q147, .int 0, .ref q148, .ref q149, .int 0, .null, .null, .int 0, .int 0, .int 0, .int 0, .int 0, .null, .null, .null, .int 0])) (j := 144) (by decide)
  have f149 := f149.ne (.inr (5, [.ref q145, .int 0, .int 0, .ref q146, .ref q147, .int 0, .ref q148, .ref q149, .int 0, .null, .null, .int 0, .int 0, .int 0, .int 0, .int 0, .null, .null, .null, .int 0])) (j := 144) (by decide)
  refine M_aload_n dX5_init_45 rfl ?_
  refine M_iconst (v := nI 3) dX5_init_46 (by decide) ?_
  refine M_newi (N := 3) dX5_init_47 ac_int (by decide) (by decide) (by decide) (fun q150 => ?_)
  have hk150 := (h.newq q150 (eI G 3 (fun _ => 0))).1
  have hj150 := (h.newq q150 (eI G 3 (fun _ => 0))).2.1
  refine M_dup dX5_init_49 rfl ?_
  refine M_iconst (v := nI 0) dX5_init_50 (by decide) ?_
  refine M_iconst (v := (-1)) dX5_init_51 (by decide) ?_
  refine M_iastG (w := (fun _ => -1)) dX5_init_52 ⟨hk150, hj150⟩ (i := 0) (by decide) (by decide) (fun j hj => absurd hj (Nat.not_lt_zero j)) (by decide) (fun g150_0 w150_0 => ?_)
  refine M_dup dX5_init_53 rfl ?_
  refine M_iconst (v := nI 1) dX5_init_54 (by decide) ?_
  refine M_iconst (v := (-1)) dX5_init_55 (by decide) ?_
  refine M_iastG (w := (fun _ => -1)) dX5_init_56 ⟨hk150, hj150⟩ (i := 1) (by decide) (by decide) w150_0 (by decide) (fun g150_1 w150_1 => ?_)
  refine M_dup dX5_init_57 rfl ?_
  refine M_iconst (v := nI 2) dX5_init_58 (by decide) ?_
  refine M_iconst (v := (-1)) dX5_init_59 (by decide) ?_
  refine M_iastG (w := (fun _ => -1)) dX5_init_60 ⟨hk150, hj150⟩ (i := 2) (by decide) (by decide) w150_1 (by decide) (fun g150_2 w150_2 => ?_)
  have hX := hX.tr (h.xt q150 (eI G 3 g150_2)) (by decide)
  have f150 := h.newq q150 (eI G 3 g150_2)
  have h := h.push q150 (eI G 3 g150_2)
  have f145 := f145.push q150 (eI G 3 g150_2)
  have f146 := f146.push q150 (eI G 3 g150_2)
  have f147 := f147.push q150 (eI G 3 g150_2)
  have f148 := f148.push q150 (eI G 3 g150_2)
  have f149 := f149.push q150 (eI G 3 g150_2)
  refine M_putF dX5_init_61 ff_X5_26 rfl h rfl rfl (Nat.le_of_ble_eq_true rfl) ?_
  have hX := hX.up (.inr (5, [.ref q145, .int 0, .int 0, .ref q146, .ref q147, .int 0, .ref q148, .ref q149, .int 0, .ref q150, .null, .int 0, .int 0, .int 0, .int 0, .int 0, .null, .null, .null, .int 0])) (Nat.le_refl 144)
  have h := h.up (.inr (5, [.ref q145, .int 0, .int 0, .ref q146, .ref q147, .int 0, .ref q148, .ref q149, .int 0, .ref q150, .null, .int 0, .int 0, .int 0, .int 0, .int 0, .null, .null, .null, .int 0]))
  have f145 := f145.ne (.inr (5, [.ref q145, .int 0, .int 0, .ref q146, .ref q147, .int 0, .ref q148, .ref q149, .int 0, .ref q150, .null, .int 0, .int 0, .int 0, .int 0, .int 0, .null, .null, .null, .int 0])) (j := 144) (by decide)
  have f146 := f146.ne (.inr (5, [.ref q145, .int 0, .int 0, .ref q146, .ref q147, .int 0, .ref q148, .ref q149, .int 0, .ref q150, .null, .int 0, .int 0, .int 0, .int 0, .int 0, .null, .null, .null, .int 0])) (j := 144) (by decide)
  have f147 := f147.ne (.inr (5, [.ref q145, .int 0, .int 0, .ref q146, .ref q147, .int 0, .ref q148, .ref q149, .int 0, .ref q150, .null, .int 0, .int 0, .int 0, .int 0, .int 0, .null, .null, .null, .int 0])) (j := 144) (by decide)
  have f148 := f148.ne (.inr (5, [.ref q145, .int 0, .int 0, .ref q146, .ref q147, .int 0, .ref q148, .ref q149, .int 0, .ref q150, .null, .int 0, .int 0, .int 0, .int 0, .int 0, .null, .null, .null, .int 0])) (j := 144) (by decide)
  have f149 := f149.ne (.inr (5, [.ref q145, .int 0, .int 0, .ref q146, .ref q147, .int 0, .ref q148, .ref q149, .int 0, .ref q150, .null, .int 0, .int 0, .int 0, .int 0, .int 0, .null, .null, .null, .int 0])) (j := 144) (by decide)
  have f150 := f150.ne (.inr (5, [.ref q145, .int 0, .int 0, .ref q146, .ref q147, .int 0, .ref q148, .ref q149, .int 0, .ref q150, .null, .int 0, .int 0, .int 0, .int 0, .int 0, .null, .null, .null, .int 0])) (j := 144) (by decide)
  refine M_aload_n dX5_init_64 rfl ?_
  refine M_bipush (v := nI 120) dX5_init_65 (by decide) ?_
  refine M_newi (N := 120) dX5_init_67 ac_int (by decide) (by decide) (by decide) (fun q151 => ?_)
  have hX := hX.tr (h.xt q151 (eI G 120 (fun _ => 0))) (by decide)
  have f151 := h.newq q151 (eI G 120 (fun _ => 0))
  have h := h.push q151 (eI G 120 (fun _ => 0))
  have f145 := f145.push q151 (eI G 120 (fun _ => 0))
  have f146 := f146.push q151 (eI G 120 (fun _ => 0))
  have f147 := f147.push q151 (eI G 120 (fun _ => 0))
  have f148 := f148.push q151 (eI G 120 (fun _ => 0))
  have f149 := f149.push q151 (eI G 120 (fun _ => 0))
  have f150 := f150.push q151 (eI G 120 (fun _ => 0))
  refine M_putF dX5_init_69 ff_X5_29 rfl h rfl rfl (Nat.le_of_ble_eq_true rfl) ?_
  have hX := hX.up (.inr (5, [.ref q145, .int 0, .int 0, .ref q146, .ref q147, .int 0, .ref q148, .ref q149, .int 0, .ref q150, .ref q151, .int 0, .int 0, .int 0, .int 0, .int 0, .null, .null, .null, .int 0])) (Nat.le_refl 144)
  have h := h.up (.inr (5, [.ref q145, .int 0, .int 0, .ref q146, .ref q147, .int 0, .ref q148, .ref q149, .int 0, .ref q150, .ref q151, .int 0, .int 0, .int 0, .int 0, .int 0, .null, .null, .null, .int 0]))
  have f145 := f145.ne (.inr (5, [.ref q145, .int 0, .int 0, .ref q146, .ref q147, .int 0, .ref q148, .ref q149, .int 0, .ref q150, .ref q151, .int 0, .int 0, .int 0, .int 0, .int 0, .null, .null, .null, .int 0])) (j := 144) (by decide)
  have f146 := f146.ne (.inr (5, [.ref q145, .int 0, .int 0, .ref q146, .ref q147, .int 0, .ref q148, .ref q149, .int 0, .ref q150, .ref q151, .int 0, .int 0, .int 0, .int 0, .int 0, .null, .null, .null, .int 0])) (j := 144) (by decide)
  have f147 := f147.ne (.inr (5, [.ref q145, .int 0, .int 0, .ref q146, .ref q147, .int 0, .ref q148, .ref q149, .int 0, .ref q150, .ref q151, .int 0, .int 0, .int 0, .int 0, .int 0, .null, .null, .null, .int 0])) (j := 144) (by decide)
  have f148 := f148.ne (.inr (5, [.ref q145, .int 0, .int 0, .ref q146, .ref q147, .int 0, .ref q148, .ref q149, .int 0, .ref q150, .ref q151, .int 0, .int 0, .int 0, .int 0, .int 0, .null, .null, .null, .int 0])) (j := 144) (by decide)
  have f149 := f149.ne (.inr (5, [.ref q145, .int 0, .int 0, .ref q146, .ref q147, .int 0, .ref q148, .ref q149, .int 0, .ref q150, .ref q151, .int 0, .int 0, .int 0, .int 0, .int 0, .null, .null, .null, .int 0])) (j := 144) (by decide)
  have f150 := f150.ne (.inr (5, [.ref q145, .int 0, .int 0, .ref q146, .ref q147, .int 0, .ref q148, .ref q149, .int 0, .ref q150, .ref q151, .int 0, .int 0, .int 0, .int 0, .int 0, .null, .null, .null, .int 0])) (j := 144) (by decide)
  have f151 := f151.ne (.inr (5, [.ref q145, .int 0, .int 0, .ref q146, .ref q147, .int 0, .ref q148, .ref q149, .int 0, .ref q150, .ref q151, .int 0, .int 0, .int 0, .int 0, .int 0, .null, .null, .null, .int 0])) (j := 144) (by decide)
  refine M_aload_n dX5_init_72 rfl ?_
  refine M_iconst (v := nI 2) dX5_init_73 (by decide) ?_
  refine M_newi (N := 2) dX5_init_74 ac_int (by decide) (by decide) (by decide) (fun q152 => ?_)
  have hX := hX.tr (h.xt q152 (eI G 2 (fun _ => 0))) (by decide)
  have f152 := h.newq q152 (eI G 2 (fun _ => 0))
  have h := h.push q152 (eI G 2 (fun _ => 0))
  have f145 := f145.push q152 (eI G 2 (fun _ => 0))
  have f146 := f146.push q152 (eI G 2 (fun _ => 0))
  have f147 := f147.push q152 (eI G 2 (fun _ => 0))
  have f148 := f148.push q152 (eI G 2 (fun _ => 0))
  have f149 := f149.push q152 (eI G 2 (fun _ => 0))
  have f150 := f150.push q152 (eI G 2 (fun _ => 0))
  have f151 := f151.push q152 (eI G 2 (fun _ => 0))
  refine M_putF dX5_init_76 ff_X5_32 rfl h rfl rfl (Nat.le_of_ble_eq_true rfl) ?_
  have hX := hX.up (.inr (5, [.ref q145, .int 0, .int 0, .ref q146, .ref q147, .int 0, .ref q148, .ref q149, .int 0, .ref q150, .ref q151, .int 0, .int 0, .int 0, .int 0, .int 0, .ref q152, .null, .null, .int 0])) (Nat.le_refl 144)
  have h := h.up (.inr (5, [.ref q145, .int 0, .int 0, .ref q146, .ref q147, .int 0, .ref q148, .ref q149, .int 0, .ref q150, .ref q151, .int 0, .int 0, .int 0, .int 0, .int 0, .ref q152, .null, .null, .int 0]))
  have f145 := f145.ne (.inr (5, [.ref q145, .int 0, .int 0, .ref q146, .ref q147, .int 0, .ref q148, .ref q149, .int 0, .ref q150, .ref q151, .int 0, .int 0, .int 0, .int 0, .int 0, .ref q152, .null, .null, .int 0])) (j := 144) (by decide)
  have f146 := f146.ne (.inr (5, [.ref q145, .int 0, .int 0, .ref q146, .ref q147, .int 0, .ref q148, .ref q149, .int 0, .ref q150, .ref q151, .int 0, .int 0, .int 0, .int 0, .int 0, .ref q152, .null, .null, .int 0])) (j := 144) (by decide)
  have f147 := f147.ne (.inr (5, [.ref q145, .int 0, .int 0, .ref q146, .ref q147, .int 0, .ref q148, .ref q149, .int 0, .ref q150, .ref q151, .int 0, .int 0, .int 0, .int 0, .int 0, .ref q152, .null, .null, .int 0])) (j := 144) (by decide)
  have f148 := f148.ne (.inr (5, [.ref q145, .int 0, .int 0, .ref q146, .ref q147, .int 0, .ref q148, .ref q149, .int 0, .ref q150, .ref q151, .int 0, .int 0, .int 0, .int 0, .int 0, .ref q152, .null, .null, .int 0])) (j := 144) (by decide)
  have f149 := f149.ne (.inr (5, [.ref q145, .int 0, .int 0, .ref q146, .ref q147, .int 0, .ref q148, .ref q149, .int 0, .ref q150, .ref q151, .int 0, .int 0, .int 0, .int 0, .int 0, .ref q152, .null, .null, .int 0])) (j := 144) (by decide)
  have f150 := f150.ne (.inr (5, [.ref q145, .int 0, .int 0, .ref q146, .ref q147, .int 0, .ref q148, .ref q149, .int 0, .ref q150, .ref q151, .int 0, .int 0, .int 0, .int 0, .int 0, .ref q152, .null, .null, .int 0])) (j := 144) (by decide)
  have f151 := f151.ne (.inr (5, [.ref q145, .int 0, .int 0, .ref q146, .ref q147, .int 0, .ref q148, .ref q149, .int 0, .ref q150, .ref q151, .int 0, .int 0, .int 0, .int 0, .int 0, .ref q152, .null, .null, .int 0])) (j := 144) (by decide)
  have f152 := f152.ne (.inr (5, [.ref q145, .int 0, .int 0, .ref q146, .ref q147, .int 0, .ref q148, .ref q149, .int 0, .ref q150, .ref q151, .int 0, .int 0, .int 0, .int 0, .int 0, .ref q152, .null, .null, .int 0])) (j := 144) (by decide)
  refine M_aload_n dX5_init_79 rfl ?_
  refine M_bipush (v := nI 54) dX5_init_80 (by decide) ?_
  refine M_newi (N := 54) dX5_init_82 ac_int (by decide) (by decide) (by decide) (fun q153 => ?_)
  have hk153 := (h.newq q153 (eI G 54 (fun _ => 0))).1
  have hj153 := (h.newq q153 (eI G 54 (fun _ => 0))).2.1
  refine M_dup dX5_init_84 rfl ?_
  refine M_iconst (v := nI 0) dX5_init_85 (by decide) ?_
  refine M_bipush (v := 112) dX5_init_86 (by decide) ?_
  refine M_iastG (w := wdA) dX5_init_88 ⟨hk153, hj153⟩ (i := 0) (by decide) (by decide) (fun j hj => absurd hj (Nat.not_lt_zero j)) (by decide) (fun g153_0 w153_0 => ?_)
  refine M_dup dX5_init_89 rfl ?_
  refine M_iconst (v := nI 1) dX5_init_90 (by decide) ?_
  refine M_bipush (v := 108) dX5_init_91 (by decide) ?_
  refine M_iastG (w := wdA) dX5_init_93 ⟨hk153, hj153⟩ (i := 1) (by decide) (by decide) w153_0 (by decide) (fun g153_1 w153_1 => ?_)
  refine M_dup dX5_init_94 rfl ?_
  refine M_iconst (v := nI 2) dX5_init_95 (by decide) ?_
  refine M_bipush (v := 97) dX5_init_96 (by decide) ?_
  refine M_iastG (w := wdA) dX5_init_98 ⟨hk153, hj153⟩ (i := 2) (by decide) (by decide) w153_1 (by decide) (fun g153_2 w153_2 => ?_)
  refine M_dup dX5_init_99 rfl ?_
  refine M_iconst (v := nI 3) dX5_init_100 (by decide) ?_
  refine M_bipush (v := 105) dX5_init_101 (by decide) ?_
  refine M_iastG (w := wdA) dX5_init_103 ⟨hk153, hj153⟩ (i := 3) (by decide) (by decide) w153_2 (by decide) (fun g153_3 w153_3 => ?_)
  refine M_dup dX5_init_104 rfl ?_
  refine M_iconst (v := nI 4) dX5_init_105 (by decide) ?_
  refine M_bipush (v := 110) dX5_init_106 (by decide) ?_
  refine M_iastG (w := wdA) dX5_init_108 ⟨hk153, hj153⟩ (i := 4) (by decide) (by decide) w153_3 (by decide) (fun g153_4 w153_4 => ?_)
  refine M_dup dX5_init_109 rfl ?_
  refine M_iconst (v := nI 5) dX5_init_110 (by decide) ?_
  refine M_iconst (v := 0) dX5_init_111 (by decide) ?_
  refine M_iastG (w := wdA) dX5_init_112 ⟨hk153, hj153⟩ (i := 5) (by decide) (by decide) w153_4 (by decide) (fun g153_5 w153_5 => ?_)
  refine M_dup dX5_init_113 rfl ?_
  refine M_bipush (v := nI 6) dX5_init_114 (by decide) ?_
  refine M_bipush (v := 118) dX5_init_116 (by decide) ?_
  refine M_iastG (w := wdA) dX5_init_118 ⟨hk153, hj153⟩ (i := 6) (by decide) (by decide) w153_5 (by decide) (fun g153_6 w153_6 => ?_)
  refine M_dup dX5_init_119 rfl ?_
  refine M_bipush (v := nI 7) dX5_init_120 (by decide) ?_
  refine M_bipush (v := 101) dX5_init_122 (by decide) ?_
  refine M_iastG (w := wdA) dX5_init_124 ⟨hk153, hj153⟩ (i := 7) (by decide) (by decide) w153_6 (by decide) (fun g153_7 w153_7 => ?_)
  refine M_dup dX5_init_125 rfl ?_
  refine M_bipush (v := nI 8) dX5_init_126 (by decide) ?_
  refine M_bipush (v := 114) dX5_init_128 (by decide) ?_
  refine M_iastG (w := wdA) dX5_init_130 ⟨hk153, hj153⟩ (i := 8) (by decide) (by decide) w153_7 (by decide) (fun g153_8 w153_8 => ?_)
  refine M_dup dX5_init_131 rfl ?_
  refine M_bipush (v := nI 9) dX5_init_132 (by decide) ?_
  refine M_bipush (v := 115) dX5_init_134 (by decide) ?_
  refine M_iastG (w := wdA) dX5_init_136 ⟨hk153, hj153⟩ (i := 9) (by decide) (by decide) w153_8 (by decide) (fun g153_9 w153_9 => ?_)
  refine M_dup dX5_init_137 rfl ?_
  refine M_bipush (v := nI 10) dX5_init_138 (by decide) ?_
  refine M_bipush (v := 101) dX5_init_140 (by decide) ?_
  refine M_iastG (w := wdA) dX5_init_142 ⟨hk153, hj153⟩ (i := 10) (by decide) (by decide) w153_9 (by decide) (fun g153_10 w153_10 => ?_)
  refine M_dup dX5_init_143 rfl ?_
  refine M_bipush (v := nI 11) dX5_init_144 (by decide) ?_
  refine M_bipush (v := 100) dX5_init_146 (by decide) ?_
  refine M_iastG (w := wdA) dX5_init_148 ⟨hk153, hj153⟩ (i := 11) (by decide) (by decide) w153_10 (by decide) (fun g153_11 w153_11 => ?_)
  refine M_dup dX5_init_149 rfl ?_
  refine M_bipush (v := nI 12) dX5_init_150 (by decide) ?_
  refine M_bipush (v := 111) dX5_init_152 (by decide) ?_
  refine M_iastG (w := wdA) dX5_init_154 ⟨hk153, hj153⟩ (i := 12) (by decide) (by decide) w153_11 (by decide) (fun g153_12 w153_12 => ?_)
  refine M_dup dX5_init_155 rfl ?_
  refine M_bipush (v := nI 13) dX5_init_156 (by decide) ?_
  refine M_bipush (v := 119) dX5_init_158 (by decide) ?_
  refine M_iastG (w := wdA) dX5_init_160 ⟨hk153, hj153⟩ (i := 13) (by decide) (by decide) w153_12 (by decide) (fun g153_13 w153_13 => ?_)
  refine M_dup dX5_init_161 rfl ?_
  refine M_bipush (v := nI 14) dX5_init_162 (by decide) ?_
  refine M_bipush (v := 105) dX5_init_164 (by decide) ?_
  refine M_iastG (w := wdA) dX5_init_166 ⟨hk153, hj153⟩ (i := 14) (by decide) (by decide) w153_13 (by decide) (fun g153_14 w153_14 => ?_)
  refine M_dup dX5_init_167 rfl ?_
  refine M_bipush (v := nI 15) dX5_init_168 (by decide) ?_
  refine M_bipush (v := 110) dX5_init_170 (by decide) ?_
  refine M_iastG (w := wdA) dX5_init_172 ⟨hk153, hj153⟩ (i := 15) (by decide) (by decide) w153_14 (by decide) (fun g153_15 w153_15 => ?_)
  refine M_dup dX5_init_173 rfl ?_
  refine M_bipush (v := nI 16) dX5_init_174 (by decide) ?_
  refine M_bipush (v := 103) dX5_init_176 (by decide) ?_
  refine M_iastG (w := wdA) dX5_init_178 ⟨hk153, hj153⟩ (i := 16) (by decide) (by decide) w153_15 (by decide) (fun g153_16 w153_16 => ?_)
  refine M_dup dX5_init_179 rfl ?_
  refine M_bipush (v := nI 17) dX5_init_180 (by decide) ?_
  refine M_iconst (v := 0) dX5_init_182 (by decide) ?_
  refine M_iastG (w := wdA) dX5_init_183 ⟨hk153, hj153⟩ (i := 17) (by decide) (by decide) w153_16 (by decide) (fun g153_17 w153_17 => ?_)
  refine M_dup dX5_init_184 rfl ?_
  refine M_bipush (v := nI 18) dX5_init_185 (by decide) ?_
  refine M_bipush (v := 98) dX5_init_187 (by decide) ?_
  refine M_iastG (w := wdA) dX5_init_189 ⟨hk153, hj153⟩ (i := 18) (by decide) (by decide) w153_17 (by decide) (fun g153_18 w153_18 => ?_)
  refine M_dup dX5_init_190 rfl ?_
  refine M_bipush (v := nI 19) dX5_init_191 (by decide) ?_
  refine M_bipush (v := 111) dX5_init_193 (by decide) ?_
  refine M_iastG (w := wdA) dX5_init_195 ⟨hk153, hj153⟩ (i := 19) (by decide) (by decide) w153_18 (by decide) (fun g153_19 w153_19 => ?_)
  refine M_dup dX5_init_196 rfl ?_
  refine M_bipush (v := nI 20) dX5_init_197 (by decide) ?_
  refine M_bipush (v := 116) dX5_init_199 (by decide) ?_
  refine M_iastG (w := wdA) dX5_init_201 ⟨hk153, hj153⟩ (i := 20) (by decide) (by decide) w153_19 (by decide) (fun g153_20 w153_20 => ?_)
  refine M_dup dX5_init_202 rfl ?_
  refine M_bipush (v := nI 21) dX5_init_203 (by decide) ?_
  refine M_bipush (v := 104) dX5_init_205 (by decide) ?_
  refine M_iastG (w := wdA) dX5_init_207 ⟨hk153, hj153⟩ (i := 21) (by decide) (by decide) w153_20 (by decide) (fun g153_21 w153_21 => ?_)
  refine M_dup dX5_init_208 rfl ?_
  refine M_bipush (v := nI 22) dX5_init_209 (by decide) ?_
  refine M_iconst (v := 0) dX5_init_211 (by decide) ?_
  refine M_iastG (w := wdA) dX5_init_212 ⟨hk153, hj153⟩ (i := 22) (by decide) (by decide) w153_21 (by decide) (fun g153_22 w153_22 => ?_)
  refine M_dup dX5_init_213 rfl ?_
  refine M_bipush (v := nI 23) dX5_init_214 (by decide) ?_
  refine M_iconst (v := 0) dX5_init_216 (by decide) ?_
  refine M_iastG (w := wdA) dX5_init_217 ⟨hk153, hj153⟩ (i := 23) (by decide) (by decide) w153_22 (by decide) (fun g153_23 w153_23 => ?_)
  refine M_dup dX5_init_218 rfl ?_
  refine M_bipush (v := nI 24) dX5_init_219 (by decide) ?_
  refine M_bipush (v := 119) dX5_init_221 (by decide) ?_
  refine M_iastG (w := wdA) dX5_init_223 ⟨hk153, hj153⟩ (i := 24) (by decide) (by decide) w153_23 (by decide) (fun g153_24 w153_24 => ?_)
  refine M_dup dX5_init_224 rfl ?_
  refine M_bipush (v := nI 25) dX5_init_225 (by decide) ?_
  refine M_bipush (v := 104) dX5_init_227 (by decide) ?_
  refine M_iastG (w := wdA) dX5_init_229 ⟨hk153, hj153⟩ (i := 25) (by decide) (by decide) w153_24 (by decide) (fun g153_25 w153_25 => ?_)
  refine M_dup dX5_init_230 rfl ?_
  refine M_bipush (v := nI 26) dX5_init_231 (by decide) ?_
  refine M_bipush (v := 101) dX5_init_233 (by decide) ?_
  refine M_iastG (w := wdA) dX5_init_235 ⟨hk153, hj153⟩ (i := 26) (by decide) (by decide) w153_25 (by decide) (fun g153_26 w153_26 => ?_)
  refine M_dup dX5_init_236 rfl ?_
  refine M_bipush (v := nI 27) dX5_init_237 (by decide) ?_
  refine M_bipush (v := 101) dX5_init_239 (by decide) ?_
  refine M_iastG (w := wdA) dX5_init_241 ⟨hk153, hj153⟩ (i := 27) (by decide) (by decide) w153_26 (by decide) (fun g153_27 w153_27 => ?_)
  refine M_dup dX5_init_242 rfl ?_
  refine M_bipush (v := nI 28) dX5_init_243 (by decide) ?_
  refine M_bipush (v := 108) dX5_init_245 (by decide) ?_
  refine M_iastG (w := wdA) dX5_init_247 ⟨hk153, hj153⟩ (i := 28) (by decide) (by decide) w153_27 (by decide) (fun g153_28 w153_28 => ?_)
  refine M_dup dX5_init_248 rfl ?_
  refine M_bipush (v := nI 29) dX5_init_249 (by decide) ?_
  refine M_iconst (v := 0) dX5_init_251 (by decide) ?_
  refine M_iastG (w := wdA) dX5_init_252 ⟨hk153, hj153⟩ (i := 29) (by decide) (by decide) w153_28 (by decide) (fun g153_29 w153_29 => ?_)
  refine M_dup dX5_init_253 rfl ?_
  refine M_bipush (v := nI 30) dX5_init_254 (by decide) ?_
  refine M_bipush (v := 106) dX5_init_256 (by decide) ?_
  refine M_iastG (w := wdA) dX5_init_258 ⟨hk153, hj153⟩ (i := 30) (by decide) (by decide) w153_29 (by decide) (fun g153_30 w153_30 => ?_)
  refine M_dup dX5_init_259 rfl ?_
  refine M_bipush (v := nI 31) dX5_init_260 (by decide) ?_
  refine M_bipush (v := 117) dX5_init_262 (by decide) ?_
  refine M_iastG (w := wdA) dX5_init_264 ⟨hk153, hj153⟩ (i := 31) (by decide) (by decide) w153_30 (by decide) (fun g153_31 w153_31 => ?_)
  refine M_dup dX5_init_265 rfl ?_
  refine M_bipush (v := nI 32) dX5_init_266 (by decide) ?_
  refine M_bipush (v := 100) dX5_init_268 (by decide) ?_
  refine M_iastG (w := wdA) dX5_init_270 ⟨hk153, hj153⟩ (i := 32) (by decide) (by decide) w153_31 (by decide) (fun g153_32 w153_32 => ?_)
  refine M_dup dX5_init_271 rfl ?_
  refine M_bipush (v := nI 33) dX5_init_272 (by decide) ?_
  refine M_bipush (v := 103) dX5_init_274 (by decide) ?_
  refine M_iastG (w := wdA) dX5_init_276 ⟨hk153, hj153⟩ (i := 33) (by decide) (by decide) w153_32 (by decide) (fun g153_33 w153_33 => ?_)
  refine M_dup dX5_init_277 rfl ?_
  refine M_bipush (v := nI 34) dX5_init_278 (by decide) ?_
  refine M_bipush (v := 101) dX5_init_280 (by decide) ?_
  refine M_iastG (w := wdA) dX5_init_282 ⟨hk153, hj153⟩ (i := 34) (by decide) (by decide) w153_33 (by decide) (fun g153_34 w153_34 => ?_)
  refine M_dup dX5_init_283 rfl ?_
  refine M_bipush (v := nI 35) dX5_init_284 (by decide) ?_
  refine M_iconst (v := 0) dX5_init_286 (by decide) ?_
  refine M_iastG (w := wdA) dX5_init_287 ⟨hk153, hj153⟩ (i := 35) (by decide) (by decide) w153_34 (by decide) (fun g153_35 w153_35 => ?_)
  refine M_dup dX5_init_288 rfl ?_
  refine M_bipush (v := nI 36) dX5_init_289 (by decide) ?_
  refine M_bipush (v := 98) dX5_init_291 (by decide) ?_
  refine M_iastG (w := wdA) dX5_init_293 ⟨hk153, hj153⟩ (i := 36) (by decide) (by decide) w153_35 (by decide) (fun g153_36 w153_36 => ?_)
  refine M_dup dX5_init_294 rfl ?_
  refine M_bipush (v := nI 37) dX5_init_295 (by decide) ?_
  refine M_bipush (v := 97) dX5_init_297 (by decide) ?_
  refine M_iastG (w := wdA) dX5_init_299 ⟨hk153, hj153⟩ (i := 37) (by decide) (by decide) w153_36 (by decide) (fun g153_37 w153_37 => ?_)
  refine M_dup dX5_init_300 rfl ?_
  refine M_bipush (v := nI 38) dX5_init_301 (by decide) ?_
  refine M_bipush (v := 114) dX5_init_303 (by decide) ?_
  refine M_iastG (w := wdA) dX5_init_305 ⟨hk153, hj153⟩ (i := 38) (by decide) (by decide) w153_37 (by decide) (fun g153_38 w153_38 => ?_)
  refine M_dup dX5_init_306 rfl ?_
  refine M_bipush (v := nI 39) dX5_init_307 (by decide) ?_
  refine M_iconst (v := 0) dX5_init_309 (by decide) ?_
  refine M_iastG (w := wdA) dX5_init_310 ⟨hk153, hj153⟩ (i := 39) (by decide) (by decide) w153_38 (by decide) (fun g153_39 w153_39 => ?_)
  refine M_dup dX5_init_311 rfl ?_
  refine M_bipush (v := nI 40) dX5_init_312 (by decide) ?_
  refine M_iconst (v := 0) dX5_init_314 (by decide) ?_
  refine M_iastG (w := wdA) dX5_init_315 ⟨hk153, hj153⟩ (i := 40) (by decide) (by decide) w153_39 (by decide) (fun g153_40 w153_40 => ?_)
  refine M_dup dX5_init_316 rfl ?_
  refine M_bipush (v := nI 41) dX5_init_317 (by decide) ?_
  refine M_iconst (v := 0) dX5_init_319 (by decide) ?_
  refine M_iastG (w := wdA) dX5_init_320 ⟨hk153, hj153⟩ (i := 41) (by decide) (by decide) w153_40 (by decide) (fun g153_41 w153_41 => ?_)
  refine M_dup dX5_init_321 rfl ?_
  refine M_bipush (v := nI 42) dX5_init_322 (by decide) ?_
  refine M_bipush (v := 97) dX5_init_324 (by decide) ?_
  refine M_iastG (w := wdA) dX5_init_326 ⟨hk153, hj153⟩ (i := 42) (by decide) (by decide) w153_41 (by decide) (fun g153_42 w153_42 => ?_)
  refine M_dup dX5_init_327 rfl ?_
  refine M_bipush (v := nI 43) dX5_init_328 (by decide) ?_
  refine M_bipush (v := 119) dX5_init_330 (by decide) ?_
  refine M_iastG (w := wdA) dX5_init_332 ⟨hk153, hj153⟩ (i := 43) (by decide) (by decide) w153_42 (by decide) (fun g153_43 w153_43 => ?_)
  refine M_dup dX5_init_333 rfl ?_
  refine M_bipush (v := nI 44) dX5_init_334 (by decide) ?_
  refine M_bipush (v := 97) dX5_init_336 (by decide) ?_
  refine M_iastG (w := wdA) dX5_init_338 ⟨hk153, hj153⟩ (i := 44) (by decide) (by decide) w153_43 (by decide) (fun g153_44 w153_44 => ?_)
  refine M_dup dX5_init_339 rfl ?_
  refine M_bipush (v := nI 45) dX5_init_340 (by decide) ?_
  refine M_bipush (v := 121) dX5_init_342 (by decide) ?_
  refine M_iastG (w := wdA) dX5_init_344 ⟨hk153, hj153⟩ (i := 45) (by decide) (by decide) w153_44 (by decide) (fun g153_45 w153_45 => ?_)
  refine M_dup dX5_init_345 rfl ?_
  refine M_bipush (v := nI 46) dX5_init_346 (by decide) ?_
  refine M_iconst (v := 0) dX5_init_348 (by decide) ?_
  refine M_iastG (w := wdA) dX5_init_349 ⟨hk153, hj153⟩ (i := 46) (by decide) (by decide) w153_45 (by decide) (fun g153_46 w153_46 => ?_)
  refine M_dup dX5_init_350 rfl ?_
  refine M_bipush (v := nI 47) dX5_init_351 (by decide) ?_
  refine M_iconst (v := 0) dX5_init_353 (by decide) ?_
  refine M_iastG (w := wdA) dX5_init_354 ⟨hk153, hj153⟩ (i := 47) (by decide) (by decide) w153_46 (by decide) (fun g153_47 w153_47 => ?_)
  refine M_dup dX5_init_355 rfl ?_
  refine M_bipush (v := nI 48) dX5_init_356 (by decide) ?_
  refine M_bipush (v := 114) dX5_init_358 (by decide) ?_
  refine M_iastG (w := wdA) dX5_init_360 ⟨hk153, hj153⟩ (i := 48) (by decide) (by decide) w153_47 (by decide) (fun g153_48 w153_48 => ?_)
  refine M_dup dX5_init_361 rfl ?_
  refine M_bipush (v := nI 49) dX5_init_362 (by decide) ?_
  refine M_bipush (v := 117) dX5_init_364 (by decide) ?_
  refine M_iastG (w := wdA) dX5_init_366 ⟨hk153, hj153⟩ (i := 49) (by decide) (by decide) w153_48 (by decide) (fun g153_49 w153_49 => ?_)
  refine M_dup dX5_init_367 rfl ?_
  refine M_bipush (v := nI 50) dX5_init_368 (by decide) ?_
  refine M_bipush (v := 108) dX5_init_370 (by decide) ?_
  refine M_iastG (w := wdA) dX5_init_372 ⟨hk153, hj153⟩ (i := 50) (by decide) (by decide) w153_49 (by decide) (fun g153_50 w153_50 => ?_)
  refine M_dup dX5_init_373 rfl ?_
  refine M_bipush (v := nI 51) dX5_init_374 (by decide) ?_
  refine M_bipush (v := 101) dX5_init_376 (by decide) ?_
  refine M_iastG (w := wdA) dX5_init_378 ⟨hk153, hj153⟩ (i := 51) (by decide) (by decide) w153_50 (by decide) (fun g153_51 w153_51 => ?_)
  refine M_dup dX5_init_379 rfl ?_
  refine M_bipush (v := nI 52) dX5_init_380 (by decide) ?_
  refine M_iconst (v := 0) dX5_init_382 (by decide) ?_
  refine M_iastG (w := wdA) dX5_init_383 ⟨hk153, hj153⟩ (i := 52) (by decide) (by decide) w153_51 (by decide) (fun g153_52 w153_52 => ?_)
  refine M_dup dX5_init_384 rfl ?_
  refine M_bipush (v := nI 53) dX5_init_385 (by decide) ?_
  refine M_iconst (v := 0) dX5_init_387 (by decide) ?_
  refine M_iastG (w := wdA) dX5_init_388 ⟨hk153, hj153⟩ (i := 53) (by decide) (by decide) w153_52 (by decide) (fun g153_53 w153_53 => ?_)
  have hX := hX.tr (h.xt q153 (eI G 54 g153_53)) (by decide)
  have f153 := h.newq q153 (eI G 54 g153_53)
  have h := h.push q153 (eI G 54 g153_53)
  have f145 := f145.push q153 (eI G 54 g153_53)
  have f146 := f146.push q153 (eI G 54 g153_53)
  have f147 := f147.push q153 (eI G 54 g153_53)
  have f148 := f148.push q153 (eI G 54 g153_53)
  have f149 := f149.push q153 (eI G 54 g153_53)
  have f150 := f150.push q153 (eI G 54 g153_53)
  have f151 := f151.push q153 (eI G 54 g153_53)
  have f152 := f152.push q153 (eI G 54 g153_53)
  refine M_putF dX5_init_389 ff_X5_35 rfl h rfl rfl (Nat.le_of_ble_eq_true rfl) ?_
  have hX := hX.up (.inr (5, [.ref q145, .int 0, .int 0, .ref q146, .ref q147, .int 0, .ref q148, .ref q149, .int 0, .ref q150, .ref q151, .int 0, .int 0, .int 0, .int 0, .int 0, .ref q152, .ref q153, .null, .int 0])) (Nat.le_refl 144)
  have h := h.up (.inr (5, [.ref q145, .int 0, .int 0, .ref q146, .ref q147, .int 0, .ref q148, .ref q149, .int 0, .ref q150, .ref q151, .int 0, .int 0, .int 0, .int 0, .int 0, .ref q152, .ref q153, .null, .int 0]))
  have f145 := f145.ne (.inr (5, [.ref q145, .int 0, .int 0, .ref q146, .ref q147, .int 0, .ref q148, .ref q149, .int 0, .ref q150, .ref q151, .int 0, .int 0, .int 0, .int 0, .int 0, .ref q152, .ref q153, .null, .int 0])) (j := 144) (by decide)
  have f146 := f146.ne (.inr (5, [.ref q145, .int 0, .int 0, .ref q146, .ref q147, .int 0, .ref q148, .ref q149, .int 0, .ref q150, .ref q151, .int 0, .int 0, .int 0, .int 0, .int 0, .ref q152, .ref q153, .null, .int 0])) (j := 144) (by decide)
  have f147 := f147.ne (.inr (5, [.ref q145, .int 0, .int 0, .ref q146, .ref q147, .int 0, .ref q148, .ref q149, .int 0, .ref q150, .ref q151, .int 0, .int 0, .int 0, .int 0, .int 0, .ref q152, .ref q153, .null, .int 0])) (j := 144) (by decide)
  have f148 := f148.ne (.inr (5, [.ref q145, .int 0, .int 0, .ref q146, .ref q147, .int 0, .ref q148, .ref q149, .int 0, .ref q150, .ref q151, .int 0, .int 0, .int 0, .int 0, .int 0, .ref q152, .ref q153, .null, .int 0])) (j := 144) (by decide)
  have f149 := f149.ne (.inr (5, [.ref q145, .int 0, .int 0, .ref q146, .ref q147, .int 0, .ref q148, .ref q149, .int 0, .ref q150, .ref q151, .int 0, .int 0, .int 0, .int 0, .int 0, .ref q152, .ref q153, .null, .int 0])) (j := 144) (by decide)
  have f150 := f150.ne (.inr (5, [.ref q145, .int 0, .int 0, .ref q146, .ref q147, .int 0, .ref q148, .ref q149, .int 0, .ref q150, .ref q151, .int 0, .int 0, .int 0, .int 0, .int 0, .ref q152, .ref q153, .null, .int 0])) (j := 144) (by decide)
  have f151 := f151.ne (.inr (5, [.ref q145, .int 0, .int 0, .ref q146, .ref q147, .int 0, .ref q148, .ref q149, .int 0, .ref q150, .ref q151, .int 0, .int 0, .int 0, .int 0, .int 0, .ref q152, .ref q153, .null, .int 0])) (j := 144) (by decide)
  have f152 := f152.ne (.inr (5, [.ref q145, .int 0, .int 0, .ref q146, .ref q147, .int 0, .ref q148, .ref q149, .int 0, .ref q150, .ref q151, .int 0, .int 0, .int 0, .int 0, .int 0, .ref q152, .ref q153, .null, .int 0])) (j := 144) (by decide)
  have f153 := f153.ne (.inr (5, [.ref q145, .int 0, .int 0, .ref q146, .ref q147, .int 0, .ref q148, .ref q149, .int 0, .ref q150, .ref q151, .int 0, .int 0, .int 0, .int 0, .int 0, .ref q152, .ref q153, .null, .int 0])) (j := 144) (by decide)
  refine M_aload_n dX5_init_392 rfl ?_
  refine M_sipush (v := nI 140) dX5_init_393 (by decide) ?_
  refine M_newi (N := 140) dX5_init_396 ac_int (by decide) (by decide) (by decide) (fun q154 => ?_)
  have hX := hX.tr (h.xt q154 (eI G 140 (fun _ => 0))) (by decide)
  have f154 := h.newq q154 (eI G 140 (fun _ => 0))
  have h := h.push q154 (eI G 140 (fun _ => 0))
  have f145 := f145.push q154 (eI G 140 (fun _ => 0))
  have f146 := f146.push q154 (eI G 140 (fun _ => 0))
  have f147 := f147.push q154 (eI G 140 (fun _ => 0))
  have f148 := f148.push q154 (eI G 140 (fun _ => 0))
  have f149 := f149.push q154 (eI G 140 (fun _ => 0))
  have f150 := f150.push q154 (eI G 140 (fun _ => 0))
  have f151 := f151.push q154 (eI G 140 (fun _ => 0))
  have f152 := f152.push q154 (eI G 140 (fun _ => 0))
  have f153 := f153.push q154 (eI G 140 (fun _ => 0))
  refine M_putF dX5_init_398 ff_X5_38 rfl h rfl rfl (Nat.le_of_ble_eq_true rfl) ?_
  have hX := hX.up (.inr (5, [.ref q145, .int 0, .int 0, .ref q146, .ref q147, .int 0, .ref q148, .ref q149, .int 0, .ref q150, .ref q151, .int 0, .int 0, .int 0, .int 0, .int 0, .ref q152, .ref q153, .ref q154, .int 0])) (Nat.le_refl 144)
  have h := h.up (.inr (5, [.ref q145, .int 0, .int 0, .ref q146, .ref q147, .int 0, .ref q148, .ref q149, .int 0, .ref q150, .ref q151, .int 0, .int 0, .int 0, .int 0, .int 0, .ref q152, .ref q153, .ref q154, .int 0]))
  have f145 := f145.ne (.inr (5, [.ref q145, .int 0, .int 0, .ref q146, .ref q147, .int 0, .ref q148, .ref q149, .int 0, .ref q150, .ref q151, .int 0, .int 0, .int 0, .int 0, .int 0, .ref q152, .ref q153, .ref q154, .int 0])) (j := 144) (by decide)
  have f146 := f146.ne (.inr (5, [.ref q145, .int 0, .int 0, .ref q146, .ref q147, .int 0, .ref q148, .ref q149, .int 0, .ref q150, .ref q151, .int 0, .int 0, .int 0, .int 0, .int 0, .ref q152, .ref q153, .ref q154, .int 0])) (j := 144) (by decide)
  have f147 := f147.ne (.inr (5, [.ref q145, .int 0, .int 0, .ref q146, .ref q147, .int 0, .ref q148, .ref q149, .int 0, .ref q150, .ref q151, .int 0, .int 0, .int 0, .int 0, .int 0, .ref q152, .ref q153, .ref q154, .int 0])) (j := 144) (by decide)
  have f148 := f148.ne (.inr (5, [.ref q145, .int 0, .int 0, .ref q146, .ref q147, .int 0, .ref q148, .ref q149, .int 0, .ref q150, .ref q151, .int 0, .int 0, .int 0, .int 0, .int 0, .ref q152, .ref q153, .ref q154, .int 0])) (j := 144) (by decide)
  have f149 := f149.ne (.inr (5, [.ref q145, .int 0, .int 0, .ref q146, .ref q147, .int 0, .ref q148, .ref q149, .int 0, .ref q150, .ref q151, .int 0, .int 0, .int 0, .int 0, .int 0, .ref q152, .ref q153, .ref q154, .int 0])) (j := 144) (by decide)
  have f150 := f150.ne (.inr (5, [.ref q145, .int 0, .int 0, .ref q146, .ref q147, .int 0, .ref q148, .ref q149, .int 0, .ref q150, .ref q151, .int 0, .int 0, .int 0, .int 0, .int 0, .ref q152, .ref q153, .ref q154, .int 0])) (j := 144) (by decide)
  have f151 := f151.ne (.inr (5, [.ref q145, .int 0, .int 0, .ref q146, .ref q147, .int 0, .ref q148, .ref q149, .int 0, .ref q150, .ref q151, .int 0, .int 0, .int 0, .int 0, .int 0, .ref q152, .ref q153, .ref q154, .int 0])) (j := 144) (by decide)
  have f152 := f152.ne (.inr (5, [.ref q145, .int 0, .int 0, .ref q146, .ref q147, .int 0, .ref q148, .ref q149, .int 0, .ref q150, .ref q151, .int 0, .int 0, .int 0, .int 0, .int 0, .ref q152, .ref q153, .ref q154, .int 0])) (j := 144) (by decide)
  have f153 := f153.ne (.inr (5, [.ref q145, .int 0, .int 0, .ref q146, .ref q147, .int 0, .ref q148, .ref q149, .int 0, .ref q150, .ref q151, .int 0, .int 0, .int 0, .int 0, .int 0, .ref q152, .ref q153, .ref q154, .int 0])) (j := 144) (by decide)
  have f154 := f154.ne (.inr (5, [.ref q145, .int 0, .int 0, .ref q146, .ref q147, .int 0, .ref q148, .ref q149, .int 0, .ref q150, .ref q151, .int 0, .int 0, .int 0, .int 0, .int 0, .ref q152, .ref q153, .ref q154, .int 0])) (j := 144) (by decide)
  refine n_mtail G b (s := g150_2) (w := g153_53) ⟨⟨Nat.le_of_ble_eq_true rfl, ?_⟩, ⟨Nat.le_of_ble_eq_true rfl, f145.2.2⟩, ⟨Nat.le_of_ble_eq_true rfl, f146.2.2⟩, ⟨Nat.le_of_ble_eq_true rfl, f147.2.2⟩, ⟨Nat.le_of_ble_eq_true rfl, f148.2.2⟩, ⟨Nat.le_of_ble_eq_true rfl, f149.2.2⟩, ⟨Nat.le_of_ble_eq_true rfl, f150.2.2⟩, ⟨Nat.le_of_ble_eq_true rfl, f151.2.2⟩, ⟨Nat.le_of_ble_eq_true rfl, f152.2.2⟩, ⟨Nat.le_of_ble_eq_true rfl, f153.2.2⟩, ⟨Nat.le_of_ble_eq_true rfl, f154.2.2⟩⟩ h.2.1 w150_2 w153_53 (fun hh1 am vm hM hN hF => ⟨rfl, h.2.1, fun i hi => ⟨(hX i hi).1, (hF i (Or.inl hi)).trans (hX i hi).2⟩, am, vm, hM, hN⟩)
  exact h.2.2.trans (fM_q f145.2.1 f146.2.1 f147.2.1 f148.2.1 f149.2.1 f150.2.1 f151.2.1 f152.2.1 f153.2.1 f154.2.1)
