theorem swapZ {G : GG} {hh : HH} {q n : Nat} {f g : Nat → Int32} (hfg : ∀ j, j < n → f j = g j) : ∀ H, va_P (gD G) clsX (wd G (va_up hh q (eZ G n f))) H → va_P (gD G) clsX (wd G (va_up hh q (eZ G n g))) H := by
  intro H hP i p hp
  have hi : i < gn G := by
    have := (List.getElem?_eq_some_iff.mp hp).1
    simpa [wd] using this
  rw [wd_get hi] at hp
  cases hp
  have h1 := hP i _ (wd_get hi)
  by_cases hq : i = q
  · subst hq
    simp only [va_up, if_true] at h1 ⊢
    show H[ad G i]? = some (vp_cell _ _)
    have h2 : H[ad G i]? = some (vp_cell (gZ G) (n, .inl f)) := h1
    rw [h2, vp_cell_i, vp_cell_i, arrV_cg (fun j hj => by rw [hfg j hj])]
  · simp only [va_up, if_neg hq] at h1 ⊢
    exact h1
theorem nar_bl (c : Bool) : vp_nar .boolean (bl c) = bl c := by cases c <;> rfl
theorem Zr_ast {G : GG} {μ : MI} {pc : Nat} {lv : List (Nat × Value)} {st : List Value} {hh : HH} {Q : QQ} {k n i : Nat} {b : Nat → Bool} {x : Int32} {c : Bool} (hd : decode μ.2.1 pc = .ok (.bastore, 1)) (h : hAt G hh k (eZ G n (fun i => bl (b i)))) (hi : i < n) (hn : n < 2 ^ 31) (hx : x = bl c) (k1 : ∀ hh1, hAt G hh1 k (eZ G n (fun j => bl (va_up b i c j))) → Fr k (k + 1) hh hh1 → RR G μ (pc + 1) lv st hh1 Q) : RR G μ pc lv (.int x :: .int (nI i) :: .ref (ad G k) :: st) hh Q := by
  subst hx
  refine R_zast hd h (vp_in_nI hi hn) ?_
  rw [nI_clamp (by omega), nar_bl]
  refine RR.swap (swapZ (g := fun j => bl (va_up b i c j)) (fun j _ => ?_)) (k1 _ (hAt.up h.1) (Fr.up _ Fr.rf (Nat.le_refl k) (Nat.lt_succ_self k)))
  by_cases e : j = i
  · subst e; simp [upd, va_up]
  · simp [upd, va_up, e]
theorem bl_n {b : Bool} (h : ¬ ¬ bl b = 0) : ¬ b = true := by cases b <;> simp_all [bl]
theorem bl_t {b : Bool} (h : ¬ bl b = 0) : b = true := by cases b <;> simp_all [bl]
def erSlip (t : Int32) : Option Int32 := if 0 ≤ t ∧ t < 3 then none else some (-2)
theorem va_up_id {α : Type} (f : Nat → α) (i : Nat) : va_up f i (f i) = f := by
  funext j
  by_cases e : j = i
  · subst e; simp [va_up]
  · simp [va_up, e]
set_option maxRecDepth 4000 in
theorem w_slip (G : GG) (hh : HH)   {b : Nat → Bool} {lf : Nat → Nat → Int32} {lL : Nat → Nat} (hC : hAt G hh 0 (cwO G)) (sl : hAt G hh 5 (eL G 3 (fun i => some (ad G (6 + 2 * i))))) (th : hAt G hh 12 (eZ G 3 (fun i => bl (b i)))) (sf : ∀ i, i < 3 → LeAt G hh (6 + 2 * i) 40 (lf i) (nI (lL i))) (hlL : ∀ i, i < 3 → lL i ≤ 40) (t : Int32) : EVi G mX4_slip [.ref (ad G 0), .int t] hh (fun w h1 => match erSlip t with | some e => w = e ∧ h1 = hh | none => w = 0 ∧ hAt G h1 12 (eZ G 3 (fun i => bl (va_up b t.toNatClampNeg true i))) ∧ (∀ i, i < 3 → LeAt G h1 (6 + 2 * i) 40 (lf i) (nI (va_up lL t.toNatClampNeg 0 i))) ∧ FrS [(6, 13)] hh h1) := by
  refine EV.of [(0, .ref (ad G 0)), (1, .int t)] (by decide +kernel) (Nat.le_of_ble_eq_true rfl) rfl ?_
  have hF : FrS [(6, 13)] hh hh := FrS.rf
  refine R_iload_n dX4_slip_0 rfl ?_
  refine R_callSp dX4_slip_1 cs_X4_208 ⟨by decide, by decide⟩ (e_isSlip G hh t) rfl rfl (Nat.le_of_ble_eq_true rfl) ?_
  refine R_if_ne (tgt := 10) dX4_slip_4 (by decide) (fun c4 => ?_) (fun c4 => ?_)
  · have hs3 : 0 ≤ t ∧ t < 3 := by simpa [bl] using c4
    obtain ⟨i, hi, rfl⟩ := ix_in (n := 3) (by decide) (Int32.not_lt.mpr hs3.1) hs3.2
    have si := sf i hi
    have hsL := hlL i hi
    have ec : (nI i).toNatClampNeg = i := nI_clamp (by omega)
    refine R_aload_n dX4_slip_10 rfl ?_
    refine R_get dX4_slip_11 gf_X4_21 hC rfl ?_
    refine R_iload_n dX4_slip_14 rfl ?_
    refine R_aldL (q := ad G (6 + 2 * i)) dX4_slip_15 sl (vp_in_nI (show i < 3 by omega) (by decide)) (by rw [nI_clamp (by omega)]) ?_
    refine R_iconst (v := 0) dX4_slip_16 (by decide) ?_
    refine Le_put1 dX4_slip_17 pf_X4_72 si (fun hh si hF1 => ?_)
    have hF := hF.t1 hF1 ⟨(6, 13), by simp, by omega, by omega⟩
    have hC := hAt.fr hC hF1 (by omega)
    have sl := hAt.fr sl hF1 (by omega)
    have th := hAt.fr th hF1 (by omega)
    have sf : ∀ j, j < 3 → LeAt G hh (6 + 2 * j) 40 (va_up lf i (lf i) j) (nI (va_up lL i (0) j)) := by
      intro j hj
      by_cases e : j = i
      · rw [e, show va_up lf i (lf i) i = _ from if_pos rfl, show va_up lL i (0) i = _ from if_pos rfl]; exact si
      · rw [show va_up lf i (lf i) j = lf j from if_neg e, show va_up lL i (0) j = lL j from if_neg e]; exact (sf j hj).fr hF1 (by omega)
    have si := si
    refine R_aload_n dX4_slip_20 rfl ?_
    refine R_get dX4_slip_21 gf_X4_25 hC rfl ?_
    refine R_iload_n dX4_slip_24 rfl ?_
    refine R_iconst (v := 1) dX4_slip_25 (by decide) ?_
    refine Zr_ast (c := true) dX4_slip_26 th (by omega) (by decide) rfl (fun hh th hF1 => ?_)
    have hF := hF.t1 hF1 ⟨(6, 13), by simp, by omega, by omega⟩
    have hC := hAt.fr hC hF1 (by omega)
    have sl := hAt.fr sl hF1 (by omega)
    have sf := fun i hi => (sf i hi).fr hF1 (by omega)
    refine R_iconst (v := 0) dX4_slip_27 (by decide) ?_
    exact R_iret dX4_slip_28 rfl (⟨_, rfl, by (have hE : erSlip (nI i) = none := by (unfold erSlip; rw [if_pos hs3])); (rw [hE]); exact ⟨rfl, by simp only [ec]; exact th, by simp only [ec]; rw [va_up_id] at sf; exact sf, hF⟩⟩)
  · refine R_bipush (v := (-2)) dX4_slip_7 (by decide) ?_
    exact R_iret dX4_slip_9 rfl (⟨_, rfl, by (have hE : erSlip t = some (-2) := by (unfold erSlip; rw [if_neg (by simpa [bl] using c4)])); (rw [hE]); exact ⟨rfl, rfl⟩⟩)
set_option maxRecDepth 4000 in
theorem e_isSlipLetter (G : GG) (hh : HH) (x : Int32) : EVp G mX4_isSlipLetter [.int x] hh (bl (smB x || dgB x || decide (x = 46))) := by
  refine EV.of [(0, .int x)] (by decide +kernel) (Nat.le_of_ble_eq_true rfl) rfl ?_
  refine R_iload_n dX4_isSlipLetter_0 rfl ?_
  refine R_callSp (w := bl (smB x)) dX4_isSlipLetter_1 cs_X4_246 ⟨by decide, by decide⟩ (e_isSmallLetter G hh x) rfl rfl (Nat.le_of_ble_eq_true rfl) ?_
  refine R_if_ne (tgt := 20) dX4_isSlipLetter_4 (by decide) (fun c4 => ?_) (fun c4 => ?_)
  · refine R_iconst (v := 1) dX4_isSlipLetter_20 (by decide) ?_
    refine R_goto (tgt := 25) dX4_isSlipLetter_21 (by decide) ?_
    exact R_zret dX4_isSlipLetter_25 rfl (by first | exact Or.inl rfl | exact Or.inr rfl | assumption | exact bl01 _ | omega) (⟨_, rfl, by simp_all [bl], rfl⟩)
  · refine R_iload_n dX4_isSlipLetter_7 rfl ?_
    refine R_callSp (w := bl (dgB x)) dX4_isSlipLetter_8 cs_X4_249 ⟨by decide, by decide⟩ (e_isDigit G hh x) rfl rfl (Nat.le_of_ble_eq_true rfl) ?_
    refine R_if_ne (tgt := 20) dX4_isSlipLetter_11 (by decide) (fun c11 => ?_) (fun c11 => ?_)
    · refine R_iconst (v := 1) dX4_isSlipLetter_20 (by decide) ?_
      refine R_goto (tgt := 25) dX4_isSlipLetter_21 (by decide) ?_
      exact R_zret dX4_isSlipLetter_25 rfl (by first | exact Or.inl rfl | exact Or.inr rfl | assumption | exact bl01 _ | omega) (⟨_, rfl, by simp_all [bl], rfl⟩)
    · refine R_iload_n dX4_isSlipLetter_14 rfl ?_
      refine R_bipush (v := 46) dX4_isSlipLetter_15 (by decide) ?_
      refine R_icmp_ne (tgt := 24) dX4_isSlipLetter_17 (by decide) (fun c17 => ?_) (fun c17 => ?_)
      · refine R_iconst (v := 0) dX4_isSlipLetter_24 (by decide) ?_
        exact R_zret dX4_isSlipLetter_25 rfl (by first | exact Or.inl rfl | exact Or.inr rfl | assumption | exact bl01 _ | omega) (⟨_, rfl, by simp_all [bl], rfl⟩)
      · refine R_iconst (v := 1) dX4_isSlipLetter_20 (by decide) ?_
        refine R_goto (tgt := 25) dX4_isSlipLetter_21 (by decide) ?_
        exact R_zret dX4_isSlipLetter_25 rfl (by first | exact Or.inl rfl | exact Or.inr rfl | assumption | exact bl01 _ | omega) (⟨_, rfl, by simp_all [bl], rfl⟩)
def erIns (b : Nat → Bool) (lL : Nat → Nat) (t i x : Int32) : Option Int32 :=
  if 0 ≤ t ∧ t < 3 then
    if (smB x || dgB x || decide (x = 46)) = true then
      if b t.toNatClampNeg = true then
        if ¬ i < 0 ∧ i ≤ nI (lL t.toNatClampNeg) then if lL t.toNatClampNeg + 1 ≤ 40 then none else some (-13) else some (-12)
      else some (-11)
    else some (-3)
  else some (-2)
set_option maxRecDepth 4000 in
theorem w_insert (G : GG) (hh : HH)   {b : Nat → Bool} {lf : Nat → Nat → Int32} {lL : Nat → Nat} (hC : hAt G hh 0 (cwO G)) (sl : hAt G hh 5 (eL G 3 (fun i => some (ad G (6 + 2 * i))))) (th : hAt G hh 12 (eZ G 3 (fun i => bl (b i)))) (sf : ∀ i, i < 3 → LeAt G hh (6 + 2 * i) 40 (lf i) (nI (lL i))) (hlL : ∀ i, i < 3 → lL i ≤ 40) (t y x : Int32) : EVi G mX4_insert [.ref (ad G 0), .int t, .int y, .int x] hh (fun w h1 => match erIns b lL t y x with | some e => w = e ∧ h1 = hh | none => w = nI (lL t.toNatClampNeg + 1) ∧ (∀ i, i < 3 → LeAt G h1 (6 + 2 * i) 40 (va_up lf t.toNatClampNeg (insA (lf t.toNatClampNeg) y.toNatClampNeg (lL t.toNatClampNeg) x) i) (nI (va_up lL t.toNatClampNeg (lL t.toNatClampNeg + 1) i))) ∧ hAt G h1 12 (eZ G 3 (fun i => bl (b i))) ∧ FrS [(6, 13)] hh h1) := by
  refine EV.of [(0, .ref (ad G 0)), (1, .int t), (2, .int y), (3, .int x)] (by decide +kernel) (Nat.le_of_ble_eq_true rfl) rfl ?_
  have hF : FrS [(6, 13)] hh hh := FrS.rf
  refine R_iload_n dX4_insert_0 rfl ?_
  refine R_callSp dX4_insert_1 cs_X4_208 ⟨by decide, by decide⟩ (e_isSlip G hh t) rfl rfl (Nat.le_of_ble_eq_true rfl) ?_
  refine R_if_ne (tgt := 10) dX4_insert_4 (by decide) (fun c4 => ?_) (fun c4 => ?_)
  · have hs3 : 0 ≤ t ∧ t < 3 := by simpa [bl] using c4
    obtain ⟨i, hi, rfl⟩ := ix_in (n := 3) (by decide) (Int32.not_lt.mpr hs3.1) hs3.2
    have si := sf i hi
    have hsL := hlL i hi
    have ec : (nI i).toNatClampNeg = i := nI_clamp (by omega)
    refine R_iload_n dX4_insert_10 rfl ?_
    refine R_callSp dX4_insert_11 cs_X4_211 ⟨by decide, by decide⟩ (e_isSlipLetter G hh x) rfl rfl (Nat.le_of_ble_eq_true rfl) ?_
    refine R_if_ne (tgt := 20) dX4_insert_14 (by decide) (fun c14 => ?_) (fun c14 => ?_)
    · refine R_aload_n dX4_insert_20 rfl ?_
      refine R_get dX4_insert_21 gf_X4_25 hC rfl ?_
      refine R_iload_n dX4_insert_24 rfl ?_
      refine R_zaldN dX4_insert_25 th (by omega) (by decide) ?_
      refine R_if_ne (tgt := 32) dX4_insert_26 (by decide) (fun c26 => ?_) (fun c26 => ?_)
      · refine R_iload_n dX4_insert_32 rfl ?_
        refine R_if_lt (tgt := 49) dX4_insert_33 (by decide) (fun c33 => ?_) (fun c33 => ?_)
        · refine R_bipush (v := (-12)) dX4_insert_49 (by decide) ?_
          exact R_iret dX4_insert_51 rfl (⟨_, rfl, by (have hE : erIns b lL (nI i) y x = some (-12) := by (unfold erIns; simp only [ec]; rw [if_pos hs3, if_pos (bl_t c14), if_pos (bl_t c26), if_neg (fun q => q.1 c33)])); (rw [hE]); exact ⟨rfl, rfl⟩⟩)
        · refine R_iload_n dX4_insert_36 rfl ?_
          refine R_aload_n dX4_insert_37 rfl ?_
          refine R_get dX4_insert_38 gf_X4_21 hC rfl ?_
          refine R_iload_n dX4_insert_41 rfl ?_
          refine R_aldL (q := ad G (6 + 2 * i)) dX4_insert_42 sl (vp_in_nI (show i < 3 by omega) (by decide)) (by rw [nI_clamp (by omega)]) ?_
          refine R_get dX4_insert_43 gf_X4_72 si.1 rfl ?_
          refine R_icmp_le (tgt := 52) dX4_insert_46 (by decide) (fun c46 => ?_) (fun c46 => ?_)
          · refine R_aload_n dX4_insert_52 rfl ?_
            refine R_get dX4_insert_53 gf_X4_21 hC rfl ?_
            refine R_iload_n dX4_insert_56 rfl ?_
            refine R_aldL (q := ad G (6 + 2 * i)) dX4_insert_57 sl (vp_in_nI (show i < 3 by omega) (by decide)) (by rw [nI_clamp (by omega)]) ?_
            refine R_iconst (v := 1) dX4_insert_58 (by decide) ?_
            refine R_callVp dX4_insert_59 cv_X4_68 ⟨by decide, by decide⟩ (e_hasRoom G hh si hsL (by omega) 1 (by omega)) si.1 rfl rfl rfl (Nat.le_of_ble_eq_true rfl) ?_
            refine R_if_ne (tgt := 68) dX4_insert_62 (by decide) (fun c62 => ?_) (fun c62 => ?_)
            · obtain ⟨y, hy, rfl⟩ := nI_of2 (n := lL i) (nI_toInt (by omega)) c33 c46
              have hr : lL i + 1 ≤ 40 := by simpa [bl] using c62
              have hE : erIns b lL (nI i) (nI y) x = none := by (unfold erIns; simp only [ec]; rw [if_pos hs3, if_pos (bl_t c14), if_pos (bl_t c26), if_pos ⟨c33, c46⟩, if_pos hr])
              have ec2 : (nI y).toNatClampNeg = y := nI_clamp (by omega)
              refine R_aload_n dX4_insert_68 rfl ?_
              refine R_get dX4_insert_69 gf_X4_21 hC rfl ?_
              refine R_iload_n dX4_insert_72 rfl ?_
              refine R_aldL (q := ad G (6 + 2 * i)) dX4_insert_73 sl (vp_in_nI (show i < 3 by omega) (by decide)) (by rw [nI_clamp (by omega)]) ?_
              refine R_iload_n dX4_insert_74 rfl ?_
              refine R_iload_n dX4_insert_75 rfl ?_
              refine R_callVv dX4_insert_76 cv_X4_76 ⟨by decide, by decide⟩ (e_putAt G hh si hsL (by omega) y hy (by omega) x) si.1 rfl rfl rfl (Nat.le_of_ble_eq_true rfl) (fun hh hw => ?_)
              obtain ⟨si, hF1⟩ := hw
              have hF := hF.t1 hF1 ⟨(6, 13), by simp, by omega, by omega⟩
              have hC := hAt.fr hC hF1 (by omega)
              have sl := hAt.fr sl hF1 (by omega)
              have th := hAt.fr th hF1 (by omega)
              have sf : ∀ j, j < 3 → LeAt G hh (6 + 2 * j) 40 (va_up lf i (insA (lf i) y (lL i) x) j) (nI (va_up lL i (lL i + 1) j)) := by
                intro j hj
                by_cases e : j = i
                · rw [e, show va_up lf i (insA (lf i) y (lL i) x) i = _ from if_pos rfl, show va_up lL i (lL i + 1) i = _ from if_pos rfl]; exact si
                · rw [show va_up lf i (insA (lf i) y (lL i) x) j = lf j from if_neg e, show va_up lL i (lL i + 1) j = lL j from if_neg e]; exact (sf j hj).fr hF1 (by omega)
              refine R_aload_n dX4_insert_79 rfl ?_
              refine R_get dX4_insert_80 gf_X4_21 hC rfl ?_
              refine R_iload_n dX4_insert_83 rfl ?_
              refine R_aldL (q := ad G (6 + 2 * i)) dX4_insert_84 sl (vp_in_nI (show i < 3 by omega) (by decide)) (by rw [nI_clamp (by omega)]) ?_
              refine R_get dX4_insert_85 gf_X4_72 si.1 rfl ?_
              exact R_iret dX4_insert_88 rfl (⟨_, rfl, by (rw [hE]); exact ⟨by simp only [ec], by simp only [ec, ec2]; exact sf, th, hF⟩⟩)
            · refine R_bipush (v := (-13)) dX4_insert_65 (by decide) ?_
              exact R_iret dX4_insert_67 rfl (⟨_, rfl, by (have hE : erIns b lL (nI i) y x = some (-13) := by (unfold erIns; simp only [ec]; rw [if_pos hs3, if_pos (bl_t c14), if_pos (bl_t c26), if_pos ⟨c33, c46⟩, if_neg (by simpa [bl] using c62)])); (rw [hE]); exact ⟨rfl, rfl⟩⟩)
          · refine R_bipush (v := (-12)) dX4_insert_49 (by decide) ?_
            exact R_iret dX4_insert_51 rfl (⟨_, rfl, by (have hE : erIns b lL (nI i) y x = some (-12) := by (unfold erIns; simp only [ec]; rw [if_pos hs3, if_pos (bl_t c14), if_pos (bl_t c26), if_neg (fun q => c46 q.2)])); (rw [hE]); exact ⟨rfl, rfl⟩⟩)
      · refine R_bipush (v := (-11)) dX4_insert_29 (by decide) ?_
        exact R_iret dX4_insert_31 rfl (⟨_, rfl, by (have hE : erIns b lL (nI i) y x = some (-11) := by (unfold erIns; simp only [ec]; rw [if_pos hs3, if_pos (bl_t c14), if_neg (bl_n c26)])); (rw [hE]); exact ⟨rfl, rfl⟩⟩)
    · refine R_bipush (v := (-3)) dX4_insert_17 (by decide) ?_
      exact R_iret dX4_insert_19 rfl (⟨_, rfl, by (have hE : erIns b lL (nI i) y x = some (-3) := by (unfold erIns; simp only [ec]; rw [if_pos hs3, if_neg (bl_n c14)])); (rw [hE]); exact ⟨rfl, rfl⟩⟩)
  · refine R_bipush (v := (-2)) dX4_insert_7 (by decide) ?_
    exact R_iret dX4_insert_9 rfl (⟨_, rfl, by (have hE : erIns b lL t y x = some (-2) := by (unfold erIns; rw [if_neg (by simpa [bl] using c4)])); (rw [hE]); exact ⟨rfl, rfl⟩⟩)
