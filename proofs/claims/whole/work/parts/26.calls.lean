def erWrite (tL : Nat) (x : Int32) : Option Int32 := if ¬ x < 0 ∧ x ≤ 255 then if tL + 1 ≤ 200 then none else some (-5) else some (-3)
set_option maxRecDepth 4000 in
theorem w_write (G : GG) (hh : HH)  {tf : Nat → Int32} {tL : Nat} (hC : hAt G hh 0 (cwO G)) (t : LeAt G hh 1 200 tf (nI tL)) (htL : tL ≤ 200) (x : Int32) : EVi G mX4_write [.ref (ad G 0), .int x] hh (fun w h1 => match erWrite tL x with | some e => w = e ∧ h1 = hh | none => w = nI (tL + 1) ∧ LeAt G h1 1 200 (upd tf tL x) (nI (tL + 1)) ∧ Fr 1 3 hh h1) := by
  refine EV.of [(0, .ref (ad G 0)), (1, .int x)] (by decide +kernel) (Nat.le_of_ble_eq_true rfl) rfl ?_
  refine R_iload_n dX4_write_0 rfl ?_
  refine R_if_lt (tgt := 11) dX4_write_1 (by decide) (fun c1 => ?_) (fun c1 => ?_)
  · refine R_bipush (v := (-3)) dX4_write_11 (by decide) ?_
    exact R_iret dX4_write_13 rfl (⟨_, rfl, by (have hE : erWrite tL x = some (-3) := by (unfold erWrite; rw [if_neg (fun q => q.1 c1)])); (rw [hE]); exact ⟨rfl, rfl⟩⟩)
  · refine R_iload_n dX4_write_4 rfl ?_
    refine R_sipush (v := 255) dX4_write_5 (by decide) ?_
    refine R_icmp_le (tgt := 14) dX4_write_8 (by decide) (fun c8 => ?_) (fun c8 => ?_)
    · refine R_aload_n dX4_write_14 rfl ?_
      refine R_get dX4_write_15 gf_X4_14 hC rfl ?_
      refine R_iconst (v := 1) dX4_write_18 (by decide) ?_
      refine R_callVp dX4_write_19 cv_X4_68 ⟨by decide, by decide⟩ (e_hasRoom G hh t htL (by omega) 1 (by omega)) t.1 rfl rfl rfl (Nat.le_of_ble_eq_true rfl) ?_
      refine R_if_ne (tgt := 28) dX4_write_22 (by decide) (fun c22 => ?_) (fun c22 => ?_)
      · have hr : tL + 1 ≤ 200 := by simpa [bl] using c22
        refine R_aload_n dX4_write_28 rfl ?_
        refine R_get dX4_write_29 gf_X4_14 hC rfl ?_
        refine R_aload_n dX4_write_32 rfl ?_
        refine R_get dX4_write_33 gf_X4_14 hC rfl ?_
        refine R_get dX4_write_36 gf_X4_72 t.1 rfl ?_
        refine R_iload_n dX4_write_39 rfl ?_
        refine R_callVv dX4_write_40 cv_X4_76 ⟨by decide, by decide⟩ (e_putAt G hh t htL (by omega) tL (Nat.le_refl _) (by omega) x) t.1 rfl rfl rfl (Nat.le_of_ble_eq_true rfl) (fun hh hw => ?_)
        obtain ⟨t, hF1⟩ := hw
        rw [insA_end] at t
        have hC := hAt.fr hC hF1 (by omega)
        refine R_aload_n dX4_write_43 rfl ?_
        refine R_get dX4_write_44 gf_X4_14 hC rfl ?_
        refine R_get dX4_write_47 gf_X4_72 t.1 rfl ?_
        exact R_iret dX4_write_50 rfl (⟨_, rfl, by (have hE : erWrite tL x = none := by (unfold erWrite; rw [if_pos ⟨c1, c8⟩, if_pos (by simpa [bl] using c22)])); (rw [hE]); exact ⟨rfl, t, hF1⟩⟩)
      · refine R_bipush (v := (-5)) dX4_write_25 (by decide) ?_
        exact R_iret dX4_write_27 rfl (⟨_, rfl, by (have hE : erWrite tL x = some (-5) := by (unfold erWrite; rw [if_pos ⟨c1, c8⟩, if_neg (by simpa [bl] using c22)])); (rw [hE]); exact ⟨rfl, rfl⟩⟩)
    · refine R_bipush (v := (-3)) dX4_write_11 (by decide) ?_
      exact R_iret dX4_write_13 rfl (⟨_, rfl, by (have hE : erWrite tL x = some (-3) := by (unfold erWrite; rw [if_neg (fun q => c8 q.2)])); (rw [hE]); exact ⟨rfl, rfl⟩⟩)
set_option maxRecDepth 4000 in
theorem w_erase (G : GG) (hh : HH)  {tf : Nat → Int32} {tL : Nat} (hC : hAt G hh 0 (cwO G)) (t : LeAt G hh 1 200 tf (nI tL)) (htL : tL ≤ 200) : EVi G mX4_erase [.ref (ad G 0)] hh (fun w h1 => w = nI tL ∧ LeAt G h1 1 200 tf (nI 0) ∧ Fr 1 3 hh h1) := by
  refine EV.of [(0, .ref (ad G 0))] (by decide +kernel) (Nat.le_of_ble_eq_true rfl) rfl ?_
  refine R_aload_n dX4_erase_0 rfl ?_
  refine R_get dX4_erase_1 gf_X4_14 hC rfl ?_
  refine R_get dX4_erase_4 gf_X4_72 t.1 rfl ?_
  refine R_istore_n dX4_erase_7 (by decide) ?_
  refine R_aload_n dX4_erase_8 rfl ?_
  refine R_get dX4_erase_9 gf_X4_14 hC rfl ?_
  refine R_iconst (v := 0) dX4_erase_12 (by decide) ?_
  refine Le_put1 dX4_erase_13 pf_X4_72 t (fun hh t hF1 => ?_)
  have hF := hF1
  have hC := hAt.fr hC hF1 (by omega)
  refine R_iload_n dX4_erase_16 rfl ?_
  exact R_iret dX4_erase_17 rfl (⟨_, rfl, rfl, t, hF⟩)
set_option maxRecDepth 4000 in
theorem l_dropAll (G : GG) (hh0 : HH) : ∀ (d i : Nat) (b : Nat → Bool) (hh : HH), i + d = 3 → (∀ j, j < i → b j = false) → hAt G hh 0 (cwO G) → hAt G hh 12 (eZ G 3 (fun i => bl (b i))) → Fr 12 13 hh0 hh → RR G mX4_dropAllSlips 2 [(0, .ref (ad G 0)), (1, .int (nI i))] [] hh (fun r h1 => r = none ∧ (hAt G h1 12 (eZ G 3 (fun i => bl ((fun _ => false : Nat → Bool) i))) ∧ Fr 12 13 hh0 h1)) := by
  intro d
  induction d with
  | zero =>
    intro i b hh hi hb hC th hF
    refine R_iload_n dX4_dropAllSlips_2 rfl ?_
    refine R_iconst (v := 3) dX4_dropAllSlips_3 (by decide) ?_
    refine R_icmp_ge (tgt := 20) dX4_dropAllSlips_4 (by decide) (fun c4 => ?_) (fun c4 => absurd (nI_le (a := 3) (by omega) (by omega)) c4)
    have e : hh = va_up hh 12 (eZ G 3 (fun i => bl (b i))) := by
      funext j
      by_cases q9 : j = 12
      · subst q9; rw [th.2]; simp [va_up]
      · simp [va_up, q9]
    rw [e]
    refine RR.swap (swapZ (g := fun i => bl ((fun _ => false : Nat → Bool) i)) (fun j hj => by rw [hb j (by omega)])) ?_
    exact R_vret dX4_dropAllSlips_20 rfl ⟨rfl, hAt.up th.1, hF.tr (Fr.up _ Fr.rf (Nat.le_refl _) (Nat.lt_succ_self _)) (by omega) (by omega)⟩
  | succ d ih =>
    intro i b hh hi hb hC th hF
    refine R_iload_n dX4_dropAllSlips_2 rfl ?_
    refine R_iconst (v := 3) dX4_dropAllSlips_3 (by decide) ?_
    refine R_icmp_ge (tgt := 20) dX4_dropAllSlips_4 (by decide) (fun c4 => absurd c4 (nI_ge (b := 3) (by omega) (by omega))) (fun c4 => ?_)
    refine R_aload_n dX4_dropAllSlips_7 rfl ?_
    refine R_get dX4_dropAllSlips_8 gf_X4_25 hC rfl ?_
    refine R_iload_n dX4_dropAllSlips_11 rfl ?_
    refine R_iconst (v := 0) dX4_dropAllSlips_12 (by decide) ?_
    refine Zr_ast (c := false) dX4_dropAllSlips_13 th (by omega) (by decide) rfl (fun hh th hF1 => ?_)
    have hF := hF.tr hF1 (by omega) (by omega)
    have hC := hAt.fr hC hF1 (by omega)
    refine R_iinc (y := nI (i + 1)) dX4_dropAllSlips_14 rfl (by decide) (nI_s i) ?_
    refine R_goto (tgt := 2) dX4_dropAllSlips_17 (by decide) ?_
    exact RR.pick [1, 0] rfl (ih (i + 1) _ hh (by omega) (fun j hj => by (rcases Nat.lt_or_ge j i with q9 | q9; exact (if_neg (show ¬ j = i by omega)).trans (hb j q9); exact if_pos (by omega))) hC th hF)
set_option maxRecDepth 4000 in
theorem w_dropAll (G : GG) (hh : HH)  {b : Nat → Bool} (hC : hAt G hh 0 (cwO G)) (th : hAt G hh 12 (eZ G 3 (fun i => bl (b i)))) : EVv G mX4_dropAllSlips [.ref (ad G 0)] hh (fun h1 => hAt G h1 12 (eZ G 3 (fun i => bl ((fun _ => false : Nat → Bool) i))) ∧ Fr 12 13 hh h1) := by
  refine EV.of [(0, .ref (ad G 0))] (by decide +kernel) (Nat.le_of_ble_eq_true rfl) rfl ?_
  refine R_iconst (v := 0) dX4_dropAllSlips_0 (by decide) ?_
  refine R_istore_n dX4_dropAllSlips_1 (by decide) ?_
  exact RR.pick [1, 0] rfl (l_dropAll G hh 3 0 b hh (by omega) (fun j hj => by omega) hC th Fr.rf)
set_option maxRecDepth 4000 in
theorem l_forgetKept (G : GG) (hh0 : HH) : ∀ (d i : Nat) (kb : Nat → Bool) (hh : HH), i + d = 2 → (∀ j, j < i → kb j = false) → hAt G hh 0 (cwO G) → hAt G hh 143 (eZ G 2 (fun i => bl (kb i))) → Fr 143 144 hh0 hh → RR G mX4_forgetKept 2 [(0, .ref (ad G 0)), (1, .int (nI i))] [] hh (fun r h1 => r = none ∧ (hAt G h1 143 (eZ G 2 (fun i => bl ((fun _ => false : Nat → Bool) i))) ∧ Fr 143 144 hh0 h1)) := by
  intro d
  induction d with
  | zero =>
    intro i kb hh hi hb hC ik hF
    refine R_iload_n dX4_forgetKept_2 rfl ?_
    refine R_iconst (v := 2) dX4_forgetKept_3 (by decide) ?_
    refine R_icmp_ge (tgt := 20) dX4_forgetKept_4 (by decide) (fun c4 => ?_) (fun c4 => absurd (nI_le (a := 2) (by omega) (by omega)) c4)
    have e : hh = va_up hh 143 (eZ G 2 (fun i => bl (kb i))) := by
      funext j
      by_cases q9 : j = 143
      · subst q9; rw [ik.2]; simp [va_up]
      · simp [va_up, q9]
    rw [e]
    refine RR.swap (swapZ (g := fun i => bl ((fun _ => false : Nat → Bool) i)) (fun j hj => by rw [hb j (by omega)])) ?_
    exact R_vret dX4_forgetKept_20 rfl ⟨rfl, hAt.up ik.1, hF.tr (Fr.up _ Fr.rf (Nat.le_refl _) (Nat.lt_succ_self _)) (by omega) (by omega)⟩
  | succ d ih =>
    intro i kb hh hi hb hC ik hF
    refine R_iload_n dX4_forgetKept_2 rfl ?_
    refine R_iconst (v := 2) dX4_forgetKept_3 (by decide) ?_
    refine R_icmp_ge (tgt := 20) dX4_forgetKept_4 (by decide) (fun c4 => absurd c4 (nI_ge (b := 2) (by omega) (by omega))) (fun c4 => ?_)
    refine R_aload_n dX4_forgetKept_7 rfl ?_
    refine R_get dX4_forgetKept_8 gf_X4_65 hC rfl ?_
    refine R_iload_n dX4_forgetKept_11 rfl ?_
    refine R_iconst (v := 0) dX4_forgetKept_12 (by decide) ?_
    refine Zr_ast (c := false) dX4_forgetKept_13 ik (by omega) (by decide) rfl (fun hh ik hF1 => ?_)
    have hF := hF.tr hF1 (by omega) (by omega)
    have hC := hAt.fr hC hF1 (by omega)
    refine R_iinc (y := nI (i + 1)) dX4_forgetKept_14 rfl (by decide) (nI_s i) ?_
    refine R_goto (tgt := 2) dX4_forgetKept_17 (by decide) ?_
    exact RR.pick [1, 0] rfl (ih (i + 1) _ hh (by omega) (fun j hj => by (rcases Nat.lt_or_ge j i with q9 | q9; exact (if_neg (show ¬ j = i by omega)).trans (hb j q9); exact if_pos (by omega))) hC ik hF)
set_option maxRecDepth 4000 in
theorem w_forgetKept (G : GG) (hh : HH)  {kb : Nat → Bool} (hC : hAt G hh 0 (cwO G)) (ik : hAt G hh 143 (eZ G 2 (fun i => bl (kb i)))) : EVv G mX4_forgetKept [.ref (ad G 0)] hh (fun h1 => hAt G h1 143 (eZ G 2 (fun i => bl ((fun _ => false : Nat → Bool) i))) ∧ Fr 143 144 hh h1) := by
  refine EV.of [(0, .ref (ad G 0))] (by decide +kernel) (Nat.le_of_ble_eq_true rfl) rfl ?_
  refine R_iconst (v := 0) dX4_forgetKept_0 (by decide) ?_
  refine R_istore_n dX4_forgetKept_1 (by decide) ?_
  exact RR.pick [1, 0] rfl (l_forgetKept G hh 2 0 kb hh (by omega) (fun j hj => by omega) hC ik Fr.rf)
def erSeal (s : Int32) : Option Int32 := if 1 ≤ s then none else some (-3)
set_option maxRecDepth 4000 in
theorem w_seal (G : GG) (hh : HH)  {a : AA} {v : VV} {x z : Nat} (hC : hAt G hh 0 (cwO G)) (nw : StAt G hh 32 a v) (ho : HoAt G hh 50 (nI x) (nI z)) (hx : x < 8) (hz : z ≤ 8) (s : Int32) : EVi G mX4_seal [.ref (ad G 0), .int s] hh (fun w h1 => match erSeal s with | some e => w = e ∧ h1 = hh | none => w = v 14 ∧ StAt G h1 32 (sealA a) (sealV v s) ∧ HoAt G h1 50 (nI x) 0 ∧ FrS [(32, 41), (50, 51)] hh h1) := by
  refine EV.of [(0, .ref (ad G 0)), (1, .int s)] (by decide +kernel) (Nat.le_of_ble_eq_true rfl) rfl ?_
  have hF : FrS [(32, 41), (50, 51)] hh hh := FrS.rf
  refine R_iload_n dX4_seal_0 rfl ?_
  refine R_callSp dX4_seal_1 cs_X4_135 ⟨by decide, by decide⟩ (e_isSeed G hh s) rfl rfl (Nat.le_of_ble_eq_true rfl) ?_
  refine R_if_ne (tgt := 10) dX4_seal_4 (by decide) (fun c4 => ?_) (fun c4 => ?_)
  · refine R_aload_n dX4_seal_10 rfl ?_
    refine R_get dX4_seal_11 gf_X4_48 hC rfl ?_
    refine R_get dX4_seal_14 gf_X4_138 nw.1 rfl ?_
    refine R_istore_n dX4_seal_17 (by decide) ?_
    refine R_aload_n dX4_seal_18 rfl ?_
    refine R_get dX4_seal_19 gf_X4_48 hC rfl ?_
    refine R_iload_n dX4_seal_22 rfl ?_
    refine R_callVv dX4_seal_23 cv_X4_141 ⟨by decide, by decide⟩ (e_startAnew G hh nw s) nw.1 rfl rfl rfl (Nat.le_of_ble_eq_true rfl) (fun hh hw => ?_)
    obtain ⟨nw, hF1⟩ := hw
    have hF := hF.t1 hF1 (by decide)
    have hC := hAt.fr hC hF1 (by omega)
    have ho := HoAt.fr ho hF1 (by omega)
    refine R_aload_n dX4_seal_26 rfl ?_
    refine R_get dX4_seal_27 gf_X4_57 hC rfl ?_
    refine R_callVv dX4_seal_30 cv_X4_88 ⟨by decide, by decide⟩ (e_forget G hh ho) ho rfl rfl rfl (Nat.le_of_ble_eq_true rfl) (fun hh hw => ?_)
    obtain ⟨ho, hF1⟩ := hw
    have hF := hF.t1 hF1 (by decide)
    have nw := nw.fr hF1 (by omega)
    refine R_iload_n dX4_seal_33 rfl ?_
    exact R_iret dX4_seal_34 rfl (⟨_, rfl, by (have hE : erSeal s = none := by (unfold erSeal; rw [if_pos (by simpa [bl] using c4)])); (rw [hE]); exact ⟨rfl, nw, ho, hF⟩⟩)
  · refine R_bipush (v := (-3)) dX4_seal_7 (by decide) ?_
    exact R_iret dX4_seal_9 rfl (⟨_, rfl, by (have hE : erSeal s = some (-3) := by (unfold erSeal; rw [if_neg (by simpa [bl] using c4)])); (rw [hE]); exact ⟨rfl, rfl⟩⟩)
def erAway (v : VV) (n : Nat) (j s : Int32) : Option Int32 :=
  if 0 ≤ j ∧ j < nI n then if ¬ s < 0 ∧ s ≤ 1 then if bl (hasB (v 9) j) = (if s = 1 then 1 else 0) then some (-4) else none else some (-3) else some (-2)
set_option maxRecDepth 4000 in
theorem w_away (G : GG) (hh : HH)  {a : AA} {v : VV} {x z : Nat}  {A : Nat → AA} {W : Nat → VV} (hC : hAt G hh 0 (cwO G)) (nw : StAt G hh 32 a v) (ho : HoAt G hh 50 (nI x) (nI z)) (hx : x < 8) (hz : z ≤ 8) (hr : HrAt G hh 50) (hs : HsAt G hh 50 A W) {n : Nat} (hn : n ≤ 6) (hv : v 8 = nI n) (j s : Int32) : EVi G mX4_away [.ref (ad G 0), .int j, .int s] hh (fun w h1 => match erAway v n j s with | some e => w = e ∧ h1 = hh | none => w = 1 ∧ StAt G h1 32 a (va_up v 9 (v 9 ^^^ ((1 : Int32) <<< (j &&& 31)))) ∧ HoAt G h1 50 (nI (hiO x z)) (nI (hiZ z)) ∧ HrAt G h1 50 ∧ HsAt G h1 50 (va_up A ((x + z) % 8) (va_up a 7 (A ((x + z) % 8) 7))) (va_up W ((x + z) % 8) v) ∧ FrS [(32, 41), (50, 124)] hh h1) := by
  refine EV.of [(0, .ref (ad G 0)), (1, .int j), (2, .int s)] (by decide +kernel) (Nat.le_of_ble_eq_true rfl) rfl ?_
  have hF : FrS [(32, 41), (50, 124)] hh hh := FrS.rf
  refine R_aload_n dX4_away_0 rfl ?_
  refine R_get dX4_away_1 gf_X4_48 hC rfl ?_
  refine R_iload_n dX4_away_4 rfl ?_
  refine R_callVp dX4_away_5 cv_X4_100 ⟨by decide, by decide⟩ (e_hasJudge G hh nw j) nw.1 rfl rfl rfl (Nat.le_of_ble_eq_true rfl) ?_
  refine R_if_ne (tgt := 14) dX4_away_8 (by decide) (fun c8 => ?_) (fun c8 => ?_)
  · refine R_iload_n dX4_away_14 rfl ?_
    refine R_if_lt (tgt := 23) dX4_away_15 (by decide) (fun c15 => ?_) (fun c15 => ?_)
    · refine R_bipush (v := (-3)) dX4_away_23 (by decide) ?_
      exact R_iret dX4_away_25 rfl (⟨_, rfl, by (have hE : erAway v n j s = some (-3) := by (unfold erAway; rw [if_pos (by rw [hv] at c8; simpa [bl] using c8), if_neg (fun q => q.1 c15)])); (rw [hE]); exact ⟨rfl, rfl⟩⟩)
    · refine R_iload_n dX4_away_18 rfl ?_
      refine R_iconst (v := 1) dX4_away_19 (by decide) ?_
      refine R_icmp_le (tgt := 26) dX4_away_20 (by decide) (fun c20 => ?_) (fun c20 => ?_)
      · refine R_aload_n dX4_away_26 rfl ?_
        refine R_get dX4_away_27 gf_X4_48 hC rfl ?_
        refine R_iload_n dX4_away_30 rfl ?_
        refine R_callVp dX4_away_31 cv_X4_113 ⟨by decide, by decide⟩ (e_isAway G hh nw j) nw.1 rfl rfl rfl (Nat.le_of_ble_eq_true rfl) ?_
        refine R_iload_n dX4_away_34 rfl ?_
        refine R_iconst (v := 1) dX4_away_35 (by decide) ?_
        refine R_icmp_ne (tgt := 43) dX4_away_36 (by decide) (fun c36 => ?_) (fun c36 => ?_)
        · refine R_iconst (v := 0) dX4_away_43 (by decide) ?_
          refine R_icmp_ne (tgt := 50) dX4_away_44 (by decide) (fun c44 => ?_) (fun c44 => ?_)
          · refine R_aload_n dX4_away_50 rfl ?_
            refine R_get dX4_away_51 gf_X4_57 hC rfl ?_
            refine R_aload_n dX4_away_54 rfl ?_
            refine R_get dX4_away_55 gf_X4_48 hC rfl ?_
            refine R_callVv dX4_away_58 cv_X4_154 ⟨by decide, by decide⟩ (e_remember G hh ho hr hs nw hx hz (by omega)) ho rfl rfl rfl (Nat.le_of_ble_eq_true rfl) (fun hh hw => ?_)
            obtain ⟨ho, hr, hs, hF1⟩ := hw
            have hF := hF.t1 hF1 (by decide)
            have hC := hAt.fr hC hF1 (by omega)
            have nw := nw.fr hF1 (by omega)
            refine R_aload_n dX4_away_61 rfl ?_
            refine R_get dX4_away_62 gf_X4_48 hC rfl ?_
            refine R_dup dX4_away_65 rfl ?_
            refine R_get dX4_away_66 gf_X4_164 nw.1 rfl ?_
            refine R_iconst (v := 1) dX4_away_69 (by decide) ?_
            refine R_iload_n dX4_away_70 rfl ?_
            refine R_ishl dX4_away_71 ?_
            refine R_ixor dX4_away_72 ?_
            refine St_put9 dX4_away_73 pf_X4_164 nw (fun hh nw hF1 => ?_)
            have hF := hF.t1 hF1 (by decide)
            have hC := hAt.fr hC hF1 (by omega)
            have ho := HoAt.fr ho hF1 (by omega)
            have hr := HrAt.fr hr hF1 (by omega)
            have hs := HsAt.fr hs hF1 (by omega)
            refine R_iconst (v := 1) dX4_away_76 (by decide) ?_
            exact R_iret dX4_away_77 rfl (⟨_, rfl, by (have hE : erAway v n j s = none := by (unfold erAway; rw [if_pos (by rw [hv] at c8; simpa [bl] using c8), if_pos ⟨c15, c20⟩, if_neg c36, if_neg c44])); (rw [hE]); exact ⟨rfl, nw, ho, hr, hs, hF⟩⟩)
          · refine R_bipush (v := (-4)) dX4_away_47 (by decide) ?_
            exact R_iret dX4_away_49 rfl (⟨_, rfl, by (have hE : erAway v n j s = some (-4) := by (unfold erAway; rw [if_pos (by rw [hv] at c8; simpa [bl] using c8), if_pos ⟨c15, c20⟩, if_neg c36, if_pos (Classical.not_not.mp c44)])); (rw [hE]); exact ⟨rfl, rfl⟩⟩)
        · refine R_iconst (v := 1) dX4_away_39 (by decide) ?_
          refine R_goto (tgt := 44) dX4_away_40 (by decide) ?_
          refine R_icmp_ne (tgt := 50) dX4_away_44 (by decide) (fun c44 => ?_) (fun c44 => ?_)
          · refine R_aload_n dX4_away_50 rfl ?_
            refine R_get dX4_away_51 gf_X4_57 hC rfl ?_
            refine R_aload_n dX4_away_54 rfl ?_
            refine R_get dX4_away_55 gf_X4_48 hC rfl ?_
            refine R_callVv dX4_away_58 cv_X4_154 ⟨by decide, by decide⟩ (e_remember G hh ho hr hs nw hx hz (by omega)) ho rfl rfl rfl (Nat.le_of_ble_eq_true rfl) (fun hh hw => ?_)
            obtain ⟨ho, hr, hs, hF1⟩ := hw
            have hF := hF.t1 hF1 (by decide)
            have hC := hAt.fr hC hF1 (by omega)
            have nw := nw.fr hF1 (by omega)
            refine R_aload_n dX4_away_61 rfl ?_
            refine R_get dX4_away_62 gf_X4_48 hC rfl ?_
            refine R_dup dX4_away_65 rfl ?_
            refine R_get dX4_away_66 gf_X4_164 nw.1 rfl ?_
            refine R_iconst (v := 1) dX4_away_69 (by decide) ?_
            refine R_iload_n dX4_away_70 rfl ?_
            refine R_ishl dX4_away_71 ?_
            refine R_ixor dX4_away_72 ?_
            refine St_put9 dX4_away_73 pf_X4_164 nw (fun hh nw hF1 => ?_)
            have hF := hF.t1 hF1 (by decide)
            have hC := hAt.fr hC hF1 (by omega)
            have ho := HoAt.fr ho hF1 (by omega)
            have hr := HrAt.fr hr hF1 (by omega)
            have hs := HsAt.fr hs hF1 (by omega)
            refine R_iconst (v := 1) dX4_away_76 (by decide) ?_
            exact R_iret dX4_away_77 rfl (⟨_, rfl, by (have hE : erAway v n j s = none := by (unfold erAway; rw [if_pos (by rw [hv] at c8; simpa [bl] using c8), if_pos ⟨c15, c20⟩, if_pos (Classical.not_not.mp c36), if_neg c44])); (rw [hE]); exact ⟨rfl, nw, ho, hr, hs, hF⟩⟩)
          · refine R_bipush (v := (-4)) dX4_away_47 (by decide) ?_
            exact R_iret dX4_away_49 rfl (⟨_, rfl, by (have hE : erAway v n j s = some (-4) := by (unfold erAway; rw [if_pos (by rw [hv] at c8; simpa [bl] using c8), if_pos ⟨c15, c20⟩, if_pos (Classical.not_not.mp c36), if_pos (Classical.not_not.mp c44)])); (rw [hE]); exact ⟨rfl, rfl⟩⟩)
      · refine R_bipush (v := (-3)) dX4_away_23 (by decide) ?_
        exact R_iret dX4_away_25 rfl (⟨_, rfl, by (have hE : erAway v n j s = some (-3) := by (unfold erAway; rw [if_pos (by rw [hv] at c8; simpa [bl] using c8), if_neg (fun q => c20 q.2)])); (rw [hE]); exact ⟨rfl, rfl⟩⟩)
  · refine R_bipush (v := (-2)) dX4_away_11 (by decide) ?_
    exact R_iret dX4_away_13 rfl (⟨_, rfl, by (have hE : erAway v n j s = some (-2) := by (unfold erAway; rw [if_neg (by rw [hv] at c8; simpa [bl] using c8)])); (rw [hE]); exact ⟨rfl, rfl⟩⟩)
def erUndo (z : Nat) : Option Int32 := if 1 ≤ z then none else some (-4)
set_option maxRecDepth 4000 in
theorem w_undo (G : GG) (hh : HH)  {a : AA} {v : VV} {x z : Nat}  {A : Nat → AA} {W : Nat → VV} (hC : hAt G hh 0 (cwO G)) (nw : StAt G hh 32 a v) (ho : HoAt G hh 50 (nI x) (nI z)) (hx : x < 8) (hz : z ≤ 8) (hr : HrAt G hh 50) (hs : HsAt G hh 50 A W) : EVi G mX4_undo [.ref (ad G 0)] hh (fun w h1 => match erUndo z with | some e => w = e ∧ h1 = hh | none => w = nI (z - 1) ∧ StAt G h1 32 (va_up (A ((x + (z - 1)) % 8)) 7 (a 7)) (W ((x + (z - 1)) % 8)) ∧ HoAt G h1 50 (nI x) (nI (z - 1)) ∧ HrAt G h1 50 ∧ HsAt G h1 50 A W ∧ FrS [(32, 41), (50, 51)] hh h1) := by
  refine EV.of [(0, .ref (ad G 0))] (by decide +kernel) (Nat.le_of_ble_eq_true rfl) rfl ?_
  refine R_aload_n dX4_undo_0 rfl ?_
  refine R_get dX4_undo_1 gf_X4_57 hC rfl ?_
  refine R_get dX4_undo_4 gf_X4_167 ho rfl ?_
  refine R_iconst (v := 1) dX4_undo_7 (by decide) ?_
  refine R_icmp_ge (tgt := 14) dX4_undo_8 (by decide) (fun c8 => ?_) (fun c8 => ?_)
  · have hz1 : 1 ≤ z := (nI_leI (a := 1) (by omega) (by omega)).mp c8
    refine R_aload_n dX4_undo_14 rfl ?_
    refine R_get dX4_undo_15 gf_X4_57 hC rfl ?_
    refine R_aload_n dX4_undo_18 rfl ?_
    refine R_get dX4_undo_19 gf_X4_48 hC rfl ?_
    refine R_callVv dX4_undo_22 cv_X4_170 ⟨by decide, by decide⟩ (e_takeBack G hh ho hr hs nw hx hz (by omega) hz1) ho rfl rfl rfl (Nat.le_of_ble_eq_true rfl) (fun hh hw => ?_)
    obtain ⟨ho, hr, hs, nw, hF9⟩ := hw
    have hC : hAt G hh 0 (cwO G) := ⟨hC.1, (hF9 0 (by omega) (by omega)).trans hC.2⟩
    refine R_aload_n dX4_undo_25 rfl ?_
    refine R_get dX4_undo_26 gf_X4_57 hC rfl ?_
    refine R_get dX4_undo_29 gf_X4_167 ho rfl ?_
    exact R_iret dX4_undo_32 rfl (⟨_, rfl, by (have hE : erUndo z = none := by (unfold erUndo; rw [if_pos hz1])); (rw [hE]); exact ⟨rfl, nw, ho, hr, hs, fun i q => hF9 i (by have := q (50, 51) (by simp); have := q (32, 41) (by simp); omega) (by have := q (32, 41) (by simp); omega)⟩⟩)
  · refine R_bipush (v := (-4)) dX4_undo_11 (by decide) ?_
    exact R_iret dX4_undo_13 rfl (⟨_, rfl, by (have hE : erUndo z = some (-4) := by (unfold erUndo; rw [if_neg (fun q => c8 (nI_le (a := 1) q (by omega)))])); (rw [hE]); exact ⟨rfl, rfl⟩⟩)
def erKeep (k : Int32) : Option Int32 := if ¬ k < 0 ∧ k < 2 then none else some (-2)
def erBack (kb : Nat → Bool) (k : Int32) : Option Int32 := if ¬ k < 0 ∧ k < 2 then if kb k.toNatClampNeg = true then none else some (-4) else some (-2)
set_option maxRecDepth 4000 in
theorem w_keep (G : GG) (hh : HH)  {a : AA} {v : VV}  {A2 : Nat → AA} {W2 : Nat → VV} {kb : Nat → Bool} (hC : hAt G hh 0 (cwO G)) (nw : StAt G hh 32 a v) (kp : hAt G hh 124 (eS G 2 (fun i => some (ad G (125 + 9 * i))))) (kf : ∀ i, i < 2 → StAt G hh (125 + 9 * i) (A2 i) (W2 i)) (ik : hAt G hh 143 (eZ G 2 (fun i => bl (kb i)))) (k : Int32) : EVi G mX4_keep [.ref (ad G 0), .int k] hh (fun w h1 => match erKeep k with | some e => w = e ∧ h1 = hh | none => w = v 14 ∧ (∀ i, i < 2 → StAt G h1 (125 + 9 * i) (va_up A2 k.toNatClampNeg (va_up a 7 (A2 k.toNatClampNeg 7)) i) (va_up W2 k.toNatClampNeg v i)) ∧ hAt G h1 143 (eZ G 2 (fun i => bl (va_up kb k.toNatClampNeg true i))) ∧ FrS [(125, 144)] hh h1) := by
  refine EV.of [(0, .ref (ad G 0)), (1, .int k)] (by decide +kernel) (Nat.le_of_ble_eq_true rfl) rfl ?_
  have hF : FrS [(125, 144)] hh hh := FrS.rf
  refine R_iload_n dX4_keep_0 rfl ?_
  refine R_if_lt (tgt := 9) dX4_keep_1 (by decide) (fun c1 => ?_) (fun c1 => ?_)
  · refine R_bipush (v := (-2)) dX4_keep_9 (by decide) ?_
    exact R_iret dX4_keep_11 rfl (⟨_, rfl, by (have hE : erKeep k = some (-2) := by (unfold erKeep; rw [if_neg (fun q => q.1 c1)])); (rw [hE]); exact ⟨rfl, rfl⟩⟩)
  · refine R_iload_n dX4_keep_4 rfl ?_
    refine R_iconst (v := 2) dX4_keep_5 (by decide) ?_
    refine R_icmp_lt (tgt := 12) dX4_keep_6 (by decide) (fun c6 => ?_) (fun c6 => ?_)
    · obtain ⟨i, hi, rfl⟩ := ix_in (n := 2) (by decide) c1 c6
      have si := kf i hi
      have ec : (nI i).toNatClampNeg = i := nI_clamp (by omega)
      refine R_aload_n dX4_keep_12 rfl ?_
      refine R_get dX4_keep_13 gf_X4_61 hC rfl ?_
      refine R_iload_n dX4_keep_16 rfl ?_
      refine R_aldS (q := ad G (125 + 9 * i)) dX4_keep_17 kp (vp_in_nI (show i < 2 by omega) (by decide)) (by rw [nI_clamp (by omega)]) ?_
      refine R_aload_n dX4_keep_18 rfl ?_
      refine R_get dX4_keep_19 gf_X4_48 hC rfl ?_
      refine R_callVv dX4_keep_22 cv_X4_84 ⟨by decide, by decide⟩ (e_copyFrom G hh si nw (by omega)) si.1 rfl rfl rfl (Nat.le_of_ble_eq_true rfl) (fun hh hw => ?_)
      obtain ⟨si, hF1⟩ := hw
      have hF := hF.t1 hF1 ⟨(125, 144), by simp, by omega, by omega⟩
      have hC := hAt.fr hC hF1 (by omega)
      have nw := nw.fr hF1 (by omega)
      have ik := hAt.fr ik hF1 (by omega)
      have kp := hAt.fr kp hF1 (by omega)
      have kf : ∀ j, j < 2 → StAt G hh (125 + 9 * j) (va_up A2 i (va_up a 7 (A2 i 7)) j) (va_up W2 i v j) := by
        intro j hj
        by_cases e : j = i
        · rw [e, show va_up A2 i (va_up a 7 (A2 i 7)) i = _ from if_pos rfl, show va_up W2 i v i = _ from if_pos rfl]; exact si
        · rw [show va_up A2 i (va_up a 7 (A2 i 7)) j = A2 j from if_neg e, show va_up W2 i v j = W2 j from if_neg e]; exact (kf j hj).fr hF1 (by omega)
      refine R_aload_n dX4_keep_25 rfl ?_
      refine R_get dX4_keep_26 gf_X4_65 hC rfl ?_
      refine R_iload_n dX4_keep_29 rfl ?_
      refine R_iconst (v := 1) dX4_keep_30 (by decide) ?_
      refine Zr_ast (c := true) dX4_keep_31 ik (by omega) (by decide) rfl (fun hh ik hF1 => ?_)
      have hF := hF.t1 hF1 (by decide)
      have hC := hAt.fr hC hF1 (by omega)
      have nw := nw.fr hF1 (by omega)
      have kp := hAt.fr kp hF1 (by omega)
      have kf := fun i hi => (kf i hi).fr hF1 (by omega)
      refine R_aload_n dX4_keep_32 rfl ?_
      refine R_get dX4_keep_33 gf_X4_48 hC rfl ?_
      refine R_get dX4_keep_36 gf_X4_138 nw.1 rfl ?_
      exact R_iret dX4_keep_39 rfl (⟨_, rfl, by (have hE : erKeep (nI i) = none := by (unfold erKeep; rw [if_pos ⟨c1, c6⟩])); (rw [hE]); exact ⟨rfl, by simp only [ec]; exact kf, by simp only [ec]; exact ik, hF⟩⟩)
    · refine R_bipush (v := (-2)) dX4_keep_9 (by decide) ?_
      exact R_iret dX4_keep_11 rfl (⟨_, rfl, by (have hE : erKeep k = some (-2) := by (unfold erKeep; rw [if_neg (fun q => c6 q.2)])); (rw [hE]); exact ⟨rfl, rfl⟩⟩)
set_option maxRecDepth 4000 in
theorem w_back (G : GG) (hh : HH)  {a : AA} {v : VV}  {A2 : Nat → AA} {W2 : Nat → VV} {kb : Nat → Bool} {x z : Nat} (hC : hAt G hh 0 (cwO G)) (nw : StAt G hh 32 a v) (kp : hAt G hh 124 (eS G 2 (fun i => some (ad G (125 + 9 * i))))) (kf : ∀ i, i < 2 → StAt G hh (125 + 9 * i) (A2 i) (W2 i)) (ik : hAt G hh 143 (eZ G 2 (fun i => bl (kb i)))) (ho : HoAt G hh 50 (nI x) (nI z)) (hx : x < 8) (hz : z ≤ 8) (k : Int32) : EVi G mX4_back [.ref (ad G 0), .int k] hh (fun w h1 => match erBack kb k with | some e => w = e ∧ h1 = hh | none => w = W2 k.toNatClampNeg 14 ∧ StAt G h1 32 (va_up (A2 k.toNatClampNeg) 7 (a 7)) (W2 k.toNatClampNeg) ∧ HoAt G h1 50 (nI x) 0 ∧ FrS [(32, 41), (50, 51)] hh h1) := by
  refine EV.of [(0, .ref (ad G 0)), (1, .int k)] (by decide +kernel) (Nat.le_of_ble_eq_true rfl) rfl ?_
  have hF : FrS [(32, 41), (50, 51)] hh hh := FrS.rf
  refine R_iload_n dX4_back_0 rfl ?_
  refine R_if_lt (tgt := 9) dX4_back_1 (by decide) (fun c1 => ?_) (fun c1 => ?_)
  · refine R_bipush (v := (-2)) dX4_back_9 (by decide) ?_
    exact R_iret dX4_back_11 rfl (⟨_, rfl, by (have hE : erBack kb k = some (-2) := by (unfold erBack; rw [if_neg (fun q => q.1 c1)])); (rw [hE]); exact ⟨rfl, rfl⟩⟩)
  · refine R_iload_n dX4_back_4 rfl ?_
    refine R_iconst (v := 2) dX4_back_5 (by decide) ?_
    refine R_icmp_lt (tgt := 12) dX4_back_6 (by decide) (fun c6 => ?_) (fun c6 => ?_)
    · obtain ⟨i, hi, rfl⟩ := ix_in (n := 2) (by decide) c1 c6
      have si := kf i hi
      have ec : (nI i).toNatClampNeg = i := nI_clamp (by omega)
      refine R_aload_n dX4_back_12 rfl ?_
      refine R_get dX4_back_13 gf_X4_65 hC rfl ?_
      refine R_iload_n dX4_back_16 rfl ?_
      refine R_zaldN dX4_back_17 ik (by omega) (by decide) ?_
      refine R_if_ne (tgt := 24) dX4_back_18 (by decide) (fun c18 => ?_) (fun c18 => ?_)
      · refine R_aload_n dX4_back_24 rfl ?_
        refine R_get dX4_back_25 gf_X4_48 hC rfl ?_
        refine R_aload_n dX4_back_28 rfl ?_
        refine R_get dX4_back_29 gf_X4_61 hC rfl ?_
        refine R_iload_n dX4_back_32 rfl ?_
        refine R_aldS (q := ad G (125 + 9 * i)) dX4_back_33 kp (vp_in_nI (show i < 2 by omega) (by decide)) (by rw [nI_clamp (by omega)]) ?_
        refine R_callVv dX4_back_34 cv_X4_84 ⟨by decide, by decide⟩ (e_copyFrom G hh nw si (by omega)) nw.1 rfl rfl rfl (Nat.le_of_ble_eq_true rfl) (fun hh hw => ?_)
        obtain ⟨nw, hF1⟩ := hw
        have hF := hF.t1 hF1 (by decide)
        have hC := hAt.fr hC hF1 (by omega)
        have ho := HoAt.fr ho hF1 (by omega)
        refine R_aload_n dX4_back_37 rfl ?_
        refine R_get dX4_back_38 gf_X4_57 hC rfl ?_
        refine R_callVv dX4_back_41 cv_X4_88 ⟨by decide, by decide⟩ (e_forget G hh ho) ho rfl rfl rfl (Nat.le_of_ble_eq_true rfl) (fun hh hw => ?_)
        obtain ⟨ho, hF1⟩ := hw
        have hF := hF.t1 hF1 (by decide)
        have hC := hAt.fr hC hF1 (by omega)
        have nw := nw.fr hF1 (by omega)
        refine R_aload_n dX4_back_44 rfl ?_
        refine R_get dX4_back_45 gf_X4_48 hC rfl ?_
        refine R_get dX4_back_48 gf_X4_138 nw.1 rfl ?_
        exact R_iret dX4_back_51 rfl (⟨_, rfl, by (have hE : erBack kb (nI i) = none := by (unfold erBack; simp only [ec]; rw [if_pos ⟨c1, c6⟩, if_pos (bl_t c18)])); (rw [hE]); exact ⟨by simp only [ec], by simp only [ec]; exact nw, ho, hF⟩⟩)
      · refine R_bipush (v := (-4)) dX4_back_21 (by decide) ?_
        exact R_iret dX4_back_23 rfl (⟨_, rfl, by (have hE : erBack kb (nI i) = some (-4) := by (unfold erBack; simp only [ec]; rw [if_pos ⟨c1, c6⟩, if_neg (bl_n c18)])); (rw [hE]); exact ⟨rfl, rfl⟩⟩)
    · refine R_bipush (v := (-2)) dX4_back_9 (by decide) ?_
      exact R_iret dX4_back_11 rfl (⟨_, rfl, by (have hE : erBack kb k = some (-2) := by (unfold erBack; rw [if_neg (fun q => c6 q.2)])); (rw [hE]); exact ⟨rfl, rfl⟩⟩)
def anOdds (a : AA) (v : VV) (n : Nat) (j s p q : Int32) : Int32 :=
  if 0 ≤ j ∧ j < nI n then if (0 ≤ s ∧ s < 5) ∧ (0 ≤ p ∧ p < 10) ∧ ¬ q < 0 ∧ q ≤ 1 then if anyFor a v p (-1) 0 n = true then
    if fre a v j.toNatClampNeg p = true then
      nI ((if q = 0 then (wt a v j.toNatClampNeg s).toNatClampNeg else (foldS (wtF a v s p) 0 n 0).toNatClampNeg) / Nat.gcd (wt a v j.toNatClampNeg s).toNatClampNeg (foldS (wtF a v s p) 0 n 0).toNatClampNeg)
    else q else -4 else -3 else -2
set_option maxRecDepth 4000 in
theorem w_odds (G : GG) (hh : HH)  {a : AA} {v : VV} (hC : hAt G hh 0 (cwO G)) (nw : StAt G hh 32 a v) {n : Nat} (hn : n ≤ 6) (hv : v 8 = nI n) (j s p q : Int32) (hW : ∀ i, i < n → ¬ hasB (v 9) (nI i) = true → ∃ A, 1 ≤ A ∧ A < 1000 ∧ wt a v i s = nI A) (hB : ∃ B, B < 1000 ∧ foldS (wtF a v s p) 0 n 0 = nI B) : EVp G mX4_odds [.ref (ad G 0), .int j, .int s, .int p, .int q] hh (anOdds a v n j s p q) := by
  refine EV.of [(0, .ref (ad G 0)), (1, .int j), (2, .int s), (3, .int p), (4, .int q)] (by decide +kernel) (Nat.le_of_ble_eq_true rfl) rfl ?_
  refine R_aload_n dX4_odds_0 rfl ?_
  refine R_get dX4_odds_1 gf_X4_48 hC rfl ?_
  refine R_iload_n dX4_odds_4 rfl ?_
  refine R_callVp dX4_odds_5 cv_X4_100 ⟨by decide, by decide⟩ (e_hasJudge G hh nw j) nw.1 rfl rfl rfl (Nat.le_of_ble_eq_true rfl) ?_
  refine R_if_ne (tgt := 14) dX4_odds_8 (by decide) (fun c8 => ?_) (fun c8 => ?_)
  · have hj : 0 ≤ j ∧ j < nI n := by rw [hv] at c8; simpa [bl] using c8
    obtain ⟨i, hi, rfl⟩ := ix_in (n := n) (by omega) (Int32.not_lt.mpr hj.1) hj.2
    have ec : (nI i).toNatClampNeg = i := nI_clamp (by omega)
    refine R_iload_n dX4_odds_14 rfl ?_
    refine R_callSp dX4_odds_15 cs_X4_144 ⟨by decide, by decide⟩ (e_isSubject G hh s) rfl rfl (Nat.le_of_ble_eq_true rfl) ?_
    refine R_if_eq (tgt := 39) dX4_odds_18 (by decide) (fun c18 => ?_) (fun c18 => ?_)
    · refine R_bipush (v := (-3)) dX4_odds_39 (by decide) ?_
      exact R_iret dX4_odds_41 rfl (⟨_, rfl, by (unfold anOdds; rw [if_pos hj, if_neg (by rintro ⟨q1, q2, q3, q4⟩; revert c18; simp [bl, q1])]), rfl⟩)
    · refine R_iload_n dX4_odds_21 rfl ?_
      refine R_callSp dX4_odds_22 cs_X4_147 ⟨by decide, by decide⟩ (e_isParty G hh p) rfl rfl (Nat.le_of_ble_eq_true rfl) ?_
      refine R_if_eq (tgt := 39) dX4_odds_25 (by decide) (fun c25 => ?_) (fun c25 => ?_)
      · refine R_bipush (v := (-3)) dX4_odds_39 (by decide) ?_
        exact R_iret dX4_odds_41 rfl (⟨_, rfl, by (unfold anOdds; rw [if_pos hj, if_neg (by rintro ⟨q1, q2, q3, q4⟩; revert c25; simp [bl, q2])]), rfl⟩)
      · refine R_iload dX4_odds_28 rfl ?_
        refine R_if_lt (tgt := 39) dX4_odds_30 (by decide) (fun c30 => ?_) (fun c30 => ?_)
        · refine R_bipush (v := (-3)) dX4_odds_39 (by decide) ?_
          exact R_iret dX4_odds_41 rfl (⟨_, rfl, by (unfold anOdds; rw [if_pos hj, if_neg (by rintro ⟨q1, q2, q3, q4⟩; exact q3 c30)]), rfl⟩)
        · refine R_iload dX4_odds_33 rfl ?_
          refine R_iconst (v := 1) dX4_odds_35 (by decide) ?_
          refine R_icmp_le (tgt := 42) dX4_odds_36 (by decide) (fun c36 => ?_) (fun c36 => ?_)
          · refine R_aload_n dX4_odds_42 rfl ?_
            refine R_get dX4_odds_43 gf_X4_48 hC rfl ?_
            refine R_iload_n dX4_odds_46 rfl ?_
            refine R_iconst (v := (-1)) dX4_odds_47 (by decide) ?_
            refine R_callVp dX4_odds_48 cv_X4_150 ⟨by decide, by decide⟩ (e_hasSomeoneFor G hh nw hn hv p (-1)) nw.1 rfl rfl rfl (Nat.le_of_ble_eq_true rfl) ?_
            refine R_if_ne (tgt := 57) dX4_odds_51 (by decide) (fun c51 => ?_) (fun c51 => ?_)
            · refine R_aload_n dX4_odds_57 rfl ?_
              refine R_get dX4_odds_58 gf_X4_48 hC rfl ?_
              refine R_iload_n dX4_odds_61 rfl ?_
              refine R_iload_n dX4_odds_62 rfl ?_
              refine R_callVp dX4_odds_63 cv_X4_186 ⟨by decide, by decide⟩ (e_fre G hh nw i p (by omega)) nw.1 rfl rfl rfl (Nat.le_of_ble_eq_true rfl) ?_
              refine R_if_ne (tgt := 72) dX4_odds_66 (by decide) (fun c66 => ?_) (fun c66 => ?_)
              · have hfr : fre a v i p = true := bl_t c66
                obtain ⟨A, hA1, hA2, eA⟩ := hW i hi (by (have q := hfr; simp only [fre, Bool.and_eq_true, Bool.not_eq_true'] at q; rw [q.1]; decide))
                obtain ⟨B, hB2, eB⟩ := hB
                have hgl := Nat.gcd_le_left B hA1
                refine R_aload_n dX4_odds_72 rfl ?_
                refine R_get dX4_odds_73 gf_X4_48 hC rfl ?_
                refine R_iload_n dX4_odds_76 rfl ?_
                refine R_iload_n dX4_odds_77 rfl ?_
                refine R_callVp dX4_odds_78 cv_X4_183 ⟨by decide, by decide⟩ (e_weightOf G hh nw i (by omega) s) nw.1 rfl rfl rfl (Nat.le_of_ble_eq_true rfl) ?_
                refine RR.top (y := nI A) eA ?_
                refine R_istore dX4_odds_81 (by decide) ?_
                refine R_aload_n dX4_odds_83 rfl ?_
                refine R_get dX4_odds_84 gf_X4_48 hC rfl ?_
                refine R_iload_n dX4_odds_87 rfl ?_
                refine R_iload_n dX4_odds_88 rfl ?_
                refine R_callVp dX4_odds_89 cv_X4_189 ⟨by decide, by decide⟩ (e_weightsFree G hh nw hn hv s p) nw.1 rfl rfl rfl (Nat.le_of_ble_eq_true rfl) ?_
                refine RR.top (y := nI B) eB ?_
                refine R_istore dX4_odds_92 (by decide) ?_
                refine R_iload dX4_odds_94 rfl ?_
                refine R_iload dX4_odds_96 rfl ?_
                refine R_callSp dX4_odds_98 cs_X4_192 ⟨by decide, by decide⟩ (w_gcd G hh A B hA1 hA2 hB2) rfl rfl (Nat.le_of_ble_eq_true rfl) ?_
                refine R_istore dX4_odds_101 (by decide) ?_
                refine R_iload dX4_odds_103 rfl ?_
                refine R_if_ne (tgt := 113) dX4_odds_105 (by decide) (fun c105 => ?_) (fun c105 => ?_)
                · refine R_iload dX4_odds_113 rfl ?_
                  refine R_iload dX4_odds_115 rfl ?_
                  refine R_idiv dX4_odds_117 (nI_ne0 (Nat.gcd_pos_of_pos_left _ hA1) (by omega)) ?_
                  exact R_iret dX4_odds_118 rfl (⟨_, rfl, by (unfold anOdds; simp only [ec]; rw [if_pos hj, if_pos ⟨by simpa [bl] using c18, by simpa [bl] using c25, c30, c36⟩, if_pos (bl_t c51), if_pos (bl_t c66), if_neg c105, eA, eB, nI_clamp (by omega), nI_clamp (by omega)]; exact pk_div (by omega) (Nat.gcd_pos_of_pos_left _ hA1) (by omega)), rfl⟩)
                · refine R_iload dX4_odds_108 rfl ?_
                  refine R_goto (tgt := 115) dX4_odds_110 (by decide) ?_
                  refine R_iload dX4_odds_115 rfl ?_
                  refine R_idiv dX4_odds_117 (nI_ne0 (Nat.gcd_pos_of_pos_left _ hA1) (by omega)) ?_
                  exact R_iret dX4_odds_118 rfl (⟨_, rfl, by (unfold anOdds; simp only [ec]; rw [if_pos hj, if_pos ⟨by simpa [bl] using c18, by simpa [bl] using c25, c30, c36⟩, if_pos (bl_t c51), if_pos (bl_t c66), if_pos (Classical.not_not.mp c105), eA, eB, nI_clamp (by omega), nI_clamp (by omega)]; exact pk_div (by omega) (Nat.gcd_pos_of_pos_left _ hA1) (by omega)), rfl⟩)
              · refine R_iload dX4_odds_69 rfl ?_
                exact R_iret dX4_odds_71 rfl (⟨_, rfl, by (unfold anOdds; simp only [ec]; rw [if_pos hj, if_pos ⟨by simpa [bl] using c18, by simpa [bl] using c25, c30, c36⟩, if_pos (bl_t c51), if_neg (bl_n c66)]), rfl⟩)
            · refine R_bipush (v := (-4)) dX4_odds_54 (by decide) ?_
              exact R_iret dX4_odds_56 rfl (⟨_, rfl, by (unfold anOdds; rw [if_pos hj, if_pos ⟨by simpa [bl] using c18, by simpa [bl] using c25, c30, c36⟩, if_neg (bl_n c51)]), rfl⟩)
          · refine R_bipush (v := (-3)) dX4_odds_39 (by decide) ?_
            exact R_iret dX4_odds_41 rfl (⟨_, rfl, by (unfold anOdds; rw [if_pos hj, if_neg (by rintro ⟨q1, q2, q3, q4⟩; exact c36 q4)]), rfl⟩)
  · refine R_bipush (v := (-2)) dX4_odds_11 (by decide) ?_
    exact R_iret dX4_odds_13 rfl (⟨_, rfl, by (unfold anOdds; rw [if_neg (by rw [hv] at c8; simpa [bl] using c8)]), rfl⟩)
def anTold (v : VV) (wl z tL : Nat) (sl : Int32) (w : Int32) : Int32 :=
  if w = 0 then v 8 else if w = 1 then v 14 else if w = 2 then v 13 else if w = 3 then v 10 else if w = 4 then nI wl else if w = 5 then v 9 else if w = 6 then nI z else if w = 7 then nI tL else if w = 8 then sl else if w = 9 then v 11 else -3
set_option maxRecDepth 4000 in
theorem w_told (G : GG) (hh : HH)  {a : AA} {v : VV} {df : Nat → Int32} {dL : Nat}  {b : Nat → Bool} {lf : Nat → Nat → Int32} {lL : Nat → Nat} {x z : Nat} {tf : Nat → Int32} {tL : Nat} (hC : hAt G hh 0 (cwO G)) (nw : StAt G hh 32 a v) (dk : LeAt G hh 3 130 df (nI dL)) (hdL : dL ≤ 130) (sl : hAt G hh 5 (eL G 3 (fun i => some (ad G (6 + 2 * i))))) (th : hAt G hh 12 (eZ G 3 (fun i => bl (b i)))) (sf : ∀ i, i < 3 → LeAt G hh (6 + 2 * i) 40 (lf i) (nI (lL i))) (hlL : ∀ i, i < 3 → lL i ≤ 40) (ho : HoAt G hh 50 (nI x) (nI z)) (hx : x < 8) (hz : z ≤ 8) (t : LeAt G hh 1 200 tf (nI tL)) (htL : tL ≤ 200) {m : Nat} (hm : m ≤ 20) (hc : v 14 = nI m) (w : Int32) : EVi G mX4_told [.ref (ad G 0), .int w] hh (fun y h1 => y = anTold v (wrl a m).length z tL (foldS (slL b lL) 0 3 0) w ∧ (h1 = hh ∨ ((∃ f, LeAt G h1 3 130 f (nI (wrl a m).length) ∧ pref f (wrl a m)) ∧ Fr 3 5 hh h1))) := by
  refine EV.of [(0, .ref (ad G 0)), (1, .int w)] (by decide +kernel) (Nat.le_of_ble_eq_true rfl) rfl ?_
  refine R_iload_n dX4_told_0 rfl ?_
  by_cases q1 : w.toInt < 0 ∨ 9 < w.toInt
  · refine R_tabOut (tgt := 130) dX4_told_1 q1 (by decide) ?_
    refine R_bipush (v := (-3)) dX4_told_130 (by decide) ?_
    exact R_iret dX4_told_132 rfl (⟨_, rfl, by rw [anTold, if_neg (by rintro rfl; revert q1; decide), if_neg (by rintro rfl; revert q1; decide), if_neg (by rintro rfl; revert q1; decide), if_neg (by rintro rfl; revert q1; decide), if_neg (by rintro rfl; revert q1; decide), if_neg (by rintro rfl; revert q1; decide), if_neg (by rintro rfl; revert q1; decide), if_neg (by rintro rfl; revert q1; decide), if_neg (by rintro rfl; revert q1; decide), if_neg (by rintro rfl; revert q1; decide)], Or.inl rfl⟩)
  · rcases (show w = 0 ∨ w = 1 ∨ w = 2 ∨ w = 3 ∨ w = 4 ∨ w = 5 ∨ w = 6 ∨ w = 7 ∨ w = 8 ∨ w = 9 from sw_10_0 w q1) with e1 | e1 | e1 | e1 | e1 | e1 | e1 | e1 | e1 | e1
    · refine R_tabIn (tgt := 56) (off := 55) dX4_told_1 (by rw [e1]; decide) (by rw [e1]; decide) (by rw [e1]; rfl) (by decide) ?_
      refine R_aload_n dX4_told_56 rfl ?_
      refine R_get dX4_told_57 gf_X4_48 hC rfl ?_
      refine R_get dX4_told_60 gf_X4_231 nw.1 rfl ?_
      exact R_iret dX4_told_63 rfl (⟨_, rfl, by subst e1; simp [anTold], Or.inl rfl⟩)
    · refine R_tabIn (tgt := 64) (off := 63) dX4_told_1 (by rw [e1]; decide) (by rw [e1]; decide) (by rw [e1]; rfl) (by decide) ?_
      refine R_aload_n dX4_told_64 rfl ?_
      refine R_get dX4_told_65 gf_X4_48 hC rfl ?_
      refine R_get dX4_told_68 gf_X4_138 nw.1 rfl ?_
      exact R_iret dX4_told_71 rfl (⟨_, rfl, by subst e1; simp [anTold], Or.inl rfl⟩)
    · refine R_tabIn (tgt := 72) (off := 71) dX4_told_1 (by rw [e1]; decide) (by rw [e1]; decide) (by rw [e1]; rfl) (by decide) ?_
      refine R_aload_n dX4_told_72 rfl ?_
      refine R_get dX4_told_73 gf_X4_48 hC rfl ?_
      refine R_get dX4_told_76 gf_X4_205 nw.1 rfl ?_
      exact R_iret dX4_told_79 rfl (⟨_, rfl, by subst e1; simp [anTold], Or.inl rfl⟩)
    · refine R_tabIn (tgt := 80) (off := 79) dX4_told_1 (by rw [e1]; decide) (by rw [e1]; decide) (by rw [e1]; rfl) (by decide) ?_
      refine R_aload_n dX4_told_80 rfl ?_
      refine R_get dX4_told_81 gf_X4_48 hC rfl ?_
      refine R_get dX4_told_84 gf_X4_234 nw.1 rfl ?_
      exact R_iret dX4_told_87 rfl (⟨_, rfl, by subst e1; simp [anTold], Or.inl rfl⟩)
    · refine R_tabIn (tgt := 88) (off := 87) dX4_told_1 (by rw [e1]; decide) (by rw [e1]; decide) (by rw [e1]; rfl) (by decide) ?_
      refine R_aload_n dX4_told_88 rfl ?_
      refine R_callVi dX4_told_89 cv_X4_237 ⟨by decide, by decide⟩ (w_lettersOfWriting G hh hC nw dk hdL hm hc) hC rfl rfl rfl (Nat.le_of_ble_eq_true rfl) (fun y hh1 hw => ?_)
      obtain ⟨rfl, hD⟩ := hw
      exact R_iret dX4_told_92 rfl (⟨_, rfl, by subst e1; simp [anTold], Or.inr hD⟩)
    · refine R_tabIn (tgt := 93) (off := 92) dX4_told_1 (by rw [e1]; decide) (by rw [e1]; decide) (by rw [e1]; rfl) (by decide) ?_
      refine R_aload_n dX4_told_93 rfl ?_
      refine R_get dX4_told_94 gf_X4_48 hC rfl ?_
      refine R_get dX4_told_97 gf_X4_164 nw.1 rfl ?_
      exact R_iret dX4_told_100 rfl (⟨_, rfl, by subst e1; simp [anTold], Or.inl rfl⟩)
    · refine R_tabIn (tgt := 101) (off := 100) dX4_told_1 (by rw [e1]; decide) (by rw [e1]; decide) (by rw [e1]; rfl) (by decide) ?_
      refine R_aload_n dX4_told_101 rfl ?_
      refine R_get dX4_told_102 gf_X4_57 hC rfl ?_
      refine R_get dX4_told_105 gf_X4_167 ho rfl ?_
      exact R_iret dX4_told_108 rfl (⟨_, rfl, by subst e1; simp [anTold], Or.inl rfl⟩)
    · refine R_tabIn (tgt := 109) (off := 108) dX4_told_1 (by rw [e1]; decide) (by rw [e1]; decide) (by rw [e1]; rfl) (by decide) ?_
      refine R_aload_n dX4_told_109 rfl ?_
      refine R_get dX4_told_110 gf_X4_14 hC rfl ?_
      refine R_get dX4_told_113 gf_X4_72 t.1 rfl ?_
      exact R_iret dX4_told_116 rfl (⟨_, rfl, by subst e1; simp [anTold], Or.inl rfl⟩)
    · refine R_tabIn (tgt := 117) (off := 116) dX4_told_1 (by rw [e1]; decide) (by rw [e1]; decide) (by rw [e1]; rfl) (by decide) ?_
      refine R_aload_n dX4_told_117 rfl ?_
      refine R_callVp dX4_told_118 cv_X4_240 ⟨by decide, by decide⟩ (w_lettersOfSlips G hh hC sl th sf hlL) hC rfl rfl rfl (Nat.le_of_ble_eq_true rfl) ?_
      exact R_iret dX4_told_121 rfl (⟨_, rfl, by subst e1; simp [anTold], Or.inl rfl⟩)
    · refine R_tabIn (tgt := 122) (off := 121) dX4_told_1 (by rw [e1]; decide) (by rw [e1]; decide) (by rw [e1]; rfl) (by decide) ?_
      refine R_aload_n dX4_told_122 rfl ?_
      refine R_get dX4_told_123 gf_X4_48 hC rfl ?_
      refine R_get dX4_told_126 gf_X4_243 nw.1 rfl ?_
      exact R_iret dX4_told_129 rfl (⟨_, rfl, by subst e1; simp [anTold], Or.inl rfl⟩)
