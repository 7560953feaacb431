def erCut (b : Nat → Bool) (lL : Nat → Nat) (t y u : Int32) : Option Int32 :=
  if 0 ≤ t ∧ t < 3 then if b t.toNatClampNeg = true then if ¬ y < 0 ∧ ¬ u < y ∧ u ≤ nI (lL t.toNatClampNeg) then none else some (-12) else some (-11) else some (-2)
set_option maxRecDepth 4000 in
theorem w_cut (G : GG) (hh : HH)   {b : Nat → Bool} {lf : Nat → Nat → Int32} {lL : Nat → Nat} (hC : hAt G hh 0 (cwO G)) (sl : hAt G hh 5 (eL G 3 (fun i => some (ad G (6 + 2 * i))))) (th : hAt G hh 12 (eZ G 3 (fun i => bl (b i)))) (sf : ∀ i, i < 3 → LeAt G hh (6 + 2 * i) 40 (lf i) (nI (lL i))) (hlL : ∀ i, i < 3 → lL i ≤ 40) (t y u : Int32) : EVi G mX4_cut [.ref (ad G 0), .int t, .int y, .int u] hh (fun w h1 => match erCut b lL t y u with | some e => w = e ∧ h1 = hh | none => w = nI (lL t.toNatClampNeg - (u.toNatClampNeg - y.toNatClampNeg)) ∧ (∀ i, i < 3 → LeAt G h1 (6 + 2 * i) 40 (va_up lf t.toNatClampNeg (va_cpy (lf t.toNatClampNeg) (lf t.toNatClampNeg) u.toNatClampNeg y.toNatClampNeg (lL t.toNatClampNeg - u.toNatClampNeg)) i) (nI (va_up lL t.toNatClampNeg (lL t.toNatClampNeg - (u.toNatClampNeg - y.toNatClampNeg)) i))) ∧ hAt G h1 12 (eZ G 3 (fun i => bl (b i))) ∧ FrS [(6, 13)] hh h1) := by
  refine EV.of [(0, .ref (ad G 0)), (1, .int t), (2, .int y), (3, .int u)] (by decide +kernel) (Nat.le_of_ble_eq_true rfl) rfl ?_
  have hF : FrS [(6, 13)] hh hh := FrS.rf
  refine R_iload_n dX4_cut_0 rfl ?_
  refine R_callSp dX4_cut_1 cs_X4_208 ⟨by decide, by decide⟩ (e_isSlip G hh t) rfl rfl (Nat.le_of_ble_eq_true rfl) ?_
  refine R_if_ne (tgt := 10) dX4_cut_4 (by decide) (fun c4 => ?_) (fun c4 => ?_)
  · have hs3 : 0 ≤ t ∧ t < 3 := by simpa [bl] using c4
    obtain ⟨i, hi, rfl⟩ := ix_in (n := 3) (by decide) (Int32.not_lt.mpr hs3.1) hs3.2
    have si := sf i hi
    have hsL := hlL i hi
    have ec : (nI i).toNatClampNeg = i := nI_clamp (by omega)
    refine R_aload_n dX4_cut_10 rfl ?_
    refine R_get dX4_cut_11 gf_X4_25 hC rfl ?_
    refine R_iload_n dX4_cut_14 rfl ?_
    refine R_zaldN dX4_cut_15 th (by omega) (by decide) ?_
    refine R_if_ne (tgt := 22) dX4_cut_16 (by decide) (fun c16 => ?_) (fun c16 => ?_)
    · refine R_iload_n dX4_cut_22 rfl ?_
      refine R_if_lt (tgt := 44) dX4_cut_23 (by decide) (fun c23 => ?_) (fun c23 => ?_)
      · refine R_bipush (v := (-12)) dX4_cut_44 (by decide) ?_
        exact R_iret dX4_cut_46 rfl (⟨_, rfl, by (have hE : erCut b lL (nI i) y u = some (-12) := by (unfold erCut; simp only [ec]; rw [if_pos hs3, if_pos (bl_t c16), if_neg (fun q => q.1 c23)])); (rw [hE]); exact ⟨rfl, rfl⟩⟩)
      · refine R_iload_n dX4_cut_26 rfl ?_
        refine R_iload_n dX4_cut_27 rfl ?_
        refine R_icmp_lt (tgt := 44) dX4_cut_28 (by decide) (fun c28 => ?_) (fun c28 => ?_)
        · refine R_bipush (v := (-12)) dX4_cut_44 (by decide) ?_
          exact R_iret dX4_cut_46 rfl (⟨_, rfl, by (have hE : erCut b lL (nI i) y u = some (-12) := by (unfold erCut; simp only [ec]; rw [if_pos hs3, if_pos (bl_t c16), if_neg (fun q => q.2.1 c28)])); (rw [hE]); exact ⟨rfl, rfl⟩⟩)
        · refine R_iload_n dX4_cut_31 rfl ?_
          refine R_aload_n dX4_cut_32 rfl ?_
          refine R_get dX4_cut_33 gf_X4_21 hC rfl ?_
          refine R_iload_n dX4_cut_36 rfl ?_
          refine R_aldL (q := ad G (6 + 2 * i)) dX4_cut_37 sl (vp_in_nI (show i < 3 by omega) (by decide)) (by rw [nI_clamp (by omega)]) ?_
          refine R_get dX4_cut_38 gf_X4_72 si.1 rfl ?_
          refine R_icmp_le (tgt := 47) dX4_cut_41 (by decide) (fun c41 => ?_) (fun c41 => ?_)
          · have hE : erCut b lL (nI i) y u = none := by (unfold erCut; simp only [ec]; rw [if_pos hs3, if_pos (bl_t c16), if_pos ⟨c23, c28, c41⟩])
            obtain ⟨u, hu, rfl⟩ := nI_of2 (n := lL i) (nI_toInt (by omega)) (fun q => c28 (Int32.lt_of_lt_of_le q (Int32.not_lt.mp c23))) c41
            obtain ⟨y, hy, rfl⟩ := nI_of2 (n := u) (nI_toInt (by omega)) c23 (Int32.not_lt.mp c28)
            have ec2 : (nI y).toNatClampNeg = y := nI_clamp (by omega)
            have ec3 : (nI u).toNatClampNeg = u := nI_clamp (by omega)
            refine R_aload_n dX4_cut_47 rfl ?_
            refine R_get dX4_cut_48 gf_X4_21 hC rfl ?_
            refine R_iload_n dX4_cut_51 rfl ?_
            refine R_aldL (q := ad G (6 + 2 * i)) dX4_cut_52 sl (vp_in_nI (show i < 3 by omega) (by decide)) (by rw [nI_clamp (by omega)]) ?_
            refine R_iload_n dX4_cut_53 rfl ?_
            refine R_iload_n dX4_cut_54 rfl ?_
            refine R_callVv dX4_cut_55 cv_X4_214 ⟨by decide, by decide⟩ (e_removeSpan G hh si hsL (by omega) y u hy hu) si.1 rfl rfl rfl (Nat.le_of_ble_eq_true rfl) (fun hh hw => ?_)
            obtain ⟨si, hF1⟩ := hw
            have hF := hF.t1 hF1 ⟨(6, 13), by simp, by omega, by omega⟩
            have hC := hAt.fr hC hF1 (by omega)
            have sl := hAt.fr sl hF1 (by omega)
            have th := hAt.fr th hF1 (by omega)
            have sf : ∀ j, j < 3 → LeAt G hh (6 + 2 * j) 40 (va_up lf i (va_cpy (lf i) (lf i) u y (lL i - u)) j) (nI (va_up lL i (lL i - (u - y)) j)) := by
              intro j hj
              by_cases e : j = i
              · rw [e, show va_up lf i (va_cpy (lf i) (lf i) u y (lL i - u)) i = _ from if_pos rfl, show va_up lL i (lL i - (u - y)) i = _ from if_pos rfl]; exact si
              · rw [show va_up lf i (va_cpy (lf i) (lf i) u y (lL i - u)) j = lf j from if_neg e, show va_up lL i (lL i - (u - y)) j = lL j from if_neg e]; exact (sf j hj).fr hF1 (by omega)
            refine R_aload_n dX4_cut_58 rfl ?_
            refine R_get dX4_cut_59 gf_X4_21 hC rfl ?_
            refine R_iload_n dX4_cut_62 rfl ?_
            refine R_aldL (q := ad G (6 + 2 * i)) dX4_cut_63 sl (vp_in_nI (show i < 3 by omega) (by decide)) (by rw [nI_clamp (by omega)]) ?_
            refine R_get dX4_cut_64 gf_X4_72 si.1 rfl ?_
            exact R_iret dX4_cut_67 rfl (⟨_, rfl, by (rw [hE]); exact ⟨by simp only [ec, ec2, ec3], by simp only [ec, ec2, ec3]; exact sf, th, hF⟩⟩)
          · refine R_bipush (v := (-12)) dX4_cut_44 (by decide) ?_
            exact R_iret dX4_cut_46 rfl (⟨_, rfl, by (have hE : erCut b lL (nI i) y u = some (-12) := by (unfold erCut; simp only [ec]; rw [if_pos hs3, if_pos (bl_t c16), if_neg (fun q => c41 q.2.2)])); (rw [hE]); exact ⟨rfl, rfl⟩⟩)
    · refine R_bipush (v := (-11)) dX4_cut_19 (by decide) ?_
      exact R_iret dX4_cut_21 rfl (⟨_, rfl, by (have hE : erCut b lL (nI i) y u = some (-11) := by (unfold erCut; simp only [ec]; rw [if_pos hs3, if_neg (bl_n c16)])); (rw [hE]); exact ⟨rfl, rfl⟩⟩)
  · refine R_bipush (v := (-2)) dX4_cut_7 (by decide) ?_
    exact R_iret dX4_cut_9 rfl (⟨_, rfl, by (have hE : erCut b lL t y u = some (-2) := by (unfold erCut; rw [if_neg (by simpa [bl] using c4)])); (rw [hE]); exact ⟨rfl, rfl⟩⟩)
def erJoin (b : Nat → Bool) (lL : Nat → Nat) (t u : Int32) : Option Int32 :=
  if (0 ≤ t ∧ t < 3) ∧ (0 ≤ u ∧ u < 3) then if b t.toNatClampNeg = true ∧ b u.toNatClampNeg = true then if lL t.toNatClampNeg + lL u.toNatClampNeg ≤ 40 then none else some (-13) else some (-11) else some (-2)
set_option maxRecDepth 4000 in
theorem w_join (G : GG) (hh : HH)   {b : Nat → Bool} {lf : Nat → Nat → Int32} {lL : Nat → Nat} (hC : hAt G hh 0 (cwO G)) (sl : hAt G hh 5 (eL G 3 (fun i => some (ad G (6 + 2 * i))))) (th : hAt G hh 12 (eZ G 3 (fun i => bl (b i)))) (sf : ∀ i, i < 3 → LeAt G hh (6 + 2 * i) 40 (lf i) (nI (lL i))) (hlL : ∀ i, i < 3 → lL i ≤ 40) (t u : Int32) : EVi G mX4_join [.ref (ad G 0), .int t, .int u] hh (fun w h1 => match erJoin b lL t u with | some e => w = e ∧ h1 = hh | none => w = nI (lL t.toNatClampNeg + lL u.toNatClampNeg) ∧ (∀ i, i < 3 → LeAt G h1 (6 + 2 * i) 40 (va_up lf t.toNatClampNeg (va_cpy (lf u.toNatClampNeg) (lf t.toNatClampNeg) 0 (lL t.toNatClampNeg) (lL u.toNatClampNeg)) i) (nI (va_up lL t.toNatClampNeg (lL t.toNatClampNeg + lL u.toNatClampNeg) i))) ∧ hAt G h1 12 (eZ G 3 (fun i => bl (b i))) ∧ FrS [(6, 13)] hh h1) := by
  refine EV.of [(0, .ref (ad G 0)), (1, .int t), (2, .int u)] (by decide +kernel) (Nat.le_of_ble_eq_true rfl) rfl ?_
  have hF : FrS [(6, 13)] hh hh := FrS.rf
  refine R_iload_n dX4_join_0 rfl ?_
  refine R_callSp dX4_join_1 cs_X4_208 ⟨by decide, by decide⟩ (e_isSlip G hh t) rfl rfl (Nat.le_of_ble_eq_true rfl) ?_
  refine R_if_eq (tgt := 14) dX4_join_4 (by decide) (fun c4 => ?_) (fun c4 => ?_)
  · refine R_bipush (v := (-2)) dX4_join_14 (by decide) ?_
    exact R_iret dX4_join_16 rfl (⟨_, rfl, by (have hE : erJoin b lL t u = some (-2) := by (unfold erJoin; rw [if_neg (fun q => by have q1 := q.1; revert c4; simp [bl, q1])])); (rw [hE]); exact ⟨rfl, rfl⟩⟩)
  · refine R_iload_n dX4_join_7 rfl ?_
    refine R_callSp dX4_join_8 cs_X4_208 ⟨by decide, by decide⟩ (e_isSlip G hh u) rfl rfl (Nat.le_of_ble_eq_true rfl) ?_
    refine R_if_ne (tgt := 17) dX4_join_11 (by decide) (fun c11 => ?_) (fun c11 => ?_)
    · have hs3 : 0 ≤ t ∧ t < 3 := by simpa [bl] using c4
      obtain ⟨i, hi, rfl⟩ := ix_in (n := 3) (by decide) (Int32.not_lt.mpr hs3.1) hs3.2
      have si := sf i hi
      have hsL := hlL i hi
      have ec : (nI i).toNatClampNeg = i := nI_clamp (by omega)
      have hu3 : 0 ≤ u ∧ u < 3 := by simpa [bl] using c11
      obtain ⟨k, hk, rfl⟩ := ix_in (n := 3) (by decide) (Int32.not_lt.mpr hu3.1) hu3.2
      have sk := sf k hk
      have hkL := hlL k hk
      have ec2 : (nI k).toNatClampNeg = k := nI_clamp (by omega)
      refine R_aload_n dX4_join_17 rfl ?_
      refine R_get dX4_join_18 gf_X4_25 hC rfl ?_
      refine R_iload_n dX4_join_21 rfl ?_
      refine R_zaldN dX4_join_22 th (by omega) (by decide) ?_
      refine R_if_eq (tgt := 35) dX4_join_23 (by decide) (fun c23 => ?_) (fun c23 => ?_)
      · refine R_bipush (v := (-11)) dX4_join_35 (by decide) ?_
        exact R_iret dX4_join_37 rfl (⟨_, rfl, by (have hE : erJoin b lL (nI i) (nI k) = some (-11) := by (unfold erJoin; simp only [ec, ec2]; rw [if_pos ⟨hs3, hu3⟩, if_neg (fun q => by have q1 := q.1; revert c23; simp [bl, q1])])); (rw [hE]); exact ⟨rfl, rfl⟩⟩)
      · refine R_aload_n dX4_join_26 rfl ?_
        refine R_get dX4_join_27 gf_X4_25 hC rfl ?_
        refine R_iload_n dX4_join_30 rfl ?_
        refine R_zaldN dX4_join_31 th (by omega) (by decide) ?_
        refine R_if_ne (tgt := 38) dX4_join_32 (by decide) (fun c32 => ?_) (fun c32 => ?_)
        · refine R_aload_n dX4_join_38 rfl ?_
          refine R_get dX4_join_39 gf_X4_21 hC rfl ?_
          refine R_iload_n dX4_join_42 rfl ?_
          refine R_aldL (q := ad G (6 + 2 * i)) dX4_join_43 sl (vp_in_nI (show i < 3 by omega) (by decide)) (by rw [nI_clamp (by omega)]) ?_
          refine R_aload_n dX4_join_44 rfl ?_
          refine R_get dX4_join_45 gf_X4_21 hC rfl ?_
          refine R_iload_n dX4_join_48 rfl ?_
          refine R_aldL (q := ad G (6 + 2 * k)) dX4_join_49 sl (vp_in_nI (show k < 3 by omega) (by decide)) (by rw [nI_clamp (by omega)]) ?_
          refine R_get dX4_join_50 gf_X4_72 sk.1 rfl ?_
          refine R_callVp dX4_join_53 cv_X4_68 ⟨by decide, by decide⟩ (e_hasRoom G hh si hsL (by omega) (lL k) (by omega)) si.1 rfl rfl rfl (Nat.le_of_ble_eq_true rfl) ?_
          refine R_if_ne (tgt := 62) dX4_join_56 (by decide) (fun c56 => ?_) (fun c56 => ?_)
          · have hr : lL i + lL k ≤ 40 := by simpa [bl] using c56
            have hE : erJoin b lL (nI i) (nI k) = none := by (unfold erJoin; simp only [ec, ec2]; rw [if_pos ⟨hs3, hu3⟩, if_pos ⟨bl_t c23, bl_t c32⟩, if_pos hr])
            refine R_aload_n dX4_join_62 rfl ?_
            refine R_get dX4_join_63 gf_X4_21 hC rfl ?_
            refine R_iload_n dX4_join_66 rfl ?_
            refine R_aldL (q := ad G (6 + 2 * i)) dX4_join_67 sl (vp_in_nI (show i < 3 by omega) (by decide)) (by rw [nI_clamp (by omega)]) ?_
            refine R_aload_n dX4_join_68 rfl ?_
            refine R_get dX4_join_69 gf_X4_21 hC rfl ?_
            refine R_iload_n dX4_join_72 rfl ?_
            refine R_aldL (q := ad G (6 + 2 * k)) dX4_join_73 sl (vp_in_nI (show k < 3 by omega) (by decide)) (by rw [nI_clamp (by omega)]) ?_
            refine R_callVv dX4_join_74 cv_X4_217 ⟨by decide, by decide⟩ (e_appendAll G hh si hsL (by omega) sk hkL (by omega) (by omega) hr) si.1 rfl rfl rfl (Nat.le_of_ble_eq_true rfl) (fun hh hw => ?_)
            obtain ⟨si, hF1⟩ := hw
            have hF := hF.t1 hF1 ⟨(6, 13), by simp, by omega, by omega⟩
            have hC := hAt.fr hC hF1 (by omega)
            have sl := hAt.fr sl hF1 (by omega)
            have th := hAt.fr th hF1 (by omega)
            have sf : ∀ j, j < 3 → LeAt G hh (6 + 2 * j) 40 (va_up lf i (va_cpy (lf k) (lf i) 0 (lL i) (lL k)) j) (nI (va_up lL i (lL i + lL k) j)) := by
              intro j hj
              by_cases e : j = i
              · rw [e, show va_up lf i (va_cpy (lf k) (lf i) 0 (lL i) (lL k)) i = _ from if_pos rfl, show va_up lL i (lL i + lL k) i = _ from if_pos rfl]; exact si
              · rw [show va_up lf i (va_cpy (lf k) (lf i) 0 (lL i) (lL k)) j = lf j from if_neg e, show va_up lL i (lL i + lL k) j = lL j from if_neg e]; exact (sf j hj).fr hF1 (by omega)
            refine R_aload_n dX4_join_77 rfl ?_
            refine R_get dX4_join_78 gf_X4_21 hC rfl ?_
            refine R_iload_n dX4_join_81 rfl ?_
            refine R_aldL (q := ad G (6 + 2 * i)) dX4_join_82 sl (vp_in_nI (show i < 3 by omega) (by decide)) (by rw [nI_clamp (by omega)]) ?_
            refine R_get dX4_join_83 gf_X4_72 si.1 rfl ?_
            exact R_iret dX4_join_86 rfl (⟨_, rfl, by (rw [hE]); exact ⟨by simp only [ec, ec2], by simp only [ec, ec2]; exact sf, th, hF⟩⟩)
          · refine R_bipush (v := (-13)) dX4_join_59 (by decide) ?_
            exact R_iret dX4_join_61 rfl (⟨_, rfl, by (have hE : erJoin b lL (nI i) (nI k) = some (-13) := by (unfold erJoin; simp only [ec, ec2]; rw [if_pos ⟨hs3, hu3⟩, if_pos ⟨bl_t c23, bl_t c32⟩, if_neg (by simpa [bl] using c56)])); (rw [hE]); exact ⟨rfl, rfl⟩⟩)
        · refine R_bipush (v := (-11)) dX4_join_35 (by decide) ?_
          exact R_iret dX4_join_37 rfl (⟨_, rfl, by (have hE : erJoin b lL (nI i) (nI k) = some (-11) := by (unfold erJoin; simp only [ec, ec2]; rw [if_pos ⟨hs3, hu3⟩, if_neg (fun q => by have q1 := q.2; revert c32; simp [bl, q1])])); (rw [hE]); exact ⟨rfl, rfl⟩⟩)
    · refine R_bipush (v := (-2)) dX4_join_14 (by decide) ?_
      exact R_iret dX4_join_16 rfl (⟨_, rfl, by (have hE : erJoin b lL t u = some (-2) := by (unfold erJoin; rw [if_neg (fun q => by have q1 := q.2; revert c11; simp [bl, q1])])); (rw [hE]); exact ⟨rfl, rfl⟩⟩)
def anLetter (b : Nat → Bool) (lf : Nat → Nat → Int32) (lL : Nat → Nat) (t k : Int32) : Int32 :=
  if 0 ≤ t ∧ t < 3 then if b t.toNatClampNeg = true then if ¬ k < 0 ∧ k < nI (lL t.toNatClampNeg) then lf t.toNatClampNeg k.toNatClampNeg else -12 else -11 else -2
set_option maxRecDepth 4000 in
theorem w_letter (G : GG) (hh : HH)   {b : Nat → Bool} {lf : Nat → Nat → Int32} {lL : Nat → Nat} (hC : hAt G hh 0 (cwO G)) (sl : hAt G hh 5 (eL G 3 (fun i => some (ad G (6 + 2 * i))))) (th : hAt G hh 12 (eZ G 3 (fun i => bl (b i)))) (sf : ∀ i, i < 3 → LeAt G hh (6 + 2 * i) 40 (lf i) (nI (lL i))) (hlL : ∀ i, i < 3 → lL i ≤ 40) (t k : Int32) : EVp G mX4_letter [.ref (ad G 0), .int t, .int k] hh (anLetter b lf lL t k) := by
  refine EV.of [(0, .ref (ad G 0)), (1, .int t), (2, .int k)] (by decide +kernel) (Nat.le_of_ble_eq_true rfl) rfl ?_
  refine R_iload_n dX4_letter_0 rfl ?_
  refine R_callSp dX4_letter_1 cs_X4_208 ⟨by decide, by decide⟩ (e_isSlip G hh t) rfl rfl (Nat.le_of_ble_eq_true rfl) ?_
  refine R_if_ne (tgt := 10) dX4_letter_4 (by decide) (fun c4 => ?_) (fun c4 => ?_)
  · have hs3 : 0 ≤ t ∧ t < 3 := by simpa [bl] using c4
    obtain ⟨i, hi, rfl⟩ := ix_in (n := 3) (by decide) (Int32.not_lt.mpr hs3.1) hs3.2
    have si := sf i hi
    have hsL := hlL i hi
    have ec : (nI i).toNatClampNeg = i := nI_clamp (by omega)
    refine R_aload_n dX4_letter_10 rfl ?_
    refine R_get dX4_letter_11 gf_X4_25 hC rfl ?_
    refine R_iload_n dX4_letter_14 rfl ?_
    refine R_zaldN dX4_letter_15 th (by omega) (by decide) ?_
    refine R_if_ne (tgt := 22) dX4_letter_16 (by decide) (fun c16 => ?_) (fun c16 => ?_)
    · refine R_iload_n dX4_letter_22 rfl ?_
      refine R_if_lt (tgt := 39) dX4_letter_23 (by decide) (fun c23 => ?_) (fun c23 => ?_)
      · refine R_bipush (v := (-12)) dX4_letter_39 (by decide) ?_
        exact R_iret dX4_letter_41 rfl (⟨_, rfl, by (unfold anLetter; simp only [ec]; rw [if_pos hs3, if_pos (bl_t c16), if_neg (fun q => q.1 c23)]), rfl⟩)
      · refine R_iload_n dX4_letter_26 rfl ?_
        refine R_aload_n dX4_letter_27 rfl ?_
        refine R_get dX4_letter_28 gf_X4_21 hC rfl ?_
        refine R_iload_n dX4_letter_31 rfl ?_
        refine R_aldL (q := ad G (6 + 2 * i)) dX4_letter_32 sl (vp_in_nI (show i < 3 by omega) (by decide)) (by rw [nI_clamp (by omega)]) ?_
        refine R_get dX4_letter_33 gf_X4_72 si.1 rfl ?_
        refine R_icmp_lt (tgt := 42) dX4_letter_36 (by decide) (fun c36 => ?_) (fun c36 => ?_)
        · obtain ⟨kk, hk, rfl⟩ := ix_in (n := lL i) (by omega) c23 c36
          refine R_aload_n dX4_letter_42 rfl ?_
          refine R_get dX4_letter_43 gf_X4_21 hC rfl ?_
          refine R_iload_n dX4_letter_46 rfl ?_
          refine R_aldL (q := ad G (6 + 2 * i)) dX4_letter_47 sl (vp_in_nI (show i < 3 by omega) (by decide)) (by rw [nI_clamp (by omega)]) ?_
          refine R_get dX4_letter_48 gf_X4_176 si.1 rfl ?_
          refine R_iload_n dX4_letter_51 rfl ?_
          refine R_ialdN dX4_letter_52 si.2 (show kk < 40 by omega) (by decide) ?_
          exact R_iret dX4_letter_53 rfl (⟨_, rfl, by (unfold anLetter; simp only [ec]; rw [if_pos hs3, if_pos (bl_t c16), if_pos ⟨c23, c36⟩, nI_clamp (by omega)]), rfl⟩)
        · refine R_bipush (v := (-12)) dX4_letter_39 (by decide) ?_
          exact R_iret dX4_letter_41 rfl (⟨_, rfl, by (unfold anLetter; simp only [ec]; rw [if_pos hs3, if_pos (bl_t c16), if_neg (fun q => c36 q.2)]), rfl⟩)
    · refine R_bipush (v := (-11)) dX4_letter_19 (by decide) ?_
      exact R_iret dX4_letter_21 rfl (⟨_, rfl, by (unfold anLetter; simp only [ec]; rw [if_pos hs3, if_neg (bl_n c16)]), rfl⟩)
  · refine R_bipush (v := (-2)) dX4_letter_7 (by decide) ?_
    exact R_iret dX4_letter_9 rfl (⟨_, rfl, by (unfold anLetter; rw [if_neg (by simpa [bl] using c4)]), rfl⟩)
def anValue (b : Nat → Bool) (lf : Nat → Nat → Int32) (lL : Nat → Nat) (t : Int32) : Int32 :=
  if 0 ≤ t ∧ t < 3 then if b t.toNatClampNeg = true then if numOf (lf t.toNatClampNeg) 0 (lL t.toNatClampNeg) 4 = -1 then -14 else numOf (lf t.toNatClampNeg) 0 (lL t.toNatClampNeg) 4 else -11 else -2
def anNamed (b : Nat → Bool) (lf : Nat → Nat → Int32) (lL : Nat → Nat) (t : Int32) : Int32 :=
  if 0 ≤ t ∧ t < 3 then if b t.toNatClampNeg = true then rulL (lf t.toNatClampNeg) 0 (lL t.toNatClampNeg) 0 4 else -11 else -2
set_option maxRecDepth 4000 in
theorem w_value (G : GG) (hh : HH)   {b : Nat → Bool} {lf : Nat → Nat → Int32} {lL : Nat → Nat} (hC : hAt G hh 0 (cwO G)) (sl : hAt G hh 5 (eL G 3 (fun i => some (ad G (6 + 2 * i))))) (th : hAt G hh 12 (eZ G 3 (fun i => bl (b i)))) (sf : ∀ i, i < 3 → LeAt G hh (6 + 2 * i) 40 (lf i) (nI (lL i))) (hlL : ∀ i, i < 3 → lL i ≤ 40) (t : Int32) : EVp G mX4_value [.ref (ad G 0), .int t] hh (anValue b lf lL t) := by
  refine EV.of [(0, .ref (ad G 0)), (1, .int t)] (by decide +kernel) (Nat.le_of_ble_eq_true rfl) rfl ?_
  refine R_iload_n dX4_value_0 rfl ?_
  refine R_callSp dX4_value_1 cs_X4_208 ⟨by decide, by decide⟩ (e_isSlip G hh t) rfl rfl (Nat.le_of_ble_eq_true rfl) ?_
  refine R_if_ne (tgt := 10) dX4_value_4 (by decide) (fun c4 => ?_) (fun c4 => ?_)
  · have hs3 : 0 ≤ t ∧ t < 3 := by simpa [bl] using c4
    obtain ⟨i, hi, rfl⟩ := ix_in (n := 3) (by decide) (Int32.not_lt.mpr hs3.1) hs3.2
    have si := sf i hi
    have hsL := hlL i hi
    have ec : (nI i).toNatClampNeg = i := nI_clamp (by omega)
    refine R_aload_n dX4_value_10 rfl ?_
    refine R_get dX4_value_11 gf_X4_25 hC rfl ?_
    refine R_iload_n dX4_value_14 rfl ?_
    refine R_zaldN dX4_value_15 th (by omega) (by decide) ?_
    refine R_if_ne (tgt := 22) dX4_value_16 (by decide) (fun c16 => ?_) (fun c16 => ?_)
    · refine R_aload_n dX4_value_22 rfl ?_
      refine R_get dX4_value_23 gf_X4_21 hC rfl ?_
      refine R_iload_n dX4_value_26 rfl ?_
      refine R_aldL (q := ad G (6 + 2 * i)) dX4_value_27 sl (vp_in_nI (show i < 3 by omega) (by decide)) (by rw [nI_clamp (by omega)]) ?_
      refine R_iconst (v := 0) dX4_value_28 (by decide) ?_
      refine R_aload_n dX4_value_29 rfl ?_
      refine R_get dX4_value_30 gf_X4_21 hC rfl ?_
      refine R_iload_n dX4_value_33 rfl ?_
      refine R_aldL (q := ad G (6 + 2 * i)) dX4_value_34 sl (vp_in_nI (show i < 3 by omega) (by decide)) (by rw [nI_clamp (by omega)]) ?_
      refine R_get dX4_value_35 gf_X4_72 si.1 rfl ?_
      refine R_iconst (v := 4) dX4_value_38 (by decide) ?_
      refine R_callVp dX4_value_39 cv_X4_224 ⟨by decide, by decide⟩ (e_numberAt G hh si hsL (by omega) 0 (lL i) 4 (by omega) (by omega) (by omega)) si.1 rfl rfl rfl (Nat.le_of_ble_eq_true rfl) ?_
      refine R_istore_n dX4_value_42 (by decide) ?_
      refine R_iload_n dX4_value_43 rfl ?_
      refine R_iconst (v := (-1)) dX4_value_44 (by decide) ?_
      refine R_icmp_ne (tgt := 53) dX4_value_45 (by decide) (fun c45 => ?_) (fun c45 => ?_)
      · refine R_iload_n dX4_value_53 rfl ?_
        exact R_iret dX4_value_54 rfl (⟨_, rfl, by (unfold anValue; simp only [ec]; rw [if_pos hs3, if_pos (bl_t c16), if_neg c45]), rfl⟩)
      · refine R_bipush (v := (-14)) dX4_value_48 (by decide) ?_
        refine R_goto (tgt := 54) dX4_value_50 (by decide) ?_
        exact R_iret dX4_value_54 rfl (⟨_, rfl, by (unfold anValue; simp only [ec]; rw [if_pos hs3, if_pos (bl_t c16), if_pos (Classical.not_not.mp c45)]), rfl⟩)
    · refine R_bipush (v := (-11)) dX4_value_19 (by decide) ?_
      exact R_iret dX4_value_21 rfl (⟨_, rfl, by (unfold anValue; simp only [ec]; rw [if_pos hs3, if_neg (bl_n c16)]), rfl⟩)
  · refine R_bipush (v := (-2)) dX4_value_7 (by decide) ?_
    exact R_iret dX4_value_9 rfl (⟨_, rfl, by (unfold anValue; rw [if_neg (by simpa [bl] using c4)]), rfl⟩)
set_option maxRecDepth 4000 in
theorem w_named (G : GG) (hh : HH)   {b : Nat → Bool} {lf : Nat → Nat → Int32} {lL : Nat → Nat} (hC : hAt G hh 0 (cwO G)) (sl : hAt G hh 5 (eL G 3 (fun i => some (ad G (6 + 2 * i))))) (th : hAt G hh 12 (eZ G 3 (fun i => bl (b i)))) (sf : ∀ i, i < 3 → LeAt G hh (6 + 2 * i) 40 (lf i) (nI (lL i))) (hlL : ∀ i, i < 3 → lL i ≤ 40) (t : Int32) : EVp G mX4_named [.ref (ad G 0), .int t] hh (anNamed b lf lL t) := by
  refine EV.of [(0, .ref (ad G 0)), (1, .int t)] (by decide +kernel) (Nat.le_of_ble_eq_true rfl) rfl ?_
  refine R_iload_n dX4_named_0 rfl ?_
  refine R_callSp dX4_named_1 cs_X4_208 ⟨by decide, by decide⟩ (e_isSlip G hh t) rfl rfl (Nat.le_of_ble_eq_true rfl) ?_
  refine R_if_ne (tgt := 10) dX4_named_4 (by decide) (fun c4 => ?_) (fun c4 => ?_)
  · have hs3 : 0 ≤ t ∧ t < 3 := by simpa [bl] using c4
    obtain ⟨i, hi, rfl⟩ := ix_in (n := 3) (by decide) (Int32.not_lt.mpr hs3.1) hs3.2
    have si := sf i hi
    have hsL := hlL i hi
    have ec : (nI i).toNatClampNeg = i := nI_clamp (by omega)
    refine R_aload_n dX4_named_10 rfl ?_
    refine R_get dX4_named_11 gf_X4_25 hC rfl ?_
    refine R_iload_n dX4_named_14 rfl ?_
    refine R_zaldN dX4_named_15 th (by omega) (by decide) ?_
    refine R_if_ne (tgt := 22) dX4_named_16 (by decide) (fun c16 => ?_) (fun c16 => ?_)
    · refine R_aload_n dX4_named_22 rfl ?_
      refine R_get dX4_named_23 gf_X4_21 hC rfl ?_
      refine R_iload_n dX4_named_26 rfl ?_
      refine R_aldL (q := ad G (6 + 2 * i)) dX4_named_27 sl (vp_in_nI (show i < 3 by omega) (by decide)) (by rw [nI_clamp (by omega)]) ?_
      refine R_iconst (v := 0) dX4_named_28 (by decide) ?_
      refine R_aload_n dX4_named_29 rfl ?_
      refine R_get dX4_named_30 gf_X4_21 hC rfl ?_
      refine R_iload_n dX4_named_33 rfl ?_
      refine R_aldL (q := ad G (6 + 2 * i)) dX4_named_34 sl (vp_in_nI (show i < 3 by omega) (by decide)) (by rw [nI_clamp (by omega)]) ?_
      refine R_get dX4_named_35 gf_X4_72 si.1 rfl ?_
      refine R_callVp dX4_named_38 cv_X4_228 ⟨by decide, by decide⟩ (e_ruleAt G hh si hsL (by omega) 0 (lL i) (by omega) (by omega)) si.1 rfl rfl rfl (Nat.le_of_ble_eq_true rfl) ?_
      exact R_iret dX4_named_41 rfl (⟨_, rfl, by (unfold anNamed; simp only [ec]; rw [if_pos hs3, if_pos (bl_t c16)]), rfl⟩)
    · refine R_bipush (v := (-11)) dX4_named_19 (by decide) ?_
      exact R_iret dX4_named_21 rfl (⟨_, rfl, by (unfold anNamed; simp only [ec]; rw [if_pos hs3, if_neg (bl_n c16)]), rfl⟩)
  · refine R_bipush (v := (-2)) dX4_named_7 (by decide) ?_
    exact R_iret dX4_named_9 rfl (⟨_, rfl, by (unfold anNamed; rw [if_neg (by simpa [bl] using c4)]), rfl⟩)
def erDrop (b : Nat → Bool) (t : Int32) : Option Int32 := if 0 ≤ t ∧ t < 3 then if b t.toNatClampNeg = true then none else some (-11) else some (-2)
set_option maxRecDepth 4000 in
theorem w_drop (G : GG) (hh : HH)   {b : Nat → Bool} {lf : Nat → Nat → Int32} {lL : Nat → Nat} (hC : hAt G hh 0 (cwO G)) (sl : hAt G hh 5 (eL G 3 (fun i => some (ad G (6 + 2 * i))))) (th : hAt G hh 12 (eZ G 3 (fun i => bl (b i)))) (sf : ∀ i, i < 3 → LeAt G hh (6 + 2 * i) 40 (lf i) (nI (lL i))) (hlL : ∀ i, i < 3 → lL i ≤ 40) (t : Int32) : EVi G mX4_drop [.ref (ad G 0), .int t] hh (fun w h1 => match erDrop b t with | some e => w = e ∧ h1 = hh | none => w = nI (lL t.toNatClampNeg) ∧ hAt G h1 12 (eZ G 3 (fun i => bl (va_up b t.toNatClampNeg false i))) ∧ (∀ i, i < 3 → LeAt G h1 (6 + 2 * i) 40 (lf i) (nI (lL i))) ∧ FrS [(6, 13)] hh h1) := by
  refine EV.of [(0, .ref (ad G 0)), (1, .int t)] (by decide +kernel) (Nat.le_of_ble_eq_true rfl) rfl ?_
  have hF : FrS [(6, 13)] hh hh := FrS.rf
  refine R_iload_n dX4_drop_0 rfl ?_
  refine R_callSp dX4_drop_1 cs_X4_208 ⟨by decide, by decide⟩ (e_isSlip G hh t) rfl rfl (Nat.le_of_ble_eq_true rfl) ?_
  refine R_if_ne (tgt := 10) dX4_drop_4 (by decide) (fun c4 => ?_) (fun c4 => ?_)
  · have hs3 : 0 ≤ t ∧ t < 3 := by simpa [bl] using c4
    obtain ⟨i, hi, rfl⟩ := ix_in (n := 3) (by decide) (Int32.not_lt.mpr hs3.1) hs3.2
    have si := sf i hi
    have hsL := hlL i hi
    have ec : (nI i).toNatClampNeg = i := nI_clamp (by omega)
    refine R_aload_n dX4_drop_10 rfl ?_
    refine R_get dX4_drop_11 gf_X4_25 hC rfl ?_
    refine R_iload_n dX4_drop_14 rfl ?_
    refine R_zaldN dX4_drop_15 th (by omega) (by decide) ?_
    refine R_if_ne (tgt := 22) dX4_drop_16 (by decide) (fun c16 => ?_) (fun c16 => ?_)
    · refine R_aload_n dX4_drop_22 rfl ?_
      refine R_get dX4_drop_23 gf_X4_25 hC rfl ?_
      refine R_iload_n dX4_drop_26 rfl ?_
      refine R_iconst (v := 0) dX4_drop_27 (by decide) ?_
      refine Zr_ast (c := false) dX4_drop_28 th (by omega) (by decide) rfl (fun hh th hF1 => ?_)
      have hF := hF.t1 hF1 ⟨(6, 13), by simp, by omega, by omega⟩
      have hC := hAt.fr hC hF1 (by omega)
      have sl := hAt.fr sl hF1 (by omega)
      have sf := fun i hi => (sf i hi).fr hF1 (by omega)
      have si := sf i hi
      refine R_aload_n dX4_drop_29 rfl ?_
      refine R_get dX4_drop_30 gf_X4_21 hC rfl ?_
      refine R_iload_n dX4_drop_33 rfl ?_
      refine R_aldL (q := ad G (6 + 2 * i)) dX4_drop_34 sl (vp_in_nI (show i < 3 by omega) (by decide)) (by rw [nI_clamp (by omega)]) ?_
      refine R_get dX4_drop_35 gf_X4_72 si.1 rfl ?_
      exact R_iret dX4_drop_38 rfl (⟨_, rfl, by (have hE : erDrop b (nI i) = none := by (unfold erDrop; simp only [ec]; rw [if_pos hs3, if_pos (bl_t c16)])); (rw [hE]); exact ⟨by simp only [ec], by simp only [ec]; exact th, sf, hF⟩⟩)
    · refine R_bipush (v := (-11)) dX4_drop_19 (by decide) ?_
      exact R_iret dX4_drop_21 rfl (⟨_, rfl, by (have hE : erDrop b (nI i) = some (-11) := by (unfold erDrop; simp only [ec]; rw [if_pos hs3, if_neg (bl_n c16)])); (rw [hE]); exact ⟨rfl, rfl⟩⟩)
  · refine R_bipush (v := (-2)) dX4_drop_7 (by decide) ?_
    exact R_iret dX4_drop_9 rfl (⟨_, rfl, by (have hE : erDrop b t = some (-2) := by (unfold erDrop; rw [if_neg (by simpa [bl] using c4)])); (rw [hE]); exact ⟨rfl, rfl⟩⟩)
def slL (b : Nat → Bool) (lL : Nat → Nat) (i : Nat) : Int32 := if b i = true then nI (lL i) else 0
set_option maxRecDepth 4000 in
theorem l_letters (G : GG) (hh : HH)   {b : Nat → Bool} {lf : Nat → Nat → Int32} {lL : Nat → Nat} (hC : hAt G hh 0 (cwO G)) (sl : hAt G hh 5 (eL G 3 (fun i => some (ad G (6 + 2 * i))))) (th : hAt G hh 12 (eZ G 3 (fun i => bl (b i)))) (sf : ∀ i, i < 3 → LeAt G hh (6 + 2 * i) 40 (lf i) (nI (lL i))) (hlL : ∀ i, i < 3 → lL i ≤ 40) : ∀ (d i : Nat) (x : Int32), i + d = 3 → RR G mX4_lettersOfSlips 4 [(0, .ref (ad G 0)), (1, .int x), (2, .int (nI i))] [] hh (fun r h => ∃ w, r = some (.int w) ∧ (w = foldS (slL b lL) i d x ∧ h = hh)) := by
  intro d
  induction d with
  | zero =>
    intro i x hi
    refine R_iload_n dX4_lettersOfSlips_4 rfl ?_
    refine R_iconst (v := 3) dX4_lettersOfSlips_5 (by decide) ?_
    refine R_icmp_ge (tgt := 36) dX4_lettersOfSlips_6 (by decide) (fun c6 => ?_) (fun c6 => absurd (nI_le (a := 3) (by omega) (by omega)) c6)
    refine R_iload_n dX4_lettersOfSlips_36 rfl ?_
    exact R_iret dX4_lettersOfSlips_37 rfl (⟨_, rfl, rfl, rfl⟩)
  | succ d ih =>
    intro i x hi
    refine R_iload_n dX4_lettersOfSlips_4 rfl ?_
    refine R_iconst (v := 3) dX4_lettersOfSlips_5 (by decide) ?_
    refine R_icmp_ge (tgt := 36) dX4_lettersOfSlips_6 (by decide) (fun c6 => absurd c6 (nI_ge (b := 3) (by omega) (by omega))) (fun c6 => ?_)
    refine R_aload_n dX4_lettersOfSlips_9 rfl ?_
    refine R_get dX4_lettersOfSlips_10 gf_X4_25 hC rfl ?_
    refine R_iload_n dX4_lettersOfSlips_13 rfl ?_
    refine R_zaldN dX4_lettersOfSlips_14 th (by omega) (by decide) ?_
    refine R_if_eq (tgt := 30) dX4_lettersOfSlips_15 (by decide) (fun c15 => ?_) (fun c15 => ?_)
    · refine R_iinc (y := nI (i + 1)) dX4_lettersOfSlips_30 rfl (by decide) (nI_s i) ?_
      refine R_goto (tgt := 4) dX4_lettersOfSlips_33 (by decide) ?_
      rw [show foldS (slL b lL) i (d + 1) x = foldS (slL b lL) (i + 1) d x from by show foldS _ _ _ (x + slL b lL i) = _; rw [show slL b lL i = 0 from if_neg (by simpa [bl] using c15), Int32.add_zero]]
      exact RR.pick [1, 2, 0] rfl (ih (i + 1) _ (by omega))
    · have si := sf i (by omega)
      refine R_iload_n dX4_lettersOfSlips_18 rfl ?_
      refine R_aload_n dX4_lettersOfSlips_19 rfl ?_
      refine R_get dX4_lettersOfSlips_20 gf_X4_21 hC rfl ?_
      refine R_iload_n dX4_lettersOfSlips_23 rfl ?_
      refine R_aldL (q := ad G (6 + 2 * i)) dX4_lettersOfSlips_24 sl (vp_in_nI (show i < 3 by omega) (by decide)) (by rw [nI_clamp (by omega)]) ?_
      refine R_get dX4_lettersOfSlips_25 gf_X4_72 si.1 rfl ?_
      refine R_iadd dX4_lettersOfSlips_28 ?_
      refine R_istore_n dX4_lettersOfSlips_29 (by decide) ?_
      refine R_iinc (y := nI (i + 1)) dX4_lettersOfSlips_30 rfl (by decide) (nI_s i) ?_
      refine R_goto (tgt := 4) dX4_lettersOfSlips_33 (by decide) ?_
      rw [show foldS (slL b lL) i (d + 1) x = foldS (slL b lL) (i + 1) d (x + nI (lL i)) from by show foldS _ _ _ (x + slL b lL i) = _; rw [show slL b lL i = nI (lL i) from if_pos (bl_t c15)]]
      exact RR.pick [2, 1, 0] rfl (ih (i + 1) _ (by omega))
set_option maxRecDepth 4000 in
theorem w_lettersOfSlips (G : GG) (hh : HH)   {b : Nat → Bool} {lf : Nat → Nat → Int32} {lL : Nat → Nat} (hC : hAt G hh 0 (cwO G)) (sl : hAt G hh 5 (eL G 3 (fun i => some (ad G (6 + 2 * i))))) (th : hAt G hh 12 (eZ G 3 (fun i => bl (b i)))) (sf : ∀ i, i < 3 → LeAt G hh (6 + 2 * i) 40 (lf i) (nI (lL i))) (hlL : ∀ i, i < 3 → lL i ≤ 40) : EVp G mX4_lettersOfSlips [.ref (ad G 0)] hh (foldS (slL b lL) 0 3 0) := by
  refine EV.of [(0, .ref (ad G 0))] (by decide +kernel) (Nat.le_of_ble_eq_true rfl) rfl ?_
  refine R_iconst (v := 0) dX4_lettersOfSlips_0 (by decide) ?_
  refine R_istore_n dX4_lettersOfSlips_1 (by decide) ?_
  refine R_iconst (v := 0) dX4_lettersOfSlips_2 (by decide) ?_
  refine R_istore_n dX4_lettersOfSlips_3 (by decide) ?_
  exact RR.pick [2, 1, 0] rfl (l_letters G hh hC sl th sf hlL 3 0 0 (by omega))
theorem stnd_cg {f f' g : Nat → Int32} {p m : Nat} (h : ∀ j, j < p + m → f j = f' j) : stnd f g p 0 m = stnd f' g p 0 m := by
  unfold stnd
  rw [Bool.eq_iff_iff, List.all_eq_true, List.all_eq_true]
  constructor
  · intro q x hx
    have hx2 := (List.mem_range'_1.mp hx).2
    rw [← h (p + x) (by omega)]; exact q x hx
  · intro q x hx
    have hx2 := (List.mem_range'_1.mp hx).2
    rw [h (p + x) (by omega)]; exact q x hx
theorem plc_cg {f f' g : Nat → Int32} {m N : Nat} (h : ∀ j, j < N → f j = f' j) : ∀ (d i : Nat), i + d + m ≤ N + 1 → plc f g m i d = plc f' g m i d
  | 0, _, _ => rfl
  | d + 1, i, hi => by
    show (if stnd f g i 0 m = true then nI i else plc f g m (i + 1) d) = (if stnd f' g i 0 m = true then nI i else plc f' g m (i + 1) d)
    rw [stnd_cg (f' := f') (fun j hj => h j (by omega)), plc_cg h d (i + 1) (by omega)]
def anFind (b : Nat → Bool) (lf : Nat → Nat → Int32) (lL : Nat → Nat) (l : List Int32) (t w : Int32) : Int32 :=
  if 0 ≤ t ∧ t < 3 then if ¬ w < 0 ∧ w ≤ 3 then if b t.toNatClampNeg = true then
    if w = 0 then plc (fun j => l.getD j 0) (lf t.toNatClampNeg) (lL t.toNatClampNeg) 0 (l.length + 1 - lL t.toNatClampNeg) else
    if b (w - 1).toNatClampNeg = true then plc (lf (w - 1).toNatClampNeg) (lf t.toNatClampNeg) (lL t.toNatClampNeg) 0 (lL (w - 1).toNatClampNeg + 1 - lL t.toNatClampNeg) else -11
  else -11 else -3 else -2
set_option maxRecDepth 4000 in
theorem w_find (G : GG) (hh : HH)  {a : AA} {v : VV} {df : Nat → Int32} {dL : Nat}  {b : Nat → Bool} {lf : Nat → Nat → Int32} {lL : Nat → Nat} (hC : hAt G hh 0 (cwO G)) (nw : StAt G hh 32 a v) (dk : LeAt G hh 3 130 df (nI dL)) (hdL : dL ≤ 130) (sl : hAt G hh 5 (eL G 3 (fun i => some (ad G (6 + 2 * i))))) (th : hAt G hh 12 (eZ G 3 (fun i => bl (b i)))) (sf : ∀ i, i < 3 → LeAt G hh (6 + 2 * i) 40 (lf i) (nI (lL i))) (hlL : ∀ i, i < 3 → lL i ≤ 40) {m : Nat} (hm : m ≤ 20) (hc : v 14 = nI m) (t w : Int32) : EVi G mX4_find [.ref (ad G 0), .int t, .int w] hh (fun y h1 => y = anFind b lf lL (wrl a m) t w ∧ (h1 = hh ∨ ((∃ f, LeAt G h1 3 130 f (nI (wrl a m).length) ∧ pref f (wrl a m)) ∧ Fr 3 5 hh h1))) := by
  refine EV.of [(0, .ref (ad G 0)), (1, .int t), (2, .int w)] (by decide +kernel) (Nat.le_of_ble_eq_true rfl) rfl ?_
  refine R_iload_n dX4_find_0 rfl ?_
  refine R_callSp dX4_find_1 cs_X4_208 ⟨by decide, by decide⟩ (e_isSlip G hh t) rfl rfl (Nat.le_of_ble_eq_true rfl) ?_
  refine R_if_ne (tgt := 10) dX4_find_4 (by decide) (fun c4 => ?_) (fun c4 => ?_)
  · have hs3 : 0 ≤ t ∧ t < 3 := by simpa [bl] using c4
    obtain ⟨i, hi, rfl⟩ := ix_in (n := 3) (by decide) (Int32.not_lt.mpr hs3.1) hs3.2
    have si := sf i hi
    have hsL := hlL i hi
    have ec : (nI i).toNatClampNeg = i := nI_clamp (by omega)
    refine R_iload_n dX4_find_10 rfl ?_
    refine R_if_lt (tgt := 19) dX4_find_11 (by decide) (fun c11 => ?_) (fun c11 => ?_)
    · refine R_bipush (v := (-3)) dX4_find_19 (by decide) ?_
      exact R_iret dX4_find_21 rfl (⟨_, rfl, by (unfold anFind; simp only [ec]; rw [if_pos hs3, if_neg (fun q => q.1 c11)]), Or.inl rfl⟩)
    · refine R_iload_n dX4_find_14 rfl ?_
      refine R_iconst (v := 3) dX4_find_15 (by decide) ?_
      refine R_icmp_le (tgt := 22) dX4_find_16 (by decide) (fun c16 => ?_) (fun c16 => ?_)
      · refine R_aload_n dX4_find_22 rfl ?_
        refine R_get dX4_find_23 gf_X4_25 hC rfl ?_
        refine R_iload_n dX4_find_26 rfl ?_
        refine R_zaldN dX4_find_27 th (by omega) (by decide) ?_
        refine R_if_ne (tgt := 34) dX4_find_28 (by decide) (fun c28 => ?_) (fun c28 => ?_)
        · refine R_iload_n dX4_find_34 rfl ?_
          refine R_if_ne (tgt := 56) dX4_find_35 (by decide) (fun c35 => ?_) (fun c35 => ?_)
          · obtain ⟨u, hu, rfl⟩ := nI_of2 (n := 3) (nI_toInt (by omega)) c11 c16
            have hu1 : 1 ≤ u := by (rcases Nat.eq_zero_or_pos u with q | q; subst q; exact absurd rfl c35; exact q)
            have eu1 : nI u - 1 = nI (u - 1) := pk_sub (b := 1) hu1
            have eu : (nI u - 1).toNatClampNeg = u - 1 := by rw [eu1]; exact nI_clamp (by omega)
            have su := sf (u - 1) (by omega)
            have huL := hlL (u - 1) (by omega)
            refine R_aload_n dX4_find_56 rfl ?_
            refine R_get dX4_find_57 gf_X4_25 hC rfl ?_
            refine R_iload_n dX4_find_60 rfl ?_
            refine R_iconst (v := 1) dX4_find_61 (by decide) ?_
            refine R_isub dX4_find_62 ?_
            refine RR.top eu1 ?_
            refine R_zaldN dX4_find_63 th (by omega) (by decide) ?_
            refine R_if_ne (tgt := 70) dX4_find_64 (by decide) (fun c64 => ?_) (fun c64 => ?_)
            · refine R_aload_n dX4_find_70 rfl ?_
              refine R_get dX4_find_71 gf_X4_21 hC rfl ?_
              refine R_iload_n dX4_find_74 rfl ?_
              refine R_iconst (v := 1) dX4_find_75 (by decide) ?_
              refine R_isub dX4_find_76 ?_
              refine RR.top eu1 ?_
              refine R_aldL (q := ad G (6 + 2 * (u - 1))) dX4_find_77 sl (vp_in_nI (show (u - 1) < 3 by omega) (by decide)) (by rw [nI_clamp (by omega)]) ?_
              refine R_aload_n dX4_find_78 rfl ?_
              refine R_get dX4_find_79 gf_X4_21 hC rfl ?_
              refine R_iload_n dX4_find_82 rfl ?_
              refine R_aldL (q := ad G (6 + 2 * i)) dX4_find_83 sl (vp_in_nI (show i < 3 by omega) (by decide)) (by rw [nI_clamp (by omega)]) ?_
              refine R_callVp dX4_find_84 cv_X4_220 ⟨by decide, by decide⟩ (e_placeOf G hh su huL (by omega) si hsL (by omega)) su.1 rfl rfl rfl (Nat.le_of_ble_eq_true rfl) ?_
              exact R_iret dX4_find_87 rfl (⟨_, rfl, by (unfold anFind; simp only [ec]; rw [if_pos hs3, if_pos ⟨c11, c16⟩, if_pos (bl_t c28), if_neg c35, eu, if_pos (bl_t c64)]), Or.inl rfl⟩)
            · refine R_bipush (v := (-11)) dX4_find_67 (by decide) ?_
              exact R_iret dX4_find_69 rfl (⟨_, rfl, by (unfold anFind; simp only [ec]; rw [if_pos hs3, if_pos ⟨c11, c16⟩, if_pos (bl_t c28), if_neg c35, eu, if_neg (bl_n c64)]), Or.inl rfl⟩)
          · refine R_aload_n dX4_find_38 rfl ?_
            refine R_callVv dX4_find_39 cv_X4_173 ⟨by decide, by decide⟩ (w_writeDocket G hh hC nw dk hdL hm hc) hC rfl rfl rfl (Nat.le_of_ble_eq_true rfl) (fun hh hw => ?_)
            obtain ⟨⟨f, dk, hp⟩, hF⟩ := hw
            have hC := hAt.fr hC hF (by omega)
            have sl := hAt.fr sl hF (by omega)
            have si := si.fr hF (by omega)
            have hl := wrl_len a m
            refine R_aload_n dX4_find_42 rfl ?_
            refine R_get dX4_find_43 gf_X4_18 hC rfl ?_
            refine R_aload_n dX4_find_46 rfl ?_
            refine R_get dX4_find_47 gf_X4_21 hC rfl ?_
            refine R_iload_n dX4_find_50 rfl ?_
            refine R_aldL (q := ad G (6 + 2 * i)) dX4_find_51 sl (vp_in_nI (show i < 3 by omega) (by decide)) (by rw [nI_clamp (by omega)]) ?_
            refine R_callVp dX4_find_52 cv_X4_220 ⟨by decide, by decide⟩ (e_placeOf G hh dk (by omega) (by omega) si hsL (by omega)) dk.1 rfl rfl rfl (Nat.le_of_ble_eq_true rfl) ?_
            refine RR.top (y := plc (fun j => (wrl a m).getD j 0) (lf i) (lL i) 0 ((wrl a m).length + 1 - lL i)) (by (rcases Nat.lt_or_ge (wrl a m).length (lL i) with q | q; rw [show (wrl a m).length + 1 - lL i = 0 by omega]; rfl; exact plc_cg hp _ 0 (by omega))) ?_
            exact R_iret dX4_find_55 rfl (⟨_, rfl, by (unfold anFind; simp only [ec]; rw [if_pos hs3, if_pos ⟨c11, c16⟩, if_pos (bl_t c28), if_pos (Classical.not_not.mp c35)]), Or.inr ⟨⟨f, dk, hp⟩, hF⟩⟩)
        · refine R_bipush (v := (-11)) dX4_find_31 (by decide) ?_
          exact R_iret dX4_find_33 rfl (⟨_, rfl, by (unfold anFind; simp only [ec]; rw [if_pos hs3, if_pos ⟨c11, c16⟩, if_neg (bl_n c28)]), Or.inl rfl⟩)
      · refine R_bipush (v := (-3)) dX4_find_19 (by decide) ?_
        exact R_iret dX4_find_21 rfl (⟨_, rfl, by (unfold anFind; simp only [ec]; rw [if_pos hs3, if_neg (fun q => c16 q.2)]), Or.inl rfl⟩)
  · refine R_bipush (v := (-2)) dX4_find_7 (by decide) ?_
    exact R_iret dX4_find_9 rfl (⟨_, rfl, by (unfold anFind; rw [if_neg (by simpa [bl] using c4)]), Or.inl rfl⟩)
