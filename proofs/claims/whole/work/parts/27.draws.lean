/-- there is a first place of the chain that ends the drawing, soon enough -/
def HX (a : AA) (v : VV) (s p : Int32) (n : Nat) : Prop := 1 ≤ totW a v s n ∧ ∃ K, K ≤ 1000000 ∧ firstK a v s p n (v 12) K
theorem firstK_one {a : AA} {v : VV} {s p : Int32} {n K K' : Nat} {c : Int32} (h : firstK a v s p n c K) (h' : firstK a v s p n c K') : K = K' := by
  rcases Nat.lt_trichotomy K K' with q | q | q
  · exact absurd h.2.1 (h'.2.2 K h.1 q)
  · exact q
  · exact absurd h'.2.1 (h.2.2 K' h'.1 q)
noncomputable def Kf (a : AA) (v : VV) (s p : Int32) (n : Nat) : Nat := Classical.epsilon (fun K => firstK a v s p n (v 12) K)
theorem Kf_ok {a : AA} {v : VV} {s p : Int32} {n : Nat} (h : ∃ K, firstK a v s p n (v 12) K) : firstK a v s p n (v 12) (Kf a v s p n) := Classical.epsilon_spec h
theorem HX.K {a : AA} {v : VV} {s p : Int32} {n : Nat} (h : HX a v s p n) : firstK a v s p n (v 12) (Kf a v s p n) ∧ Kf a v s p n ≤ 1000000 := by
  obtain ⟨-, K, hK, h1⟩ := h
  have h2 := Kf_ok ⟨K, h1⟩
  exact ⟨h2, by rw [firstK_one h2 h1]; exact hK⟩
noncomputable def jF (a : AA) (v : VV) (s p : Int32) (n : Nat) : Nat := judOf a v s n (itT (Kf a v s p n) (v 12))
def erNext (a : AA) (v : VV) (n : Nat) (s p : Int32) : Option Int32 := if (0 ≤ s ∧ s < 5) ∧ (0 ≤ p ∧ p < 10) then if anyFor a v p (-1) 0 n = true then none else some (-4) else some (-3)
def erAsg (a : AA) (v : VV) (n m : Nat) (s p : Int32) : Option Int32 := if (0 ≤ s ∧ s < 5) ∧ (0 ≤ p ∧ p < 10) then if anyFor a v p (-1) 0 n = true then if m < 20 then none else some (-5) else some (-4) else some (-3)
set_option maxRecDepth 4000 in
theorem w_next (G : GG) (hh : HH)  {a : AA} {v : VV} {a3 : AA} {v3 : VV} (hC : hAt G hh 0 (cwO G)) (nw : StAt G hh 32 a v) (fo : StAt G hh 41 a3 v3) {n : Nat} (hn : n ≤ 6) (hv : v 8 = nI n) (s p : Int32) (hX : erNext a v n s p = none → HX a v s p n) : EVi G mX4_next [.ref (ad G 0), .int s, .int p] hh (fun w h1 => match erNext a v n s p with | some e => w = e ∧ h1 = hh | none => w = nI (jF a v s p n) ∧ (∃ a3 v3, StAt G h1 41 a3 v3) ∧ Fr 41 50 hh h1) := by
  refine EV.of [(0, .ref (ad G 0)), (1, .int s), (2, .int p)] (by decide +kernel) (Nat.le_of_ble_eq_true rfl) rfl ?_
  refine R_iload_n dX4_next_0 rfl ?_
  refine R_callSp dX4_next_1 cs_X4_144 ⟨by decide, by decide⟩ (e_isSubject G hh s) rfl rfl (Nat.le_of_ble_eq_true rfl) ?_
  refine R_if_eq (tgt := 14) dX4_next_4 (by decide) (fun c4 => ?_) (fun c4 => ?_)
  · refine R_bipush (v := (-3)) dX4_next_14 (by decide) ?_
    exact R_iret dX4_next_16 rfl (⟨_, rfl, by (have hE : erNext a v n s p = some (-3) := by (unfold erNext; rw [if_neg (fun q => by have q1 := q.1; revert c4; simp [bl, q1])])); (rw [hE]); exact ⟨rfl, rfl⟩⟩)
  · refine R_iload_n dX4_next_7 rfl ?_
    refine R_callSp dX4_next_8 cs_X4_147 ⟨by decide, by decide⟩ (e_isParty G hh p) rfl rfl (Nat.le_of_ble_eq_true rfl) ?_
    refine R_if_ne (tgt := 17) dX4_next_11 (by decide) (fun c11 => ?_) (fun c11 => ?_)
    · refine R_aload_n dX4_next_17 rfl ?_
      refine R_get dX4_next_18 gf_X4_48 hC rfl ?_
      refine R_iload_n dX4_next_21 rfl ?_
      refine R_iconst (v := (-1)) dX4_next_22 (by decide) ?_
      refine R_callVp dX4_next_23 cv_X4_150 ⟨by decide, by decide⟩ (e_hasSomeoneFor G hh nw hn hv p (-1)) nw.1 rfl rfl rfl (Nat.le_of_ble_eq_true rfl) ?_
      refine R_if_ne (tgt := 32) dX4_next_26 (by decide) (fun c26 => ?_) (fun c26 => ?_)
      · have hE : erNext a v n s p = none := by (unfold erNext; rw [if_pos ⟨by simpa [bl] using c4, by simpa [bl] using c11⟩, if_pos (bl_t c26)])
        obtain ⟨hX1, hX2⟩ := (hX hE).K
        refine R_aload_n dX4_next_32 rfl ?_
        refine R_get dX4_next_33 gf_X4_51 hC rfl ?_
        refine R_aload_n dX4_next_36 rfl ?_
        refine R_get dX4_next_37 gf_X4_48 hC rfl ?_
        refine R_callVv dX4_next_40 cv_X4_84 ⟨by decide, by decide⟩ (e_copyFrom G hh fo nw (by omega)) fo.1 rfl rfl rfl (Nat.le_of_ble_eq_true rfl) (fun hh hw => ?_)
        obtain ⟨fo, hF⟩ := hw
        have hC := hAt.fr hC hF (by omega)
        refine R_aload_n dX4_next_43 rfl ?_
        refine R_get dX4_next_44 gf_X4_51 hC rfl ?_
        refine R_iload_n dX4_next_47 rfl ?_
        refine R_iload_n dX4_next_48 rfl ?_
        refine R_callVi dX4_next_49 cv_X4_195 ⟨by decide, by decide⟩ (e_drawJudge G hh fo hn hv s p (hX hE).1 hX1 hX2) fo.1 rfl rfl rfl (Nat.le_of_ble_eq_true rfl) (fun y hh hw => ?_)
        obtain ⟨rfl, g, fo, hF1⟩ := hw
        have hF := hF.tr hF1 (by omega) (by omega)
        exact R_iret dX4_next_52 rfl (⟨_, rfl, by (rw [hE]); exact ⟨rfl, ⟨_, _, fo⟩, hF⟩⟩)
      · refine R_bipush (v := (-4)) dX4_next_29 (by decide) ?_
        exact R_iret dX4_next_31 rfl (⟨_, rfl, by (have hE : erNext a v n s p = some (-4) := by (unfold erNext; rw [if_pos ⟨by simpa [bl] using c4, by simpa [bl] using c11⟩, if_neg (bl_n c26)])); (rw [hE]); exact ⟨rfl, rfl⟩⟩)
    · refine R_bipush (v := (-3)) dX4_next_14 (by decide) ?_
      exact R_iret dX4_next_16 rfl (⟨_, rfl, by (have hE : erNext a v n s p = some (-3) := by (unfold erNext; rw [if_neg (fun q => by have q1 := q.2; revert c11; simp [bl, q1])])); (rw [hE]); exact ⟨rfl, rfl⟩⟩)
set_option maxRecDepth 4000 in
theorem w_assign (G : GG) (hh : HH)  {a : AA} {v : VV} {x z : Nat}  {A : Nat → AA} {W : Nat → VV} (hC : hAt G hh 0 (cwO G)) (nw : StAt G hh 32 a v) (ho : HoAt G hh 50 (nI x) (nI z)) (hx : x < 8) (hz : z ≤ 8) (hr : HrAt G hh 50) (hs : HsAt G hh 50 A W) {n : Nat} (hn : n ≤ 6) (hv : v 8 = nI n) {m : Nat} (hm : m ≤ 20) (hc : v 14 = nI m) (s p : Int32) (hX : erAsg a v n m s p = none → HX a v s p n) : EVi G mX4_assign [.ref (ad G 0), .int s, .int p] hh (fun w h1 => match erAsg a v n m s p with | some e => w = e ∧ h1 = hh | none => w = nI (jF a v s p n) ∧ (∃ g, StAt G h1 32 (va_up (addA a v s p n (jF a v s p n) m) 7 g) (addV v (Kf a v s p n) m)) ∧ HoAt G h1 50 (nI (hiO x z)) (nI (hiZ z)) ∧ HrAt G h1 50 ∧ HsAt G h1 50 (va_up A ((x + z) % 8) (va_up a 7 (A ((x + z) % 8) 7))) (va_up W ((x + z) % 8) v) ∧ FrS [(32, 41), (50, 124)] hh h1) := by
  refine EV.of [(0, .ref (ad G 0)), (1, .int s), (2, .int p)] (by decide +kernel) (Nat.le_of_ble_eq_true rfl) rfl ?_
  have hF : FrS [(32, 41), (50, 124)] hh hh := FrS.rf
  refine R_iload_n dX4_assign_0 rfl ?_
  refine R_callSp dX4_assign_1 cs_X4_144 ⟨by decide, by decide⟩ (e_isSubject G hh s) rfl rfl (Nat.le_of_ble_eq_true rfl) ?_
  refine R_if_eq (tgt := 14) dX4_assign_4 (by decide) (fun c4 => ?_) (fun c4 => ?_)
  · refine R_bipush (v := (-3)) dX4_assign_14 (by decide) ?_
    exact R_iret dX4_assign_16 rfl (⟨_, rfl, by (have hE : erAsg a v n m s p = some (-3) := by (unfold erAsg; rw [if_neg (fun q => by have q1 := q.1; revert c4; simp [bl, q1])])); (rw [hE]); exact ⟨rfl, rfl⟩⟩)
  · refine R_iload_n dX4_assign_7 rfl ?_
    refine R_callSp dX4_assign_8 cs_X4_147 ⟨by decide, by decide⟩ (e_isParty G hh p) rfl rfl (Nat.le_of_ble_eq_true rfl) ?_
    refine R_if_ne (tgt := 17) dX4_assign_11 (by decide) (fun c11 => ?_) (fun c11 => ?_)
    · refine R_aload_n dX4_assign_17 rfl ?_
      refine R_get dX4_assign_18 gf_X4_48 hC rfl ?_
      refine R_iload_n dX4_assign_21 rfl ?_
      refine R_iconst (v := (-1)) dX4_assign_22 (by decide) ?_
      refine R_callVp dX4_assign_23 cv_X4_150 ⟨by decide, by decide⟩ (e_hasSomeoneFor G hh nw hn hv p (-1)) nw.1 rfl rfl rfl (Nat.le_of_ble_eq_true rfl) ?_
      refine R_if_ne (tgt := 32) dX4_assign_26 (by decide) (fun c26 => ?_) (fun c26 => ?_)
      · refine R_aload_n dX4_assign_32 rfl ?_
        refine R_get dX4_assign_33 gf_X4_48 hC rfl ?_
        refine R_get dX4_assign_36 gf_X4_138 nw.1 rfl ?_
        refine R_bipush (v := 20) dX4_assign_39 (by decide) ?_
        refine R_icmp_lt (tgt := 47) dX4_assign_41 (by decide) (fun c41 => ?_) (fun c41 => ?_)
        · have hm20 : m < 20 := by (rw [hc] at c41; exact (nI_ltI (b := 20) (by omega) (by omega)).mp c41)
          have hE : erAsg a v n m s p = none := by (unfold erAsg; rw [if_pos ⟨by simpa [bl] using c4, by simpa [bl] using c11⟩, if_pos (bl_t c26), if_pos hm20])
          obtain ⟨hX1, hX2⟩ := (hX hE).K
          refine R_aload_n dX4_assign_47 rfl ?_
          refine R_get dX4_assign_48 gf_X4_57 hC rfl ?_
          refine R_aload_n dX4_assign_51 rfl ?_
          refine R_get dX4_assign_52 gf_X4_48 hC rfl ?_
          refine R_callVv dX4_assign_55 cv_X4_154 ⟨by decide, by decide⟩ (e_remember G hh ho hr hs nw hx hz (by omega)) ho rfl rfl rfl (Nat.le_of_ble_eq_true rfl) (fun hh hw => ?_)
          obtain ⟨ho, hr, hs, hF1⟩ := hw
          have hF := hF.t1 hF1 (by decide)
          have hC := hAt.fr hC hF1 (by omega)
          have nw := nw.fr hF1 (by omega)
          refine R_aload_n dX4_assign_58 rfl ?_
          refine R_get dX4_assign_59 gf_X4_48 hC rfl ?_
          refine R_iload_n dX4_assign_62 rfl ?_
          refine R_iload_n dX4_assign_63 rfl ?_
          refine R_callVi dX4_assign_64 cv_X4_157 ⟨by decide, by decide⟩ (e_addCase G hh nw hn hv s p (hX hE).1 hX1 hX2 hm20 hc) nw.1 rfl rfl rfl (Nat.le_of_ble_eq_true rfl) (fun y hh hw => ?_)
          obtain ⟨rfl, g, nw, hF1⟩ := hw
          have hF := hF.t1 hF1 (by decide)
          have ho := HoAt.fr ho hF1 (by omega)
          have hr := HrAt.fr hr hF1 (by omega)
          have hs := HsAt.fr hs hF1 (by omega)
          exact R_iret dX4_assign_67 rfl (⟨_, rfl, by (rw [hE]); exact ⟨rfl, ⟨g, nw⟩, ho, hr, hs, hF⟩⟩)
        · refine R_bipush (v := (-5)) dX4_assign_44 (by decide) ?_
          exact R_iret dX4_assign_46 rfl (⟨_, rfl, by (have hE : erAsg a v n m s p = some (-5) := by (unfold erAsg; rw [if_pos ⟨by simpa [bl] using c4, by simpa [bl] using c11⟩, if_pos (bl_t c26), if_neg (fun q => c41 (by rw [hc]; exact nI_lt (b := 20) q (by decide)))])); (rw [hE]); exact ⟨rfl, rfl⟩⟩)
      · refine R_bipush (v := (-4)) dX4_assign_29 (by decide) ?_
        exact R_iret dX4_assign_31 rfl (⟨_, rfl, by (have hE : erAsg a v n m s p = some (-4) := by (unfold erAsg; rw [if_pos ⟨by simpa [bl] using c4, by simpa [bl] using c11⟩, if_neg (bl_n c26)])); (rw [hE]); exact ⟨rfl, rfl⟩⟩)
    · refine R_bipush (v := (-3)) dX4_assign_14 (by decide) ?_
      exact R_iret dX4_assign_16 rfl (⟨_, rfl, by (have hE : erAsg a v n m s p = some (-3) := by (unfold erAsg; rw [if_neg (fun q => by have q1 := q.2; revert c11; simp [bl, q1])])); (rw [hE]); exact ⟨rfl, rfl⟩⟩)
def erRef (a : AA) (v : VV) (n m : Nat) (i : Int32) : Option Int32 := if 0 ≤ i ∧ i < nI m then if anyFor a v (a 5 i.toNatClampNeg) (a 6 i.toNatClampNeg) 0 n = true then none else some (-4) else some (-2)
/-- the arrays when case i was refused, and the judge that is drawn for it then -/
def brA (a : AA) (i : Nat) : AA := barA a i (a 6 i).toNatClampNeg
noncomputable def jR (a : AA) (v : VV) (n i : Nat) : Nat := jF (brA a i) v (a 4 i) (a 5 i) n
set_option maxRecDepth 4000 in
theorem w_refuse (G : GG) (hh : HH)  {a : AA} {v : VV} {x z : Nat}  {A : Nat → AA} {W : Nat → VV} (hC : hAt G hh 0 (cwO G)) (nw : StAt G hh 32 a v) (ho : HoAt G hh 50 (nI x) (nI z)) (hx : x < 8) (hz : z ≤ 8) (hr : HrAt G hh 50) (hs : HsAt G hh 50 A W) {n : Nat} (hn : n ≤ 6) (hv : v 8 = nI n) {m : Nat} (hm : m ≤ 20) (hc : v 14 = nI m) (t : Int32) (hJ : ∀ i, i < m → ∃ jo, jo < 6 ∧ a 6 i = nI jo) (hX : ∀ i, i < m → erRef a v n m (nI i) = none → HX (brA a i) v (a 4 i) (a 5 i) n) : EVi G mX4_refuse [.ref (ad G 0), .int t] hh (fun w h1 => match erRef a v n m t with | some e => w = e ∧ h1 = hh | none => w = nI (jR a v n t.toNatClampNeg) ∧ (∃ g, StAt G h1 32 (va_up (agnA (brA a t.toNatClampNeg) v n (jR a v n t.toNatClampNeg) t.toNatClampNeg) 7 g) (vct v (itT (Kf (brA a t.toNatClampNeg) v (a 4 t.toNatClampNeg) (a 5 t.toNatClampNeg) n) (v 12)) (v 13 + nI (Kf (brA a t.toNatClampNeg) v (a 4 t.toNatClampNeg) (a 5 t.toNatClampNeg) n)))) ∧ HoAt G h1 50 (nI (hiO x z)) (nI (hiZ z)) ∧ HrAt G h1 50 ∧ HsAt G h1 50 (va_up A ((x + z) % 8) (va_up a 7 (A ((x + z) % 8) 7))) (va_up W ((x + z) % 8) v) ∧ FrS [(32, 41), (50, 124)] hh h1) := by
  refine EV.of [(0, .ref (ad G 0)), (1, .int t)] (by decide +kernel) (Nat.le_of_ble_eq_true rfl) rfl ?_
  have hF : FrS [(32, 41), (50, 124)] hh hh := FrS.rf
  refine R_aload_n dX4_refuse_0 rfl ?_
  refine R_get dX4_refuse_1 gf_X4_48 hC rfl ?_
  refine R_iload_n dX4_refuse_4 rfl ?_
  refine R_callVp dX4_refuse_5 cv_X4_123 ⟨by decide, by decide⟩ (e_hasCase G hh nw t) nw.1 rfl rfl rfl (Nat.le_of_ble_eq_true rfl) ?_
  refine R_if_ne (tgt := 14) dX4_refuse_8 (by decide) (fun c8 => ?_) (fun c8 => ?_)
  · have hi3 : 0 ≤ t ∧ t < nI m := by rw [hc] at c8; simpa [bl] using c8
    obtain ⟨i, hi, rfl⟩ := ix_in (n := m) (by omega) (Int32.not_lt.mpr hi3.1) hi3.2
    have ec : (nI i).toNatClampNeg = i := nI_clamp (by omega)
    refine R_aload_n dX4_refuse_14 rfl ?_
    refine R_get dX4_refuse_15 gf_X4_48 hC rfl ?_
    refine R_aload_n dX4_refuse_18 rfl ?_
    refine R_get dX4_refuse_19 gf_X4_48 hC rfl ?_
    refine R_get dX4_refuse_22 gf_X4_129 nw.1 rfl ?_
    refine R_iload_n dX4_refuse_25 rfl ?_
    refine R_ialdN dX4_refuse_26 nw.a5 (by omega) (by decide) ?_
    refine R_aload_n dX4_refuse_27 rfl ?_
    refine R_get dX4_refuse_28 gf_X4_48 hC rfl ?_
    refine R_get dX4_refuse_31 gf_X4_132 nw.1 rfl ?_
    refine R_iload_n dX4_refuse_34 rfl ?_
    refine R_ialdN dX4_refuse_35 nw.a6 (by omega) (by decide) ?_
    refine R_callVp dX4_refuse_36 cv_X4_150 ⟨by decide, by decide⟩ (e_hasSomeoneFor G hh nw hn hv (a 5 i) (a 6 i)) nw.1 rfl rfl rfl (Nat.le_of_ble_eq_true rfl) ?_
    refine R_if_ne (tgt := 45) dX4_refuse_39 (by decide) (fun c39 => ?_) (fun c39 => ?_)
    · have hE : erRef a v n m (nI i) = none := by (unfold erRef; simp only [ec]; rw [if_pos hi3, if_pos (bl_t c39)])
      have hXi := hX i hi hE
      obtain ⟨hX1, hX2⟩ := hXi.K
      obtain ⟨jo, hjo, ej⟩ := hJ i hi
      have ej2 : (a 6 i).toNatClampNeg = jo := by rw [ej]; exact nI_clamp (by omega)
      have eb : brA a i = barA a i jo := by unfold brA; rw [ej2]
      refine R_aload_n dX4_refuse_45 rfl ?_
      refine R_get dX4_refuse_46 gf_X4_57 hC rfl ?_
      refine R_aload_n dX4_refuse_49 rfl ?_
      refine R_get dX4_refuse_50 gf_X4_48 hC rfl ?_
      refine R_callVv dX4_refuse_53 cv_X4_154 ⟨by decide, by decide⟩ (e_remember G hh ho hr hs nw hx hz (by omega)) ho rfl rfl rfl (Nat.le_of_ble_eq_true rfl) (fun hh hw => ?_)
      obtain ⟨ho, hr, hs, hF1⟩ := hw
      have hF := hF.t1 hF1 (by decide)
      have hC := hAt.fr hC hF1 (by omega)
      have nw := nw.fr hF1 (by omega)
      refine R_aload_n dX4_refuse_56 rfl ?_
      refine R_get dX4_refuse_57 gf_X4_48 hC rfl ?_
      refine R_iload_n dX4_refuse_60 rfl ?_
      refine R_callVi dX4_refuse_61 cv_X4_161 ⟨by decide, by decide⟩ (e_drawCaseAgain G hh nw hn hv (by omega) hjo ej (by rw [← eb]; exact hXi.1) (by rw [← eb]; exact hX1) hX2) nw.1 rfl rfl rfl (Nat.le_of_ble_eq_true rfl) (fun y hh hw => ?_)
      rw [← eb] at hw
      obtain ⟨rfl, g, nw, hF1⟩ := hw
      have hF := hF.t1 hF1 (by decide)
      have ho := HoAt.fr ho hF1 (by omega)
      have hr := HrAt.fr hr hF1 (by omega)
      have hs := HsAt.fr hs hF1 (by omega)
      exact R_iret dX4_refuse_64 rfl (⟨_, rfl, by (rw [hE]); exact ⟨by simp only [ec]; rfl, by simp only [ec]; exact ⟨g, nw⟩, ho, hr, hs, hF⟩⟩)
    · refine R_bipush (v := (-4)) dX4_refuse_42 (by decide) ?_
      exact R_iret dX4_refuse_44 rfl (⟨_, rfl, by (have hE : erRef a v n m (nI i) = some (-4) := by (unfold erRef; simp only [ec]; rw [if_pos hi3, if_neg (bl_n c39)])); (rw [hE]); exact ⟨rfl, rfl⟩⟩)
  · refine R_bipush (v := (-2)) dX4_refuse_11 (by decide) ?_
    exact R_iret dX4_refuse_13 rfl (⟨_, rfl, by (have hE : erRef a v n m t = some (-2) := by (unfold erRef; rw [if_neg (by rw [hc] at c8; simpa [bl] using c8)])); (rw [hE]); exact ⟨rfl, rfl⟩⟩)
noncomputable def rcW (w : Int32) (a : AA) (n m : Nat) : Nat → Nat → Nat → AA → VV → Nat × AA × VV
  | 0, _, s, b, u => (s, b, u)
  | d + 1, i, s, b, u =>
    if nI (s + m - i) < w then (s, b, u) else
    rcW w a n m d (i + 1) (if nI (jF b u (a 4 i) (a 5 i) n) = a 6 i then s + 1 else s) (addA b u (a 4 i) (a 5 i) n (jF b u (a 4 i) (a 5 i) n) i) (addV u (Kf b u (a 4 i) (a 5 i) n) i)
/-- in the recount of d cases from i on every drawing ends soon enough -/
def okR (a : AA) (n : Nat) : Nat → Nat → AA → VV → Prop
  | 0, _, _, _ => True
  | d + 1, i, b, u => HX b u (a 4 i) (a 5 i) n ∧ okR a n d (i + 1) (addA b u (a 4 i) (a 5 i) n (jF b u (a 4 i) (a 5 i) n) i) (addV u (Kf b u (a 4 i) (a 5 i) n) i)
set_option maxRecDepth 4000 in
theorem l_recount (G : GG) (hh0 : HH) {a : AA} {v : VV} {m : Nat} (hm : m ≤ 20) (hc : v 14 = nI m) {n : Nat} (hn : n ≤ 6) (sd w : Int32) : ∀ (d i s : Nat) (b : AA) (u : VV) (g : Nat → Int32) (hh : HH), i + d = m → s ≤ i → u 8 = nI n → u 14 = nI i → hAt G hh 0 (cwO G) → StAt G hh 32 a v → StAt G hh 41 (va_up b 7 g) u → okR a n d i b u → Fr 41 50 hh0 hh → RR G mX4_recountBy 13 [(0, .ref (ad G 0)), (1, .int sd), (2, .int w), (3, .int (nI s)), (4, .int (nI i))] [] hh (fun r h1 => ∃ y, r = some (.int y) ∧ (y = nI (rcW w a n m d i s b u).1 ∧ (∃ g, StAt G h1 41 (va_up (rcW w a n m d i s b u).2.1 7 g) (rcW w a n m d i s b u).2.2) ∧ Fr 41 50 hh0 h1)) := by
  intro d
  induction d with
  | zero =>
    intro i s b u g hh hi hsi hu8 hu14 hC nw fo hok hF
    refine R_iload dX4_recountBy_13 rfl ?_
    refine R_aload_n dX4_recountBy_15 rfl ?_
    refine R_get dX4_recountBy_16 gf_X4_48 hC rfl ?_
    refine R_get dX4_recountBy_19 gf_X4_138 nw.1 rfl ?_
    refine R_icmp_ge (tgt := 90) dX4_recountBy_22 (by decide) (fun c22 => ?_) (fun c22 => absurd (by rw [hc]; exact nI_le (by omega) (by omega)) c22)
    refine R_iload_n dX4_recountBy_90 rfl ?_
    exact R_iret dX4_recountBy_91 rfl (⟨_, rfl, rfl, ⟨g, fo⟩, hF⟩)
  | succ d ih =>
    intro i s b u g hh hi hsi hu8 hu14 hC nw fo hok hF
    refine R_iload dX4_recountBy_13 rfl ?_
    refine R_aload_n dX4_recountBy_15 rfl ?_
    refine R_get dX4_recountBy_16 gf_X4_48 hC rfl ?_
    refine R_get dX4_recountBy_19 gf_X4_138 nw.1 rfl ?_
    refine R_icmp_ge (tgt := 90) dX4_recountBy_22 (by decide) (fun c22 => absurd c22 (by rw [hc]; exact nI_ge (by omega) (by omega))) (fun c22 => ?_)
    refine R_iload_n dX4_recountBy_25 rfl ?_
    refine R_aload_n dX4_recountBy_26 rfl ?_
    refine R_get dX4_recountBy_27 gf_X4_48 hC rfl ?_
    refine R_get dX4_recountBy_30 gf_X4_138 nw.1 rfl ?_
    refine R_iadd dX4_recountBy_33 ?_
    refine R_iload dX4_recountBy_34 rfl ?_
    refine R_isub dX4_recountBy_36 ?_
    refine RR.top (y := nI (s + m - i)) (by rw [hc, nI_add]; exact pk_sub (by omega)) ?_
    refine R_iload_n dX4_recountBy_37 rfl ?_
    refine R_icmp_lt (tgt := 90) dX4_recountBy_38 (by decide) (fun c38 => ?_) (fun c38 => ?_)
    · refine R_iload_n dX4_recountBy_90 rfl ?_
      exact R_iret dX4_recountBy_91 rfl (⟨_, rfl, by (rw [show rcW w a n m (d + 1) i s b u = (s, b, u) from if_pos c38]); exact ⟨rfl, ⟨g, fo⟩, hF⟩⟩)
    · refine R_aload_n dX4_recountBy_41 rfl ?_
      refine R_get dX4_recountBy_42 gf_X4_51 hC rfl ?_
      refine R_aload_n dX4_recountBy_45 rfl ?_
      refine R_get dX4_recountBy_46 gf_X4_48 hC rfl ?_
      refine R_get dX4_recountBy_49 gf_X4_126 nw.1 rfl ?_
      refine R_iload dX4_recountBy_52 rfl ?_
      refine R_ialdN dX4_recountBy_54 nw.a4 (by omega) (by decide) ?_
      refine R_aload_n dX4_recountBy_55 rfl ?_
      refine R_get dX4_recountBy_56 gf_X4_48 hC rfl ?_
      refine R_get dX4_recountBy_59 gf_X4_129 nw.1 rfl ?_
      refine R_iload dX4_recountBy_62 rfl ?_
      refine R_ialdN dX4_recountBy_64 nw.a5 (by omega) (by decide) ?_
      refine R_callVi dX4_recountBy_65 cv_X4_157 ⟨by decide, by decide⟩ (e_addCase G hh fo hn hu8 (a 4 i) (a 5 i) hok.1.1 hok.1.K.1 hok.1.K.2 (by omega) hu14) fo.1 rfl rfl rfl (Nat.le_of_ble_eq_true rfl) (fun y hh hw => ?_)
      obtain ⟨rfl, g2, fo, hF1⟩ := hw
      have hF := hF.tr hF1 (by omega) (by omega)
      have hC := hAt.fr hC hF1 (by omega)
      have nw := nw.fr hF1 (by omega)
      have fo := fo.cgv (a' := va_up (addA b u (a 4 i) (a 5 i) n (jF b u (a 4 i) (a 5 i) n) i) 7 g2) (fun j hj => by rcases (show j = 0 ∨ j = 1 ∨ j = 2 ∨ j = 3 ∨ j = 4 ∨ j = 5 ∨ j = 6 ∨ j = 7 by omega) with rfl | rfl | rfl | rfl | rfl | rfl | rfl | rfl <;> rfl) (fun _ _ _ => rfl)
      refine R_aload_n dX4_recountBy_68 rfl ?_
      refine R_get dX4_recountBy_69 gf_X4_48 hC rfl ?_
      refine R_get dX4_recountBy_72 gf_X4_132 nw.1 rfl ?_
      refine R_iload dX4_recountBy_75 rfl ?_
      refine R_ialdN dX4_recountBy_77 nw.a6 (by omega) (by decide) ?_
      refine R_icmp_ne (tgt := 84) dX4_recountBy_78 (by decide) (fun c78 => ?_) (fun c78 => ?_)
      · refine R_iinc (y := nI (i + 1)) dX4_recountBy_84 rfl (by decide) (nI_s i) ?_
        refine R_goto (tgt := 13) dX4_recountBy_87 (by decide) ?_
        have c78 : ¬ nI (jF b u (a 4 i) (a 5 i) n) = a 6 i := c78
        rw [show rcW w a n m (d + 1) i s b u = rcW w a n m d (i + 1) (s) (addA b u (a 4 i) (a 5 i) n (jF b u (a 4 i) (a 5 i) n) i) (addV u (Kf b u (a 4 i) (a 5 i) n) i) from by (show (if _ then _ else _) = _; rw [if_neg c38, if_neg c78])]
        exact RR.pick [1, 2, 3, 4, 0] rfl (ih (i + 1) _ _ _ _ hh (by omega) (by omega) hu8 rfl hC nw fo hok.2 hF)
      · refine R_iinc (y := nI (s + 1)) dX4_recountBy_81 rfl (by decide) (nI_s s) ?_
        refine R_iinc (y := nI (i + 1)) dX4_recountBy_84 rfl (by decide) (nI_s i) ?_
        refine R_goto (tgt := 13) dX4_recountBy_87 (by decide) ?_
        have c78 : ¬ ¬ nI (jF b u (a 4 i) (a 5 i) n) = a 6 i := c78
        rw [show rcW w a n m (d + 1) i s b u = rcW w a n m d (i + 1) (s + 1) (addA b u (a 4 i) (a 5 i) n (jF b u (a 4 i) (a 5 i) n) i) (addV u (Kf b u (a 4 i) (a 5 i) n) i) from by (show (if _ then _ else _) = _; rw [if_neg c38, if_pos (Classical.not_not.mp c78)])]
        exact RR.pick [2, 3, 4, 1, 0] rfl (ih (i + 1) _ _ _ _ hh (by omega) (by omega) hu8 rfl hC nw fo hok.2 hF)
set_option maxRecDepth 4000 in
theorem w_recountBy (G : GG) (hh : HH)  {a : AA} {v : VV} {a3 : AA} {v3 : VV} (hC : hAt G hh 0 (cwO G)) (nw : StAt G hh 32 a v) (fo : StAt G hh 41 a3 v3) {m : Nat} (hm : m ≤ 20) (hc : v 14 = nI m) {n : Nat} (hn : n ≤ 6) (h8 : v3 8 = nI n) (sd w : Int32) (hok : okR a n m 0 (sealA a3) (sealV v3 sd)) : EVi G mX4_recountBy [.ref (ad G 0), .int sd, .int w] hh (fun y h1 => y = nI (rcW w a n m m 0 0 (sealA a3) (sealV v3 sd)).1 ∧ (∃ g, StAt G h1 41 (va_up (rcW w a n m m 0 0 (sealA a3) (sealV v3 sd)).2.1 7 g) (rcW w a n m m 0 0 (sealA a3) (sealV v3 sd)).2.2) ∧ Fr 41 50 hh h1) := by
  refine EV.of [(0, .ref (ad G 0)), (1, .int sd), (2, .int w)] (by decide +kernel) (Nat.le_of_ble_eq_true rfl) rfl ?_
  refine R_iconst (v := 0) dX4_recountBy_0 (by decide) ?_
  refine R_istore_n dX4_recountBy_1 (by decide) ?_
  refine R_aload_n dX4_recountBy_2 rfl ?_
  refine R_get dX4_recountBy_3 gf_X4_51 hC rfl ?_
  refine R_iload_n dX4_recountBy_6 rfl ?_
  refine R_callVv dX4_recountBy_7 cv_X4_141 ⟨by decide, by decide⟩ (e_startAnew G hh fo sd) fo.1 rfl rfl rfl (Nat.le_of_ble_eq_true rfl) (fun hh hw => ?_)
  obtain ⟨fo, hF⟩ := hw
  have hC := hAt.fr hC hF (by omega)
  have nw := nw.fr hF (by omega)
  refine R_iconst (v := 0) dX4_recountBy_10 (by decide) ?_
  refine R_istore dX4_recountBy_11 (by decide) ?_
  exact RR.pick [2, 3, 4, 1, 0] rfl (l_recount G _ hm hc hn sd w m 0 0 (sealA a3) (sealV v3 sd) (a3 7) hh (by omega) (Nat.le_refl 0) h8 rfl hC nw (fo.cgv (fun j hj => by rcases (show j = 0 ∨ j = 1 ∨ j = 2 ∨ j = 3 ∨ j = 4 ∨ j = 5 ∨ j = 6 ∨ j = 7 by omega) with rfl | rfl | rfl | rfl | rfl | rfl | rfl | rfl <;> rfl) (fun _ _ _ => rfl)) hok hF)
def erCount (a : AA) (v : VV) (n m : Nat) (s w : Int32) : Option Int32 := if 1 ≤ s ∧ ¬ w < 0 ∧ w ≤ 1 then if allFor a v n 0 m = true then none else some (-4) else some (-3)
noncomputable def rcF (w : Int32) (a : AA) (v : VV) (n m : Nat) (s : Int32) : Nat × AA × VV := rcW w a n m m 0 0 (sealA a) (sealV v s)
theorem wt_cg {a a' : AA} (h : ∀ j, j < 4 → a j = a' j) (v : VV) : wt a v = wt a' v := by
  funext j s
  unfold wt
  rw [h 0 (by omega), h 1 (by omega), h 3 (by omega)]
theorem fre_cg {a a' : AA} (h : ∀ j, j < 4 → a j = a' j) (v : VV) : fre a v = fre a' v := by
  funext j p
  unfold fre
  rw [h 2 (by omega)]
theorem judOf_cg {a a' : AA} (h : ∀ j, j < 4 → a j = a' j) (v : VV) : judOf a v = judOf a' v ∧ totW a v = totW a' v := by
  constructor
  · funext s n c
    unfold judOf totW wtj
    rw [wt_cg h v]
  · funext s n
    unfold totW wtj
    rw [wt_cg h v]
theorem firstK_cg {a a' : AA} (h : ∀ j, j < 4 → a j = a' j) (v : VV) : firstK a v = firstK a' v := by
  funext s p n c K
  unfold firstK goodI
  rw [(judOf_cg h v).1, (judOf_cg h v).2, fre_cg h v]
theorem Kf_cg {a a' : AA} (h : ∀ j, j < 4 → a j = a' j) (v : VV) : Kf a v = Kf a' v ∧ jF a v = jF a' v ∧ HX a v = HX a' v := by
  have e : Kf a v = Kf a' v := by
    funext s p n
    unfold Kf
    rw [firstK_cg h v]
  refine ⟨e, ?_, ?_⟩
  · funext s p n
    unfold jF
    rw [e, (judOf_cg h v).1]
  · funext s p n
    unfold HX
    rw [firstK_cg h v, (judOf_cg h v).2]
theorem addA_cg {a a' : AA} (h : ∀ j, j < 4 → a j = a' j) (v : VV) (s p : Int32) (n j c : Nat) : ∀ i, i < 4 → addA a v s p n j c i = addA a' v s p n j c i := by
  intro i hi
  have e : nwD a v (nI j) n = nwD a' v (nI j) n := by
    funext k
    unfold nwD togS
    have e2 : stA a v = stA a' v := by
      funext k
      unfold stA
      rw [h 0 (by omega)]
    rw [e2, h 3 (by omega)]
  rcases (show i = 0 ∨ i = 1 ∨ i = 2 ∨ i = 3 by omega) with rfl | rfl | rfl | rfl
  · exact h 0 (by omega)
  · exact h 1 (by omega)
  · exact h 2 (by omega)
  · show mixA (nwD a v (nI j) n) (a 3) n = mixA (nwD a' v (nI j) n) (a' 3) n
    rw [e, h 3 (by omega)]
theorem rcW_cg {w : Int32} {a : AA} {n m : Nat} : ∀ (d i s : Nat) {b b' : AA} {u : VV}, (∀ j, j < 4 → b j = b' j) → (rcW w a n m d i s b u).1 = (rcW w a n m d i s b' u).1 ∧ (rcW w a n m d i s b u).2.2 = (rcW w a n m d i s b' u).2.2 ∧ ∀ j, j < 4 → (rcW w a n m d i s b u).2.1 j = (rcW w a n m d i s b' u).2.1 j
  | 0, _, _, _, _, _, h => ⟨rfl, rfl, h⟩
  | d + 1, i, s, b, b', u, h => by
    have e := Kf_cg h u
    unfold rcW
    rw [e.1, e.2.1]
    by_cases q : nI (s + m - i) < w
    · simp only [if_pos q]; exact ⟨trivial, trivial, h⟩
    · simp only [if_neg q]
      exact rcW_cg d (i + 1) _ (addA_cg h u _ _ _ _ _)
theorem okR_cg {a : AA} {n : Nat} : ∀ (d i : Nat) {b b' : AA} {u : VV}, (∀ j, j < 4 → b j = b' j) → okR a n d i b' u → okR a n d i b u
  | 0, _, _, _, _, _, _ => trivial
  | d + 1, i, b, b', u, h, ho => by
    have e := Kf_cg h u
    unfold okR
    rw [e.1, e.2.1, e.2.2]
    exact ⟨ho.1, okR_cg d (i + 1) (addA_cg h u _ _ _ _ _) ho.2⟩
set_option maxRecDepth 4000 in
theorem w_count (G : GG) (hh : HH)  {a : AA} {v : VV} {a3 : AA} {v3 : VV} (hC : hAt G hh 0 (cwO G)) (nw : StAt G hh 32 a v) (fo : StAt G hh 41 a3 v3) {n : Nat} (hn : n ≤ 6) (hv : v 8 = nI n) {m : Nat} (hm : m ≤ 20) (hc : v 14 = nI m) (s w : Int32) (hok : erCount a v n m s w = none → okR a n m 0 (sealA a) (sealV v s)) : EVi G mX4_count [.ref (ad G 0), .int s, .int w] hh (fun y h1 => match erCount a v n m s w with | some e => y = e ∧ h1 = hh | none => y = (if w = 0 then nI (rcF 0 a v n m s).1 else (rcF 0 a v n m s).2.2 13) ∧ (∃ a3 v3, StAt G h1 41 a3 v3) ∧ Fr 41 50 hh h1) := by
  refine EV.of [(0, .ref (ad G 0)), (1, .int s), (2, .int w)] (by decide +kernel) (Nat.le_of_ble_eq_true rfl) rfl ?_
  refine R_iload_n dX4_count_0 rfl ?_
  refine R_callSp dX4_count_1 cs_X4_135 ⟨by decide, by decide⟩ (e_isSeed G hh s) rfl rfl (Nat.le_of_ble_eq_true rfl) ?_
  refine R_if_eq (tgt := 16) dX4_count_4 (by decide) (fun c4 => ?_) (fun c4 => ?_)
  · refine R_bipush (v := (-3)) dX4_count_16 (by decide) ?_
    exact R_iret dX4_count_18 rfl (⟨_, rfl, by (have hE : erCount a v n m s w = some (-3) := by (unfold erCount; rw [if_neg (fun q => by have q1 := q.1; revert c4; simp [bl, q1])])); (rw [hE]); exact ⟨rfl, rfl⟩⟩)
  · refine R_iload_n dX4_count_7 rfl ?_
    refine R_if_lt (tgt := 16) dX4_count_8 (by decide) (fun c8 => ?_) (fun c8 => ?_)
    · refine R_bipush (v := (-3)) dX4_count_16 (by decide) ?_
      exact R_iret dX4_count_18 rfl (⟨_, rfl, by (have hE : erCount a v n m s w = some (-3) := by (unfold erCount; rw [if_neg (fun q => q.2.1 c8)])); (rw [hE]); exact ⟨rfl, rfl⟩⟩)
    · refine R_iload_n dX4_count_11 rfl ?_
      refine R_iconst (v := 1) dX4_count_12 (by decide) ?_
      refine R_icmp_le (tgt := 19) dX4_count_13 (by decide) (fun c13 => ?_) (fun c13 => ?_)
      · refine R_aload_n dX4_count_19 rfl ?_
        refine R_get dX4_count_20 gf_X4_48 hC rfl ?_
        refine R_callVp dX4_count_23 cv_X4_198 ⟨by decide, by decide⟩ (e_everyCase G hh nw hn hv hm hc) nw.1 rfl rfl rfl (Nat.le_of_ble_eq_true rfl) ?_
        refine R_if_ne (tgt := 32) dX4_count_26 (by decide) (fun c26 => ?_) (fun c26 => ?_)
        · have hE : erCount a v n m s w = none := by (unfold erCount; rw [if_pos ⟨by simpa [bl] using c4, c8, c13⟩, if_pos (bl_t c26)])
          refine R_aload_n dX4_count_32 rfl ?_
          refine R_get dX4_count_33 gf_X4_51 hC rfl ?_
          refine R_aload_n dX4_count_36 rfl ?_
          refine R_get dX4_count_37 gf_X4_48 hC rfl ?_
          refine R_callVv dX4_count_40 cv_X4_84 ⟨by decide, by decide⟩ (e_copyFrom G hh fo nw (by omega)) fo.1 rfl rfl rfl (Nat.le_of_ble_eq_true rfl) (fun hh hw => ?_)
          obtain ⟨fo, hF⟩ := hw
          have hC := hAt.fr hC hF (by omega)
          have nw := nw.fr hF (by omega)
          refine R_aload_n dX4_count_43 rfl ?_
          refine R_iload_n dX4_count_44 rfl ?_
          refine R_iconst (v := 0) dX4_count_45 (by decide) ?_
          refine R_callVi dX4_count_46 cv_X4_202 ⟨by decide, by decide⟩ (w_recountBy G hh hC nw fo hm hc hn hv s 0 (okR_cg (a := a) (n := n) m 0 (fun j hj => by rcases (show j = 0 ∨ j = 1 ∨ j = 2 ∨ j = 3 by omega) with rfl | rfl | rfl | rfl <;> rfl) (hok hE))) hC rfl rfl rfl (Nat.le_of_ble_eq_true rfl) (fun y hh hw => ?_)
          obtain ⟨rfl, ⟨g, fo⟩, hF1⟩ := hw
          have hF := hF.tr hF1 (by omega) (by omega)
          have hC := hAt.fr hC hF1 (by omega)
          have eR := rcW_cg (w := 0) (a := a) (n := n) (m := m) m 0 0 (b := sealA (va_up a 7 (a3 7))) (b' := sealA a) (u := sealV v s) (fun j hj => by rcases (show j = 0 ∨ j = 1 ∨ j = 2 ∨ j = 3 by omega) with rfl | rfl | rfl | rfl <;> rfl)
          refine R_istore_n dX4_count_49 (by decide) ?_
          refine R_iload_n dX4_count_50 rfl ?_
          refine R_if_ne (tgt := 58) dX4_count_51 (by decide) (fun c51 => ?_) (fun c51 => ?_)
          · refine R_aload_n dX4_count_58 rfl ?_
            refine R_get dX4_count_59 gf_X4_51 hC rfl ?_
            refine R_get dX4_count_62 gf_X4_205 fo.1 rfl ?_
            exact R_iret dX4_count_65 rfl (⟨_, rfl, by (rw [hE]); exact ⟨by (rw [if_neg c51]; exact congrFun eR.2.1 13), ⟨_, _, fo⟩, hF⟩⟩)
          · refine R_iload_n dX4_count_54 rfl ?_
            refine R_goto (tgt := 65) dX4_count_55 (by decide) ?_
            exact R_iret dX4_count_65 rfl (⟨_, rfl, by (rw [hE]); exact ⟨by (rw [if_pos (Classical.not_not.mp c51)]; exact congrArg nI eR.1), ⟨_, _, fo⟩, hF⟩⟩)
        · refine R_bipush (v := (-4)) dX4_count_29 (by decide) ?_
          exact R_iret dX4_count_31 rfl (⟨_, rfl, by (have hE : erCount a v n m s w = some (-4) := by (unfold erCount; rw [if_pos ⟨by simpa [bl] using c4, c8, c13⟩, if_neg (bl_n c26)])); (rw [hE]); exact ⟨rfl, rfl⟩⟩)
      · refine R_bipush (v := (-3)) dX4_count_16 (by decide) ?_
        exact R_iret dX4_count_18 rfl (⟨_, rfl, by (have hE : erCount a v n m s w = some (-3) := by (unfold erCount; rw [if_neg (fun q => c13 q.2.2)])); (rw [hE]); exact ⟨rfl, rfl⟩⟩)
