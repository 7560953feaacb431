theorem cpR_in {r : Nat → Int32} {x y n j : Nat} (h : j < n) : cpR r x y n (y + j) = r (x + j) := by unfold cpR; rw [if_pos (by omega), show y + j - y = j by omega]
theorem cpR_out {r : Nat → Int32} {x y n j : Nat} (h : j < y ∨ y + n ≤ j) : cpR r x y n j = r j := by unfold cpR; rw [if_neg (by omega)]
theorem seR_o {r : Nat → Int32} {B i : Nat} {s : Int32} (h : i < B ∨ B + 4 ≤ i) (h2 : i < B + 11 ∨ B + 17 ≤ i) : seR r B s i = r i := by
  unfold seR zrF
  rw [if_neg (by omega), pk_un (by omega), pk_un (by omega), pk_un (by omega), pk_un (by omega)]
theorem seR_0 {r : Nat → Int32} {B : Nat} {s : Int32} : seR r B s B = s := by
  unfold seR zrF
  rw [if_neg (by omega), pk_un (by omega), pk_un (by omega), pk_un (by omega), pk_us]
theorem seR_1 {r : Nat → Int32} {B : Nat} {s : Int32} : seR r B s (B + 1) = s := by
  unfold seR zrF
  rw [if_neg (by omega), pk_un (by omega), pk_un (by omega), pk_us]
theorem seR_2 {r : Nat → Int32} {B : Nat} {s : Int32} : seR r B s (B + 2) = 0 := by
  unfold seR zrF
  rw [if_neg (by omega), pk_un (by omega), pk_us]
theorem seR_3 {r : Nat → Int32} {B : Nat} {s : Int32} : seR r B s (B + 3) = 0 := by
  unfold seR zrF
  rw [if_neg (by omega), pk_us]
theorem seR_d {r : Nat → Int32} {B j : Nat} {s : Int32} (h : j < 6) : seR r B s (B + 11 + j) = 0 := by
  unfold seR zrF
  rw [if_pos (by omega)]
theorem rcW0_s {a : AA} {n m d i s : Nat} {b : AA} {u : VV} (h : s + m - i < 2 ^ 31) : rcW 0 a n m (d + 1) i s b u = rcW 0 a n m d (i + 1) (if nI (jF b u (a 4 i) (a 5 i) n) = a 6 i then s + 1 else s) (addA b u (a 4 i) (a 5 i) n (jF b u (a 4 i) (a 5 i) n) i) (addV u (Kf b u (a 4 i) (a 5 i) n) i) := by
  exact if_neg (fun q : nI (s + m - i) < 0 => absurd ((nI_ltI (b := 0) h (by decide)).mp q) (by omega))
theorem rc_bd {a : AA} {n m : Nat} : ∀ (d i s : Nat) (b : AA) (u : VV), (rcW 0 a n m d i s b u).1 ≤ s + d
  | 0, _, _, _, _ => Nat.le_refl _
  | d + 1, i, s, b, u => by
    show (if nI (s + m - i) < 0 then (s, b, u) else _).1 ≤ _
    by_cases q : nI (s + m - i) < 0
    · rw [if_pos q]; show s ≤ _; omega
    · rw [if_neg q]
      have := rc_bd (a := a) (n := n) (m := m) d (i + 1) (if nI (jF b u (a 4 i) (a 5 i) n) = a 6 i then s + 1 else s) (addA b u (a 4 i) (a 5 i) n (jF b u (a 4 i) (a 5 i) n) i) (addV u (Kf b u (a 4 i) (a 5 i) n) i)
      split at this <;> split <;> simp_all <;> omega
theorem rc_w {a : AA} {n m : Nat} {w : Int32} (hm : m ≤ 20) : ∀ (d i s : Nat) (b : AA) (u : VV), i + d = m → s ≤ i → (w ≤ nI (rcW w a n m d i s b u).1 ↔ w ≤ nI (rcW 0 a n m d i s b u).1)
  | 0, _, _, _, _, _, _ => Iff.rfl
  | d + 1, i, s, b, u, hi, hs => by
    have hb := rc_bd (a := a) (n := n) (m := m) (d + 1) i s b u
    by_cases q : nI (s + m - i) < w
    · have e : rcW w a n m (d + 1) i s b u = (s, b, u) := if_pos q
      rw [e]
      have h1 : ¬ w ≤ nI s := fun r => absurd ((nI_ltI (by omega) (by omega)).mp (Int32.lt_of_lt_of_le q r)) (by omega)
      have h2 : ¬ w ≤ nI (rcW 0 a n m (d + 1) i s b u).1 := fun r => absurd ((nI_ltI (by omega) (by omega)).mp (Int32.lt_of_lt_of_le q r)) (by omega)
      exact ⟨fun r => absurd r h1, fun r => absurd r h2⟩
    · have e : rcW w a n m (d + 1) i s b u = rcW w a n m d (i + 1) (if nI (jF b u (a 4 i) (a 5 i) n) = a 6 i then s + 1 else s) (addA b u (a 4 i) (a 5 i) n (jF b u (a 4 i) (a 5 i) n) i) (addV u (Kf b u (a 4 i) (a 5 i) n) i) := if_neg q
      rw [e, rcW0_s (by omega)]
      refine rc_w hm d (i + 1) _ _ _ (by omega) ?_
      split <;> omega

set_option maxRecDepth 4000 in
theorem m_next (G : GG) (hh : HH) {k : Nat} {a : AA} {v : VV} (h : MdAt G hh k a v) {n : Nat} (hn : n ≤ 6) (hv : v 1 = nI n) (hr : ruleOK (v 2)) (s p : Int32) (hX : erNext (mA a 0) (mV a v 0) n s p = none → HX (mA a 0) (mV a v 0) s p n) : EVi G mX5_next [.ref (ad G k), .int s, .int p] hh (fun w h1 => match erNext (mA a 0) (mV a v 0) n s p with | some e => w = e ∧ h1 = hh | none => w = nI (jF (mA a 0) (mV a v 0) s p n) ∧ ∃ R, MdAt G h1 k (va_up a 0 R) v ∧ (∀ j, j < 924 → R j = a 0 j) ∧ Fr k (k + 11) hh h1) := by
  refine EV.of [(0, .ref (ad G k)), (1, .int s), (2, .int p)] (by decide +kernel) (Nat.le_of_ble_eq_true rfl) rfl ?_
  have hF : Fr k (k + 11) hh hh := Fr.rf
  refine R_iload_n dX5_next_0 rfl ?_
  refine R_callSp dX5_next_1 cs_X5_173 ⟨by decide, by decide⟩ (d_isSubject G hh s) rfl rfl (Nat.le_of_ble_eq_true rfl) ?_
  refine R_if_eq (tgt := 14) dX5_next_4 (by decide) (fun c4 => ?_) (fun c4 => ?_)
  · refine R_bipush (v := (-3)) dX5_next_14 (by decide) ?_
    exact R_iret dX5_next_16 rfl (⟨_, rfl, by (have hE : erNext (mA a 0) (mV a v 0) n s p = some (-3) := by (unfold erNext; rw [if_neg (fun q => df c4 q.1)])); (rw [hE]); exact ⟨rfl, rfl⟩⟩)
  · refine R_iload_n dX5_next_7 rfl ?_
    refine R_callSp dX5_next_8 cs_X5_176 ⟨by decide, by decide⟩ (d_isParty G hh p) rfl rfl (Nat.le_of_ble_eq_true rfl) ?_
    refine R_if_ne (tgt := 17) dX5_next_11 (by decide) (fun c11 => ?_) (fun c11 => ?_)
    · refine R_aload_n dX5_next_17 rfl ?_
      refine R_iconst (v := 0) dX5_next_18 (by decide) ?_
      refine R_iload_n dX5_next_19 rfl ?_
      refine R_iconst (v := (-1)) dX5_next_20 (by decide) ?_
      refine R_callVp dX5_next_21 cv_X5_179 ⟨by decide, by decide⟩ (m_isAnyone G hh h hn hv (B := 0) (by omega) p (-1)) h.1 rfl rfl rfl (Nat.le_of_ble_eq_true rfl) ?_
      refine R_if_ne (tgt := 30) dX5_next_24 (by decide) (fun c24 => ?_) (fun c24 => ?_)
      · have hE : erNext (mA a 0) (mV a v 0) n s p = none := by (unfold erNext; rw [if_pos ⟨dt c4, dt c11⟩, if_pos (bl_t c24)])
        have hX1 := hX hE
        have hn0 := hX1.n0
        have hKf := (hX1.K).1
        refine R_aload_n dX5_next_30 rfl ?_
        refine R_iconst (v := 0) dX5_next_31 (by decide) ?_
        refine R_sipush (v := 924) dX5_next_32 (by decide) ?_
        refine R_callVv dX5_next_35 cv_X5_44 ⟨by decide, by decide⟩ (m_copyRow G hh h 0 924 (by omega) (by omega) (by omega)) h.1 rfl rfl rfl (Nat.le_of_ble_eq_true rfl) (fun hh hw => ?_)
        obtain ⟨h, hF1⟩ := hw
        have hF := hF.tr hF1 (by omega) (by omega)
        refine R_aload_n dX5_next_38 rfl ?_
        refine R_sipush (v := 924) dX5_next_39 (by decide) ?_
        refine R_iload_n dX5_next_42 rfl ?_
        refine R_iload_n dX5_next_43 rfl ?_
        have hag : agJ n (mA (va_up a 0 (cpR (a 0) 0 924 77)) 924) (mV (va_up a 0 (cpR (a 0) 0 924 77)) v 924) (mA a 0) (mV a v 0) := ag_row hn (fun i h1 h2 => cpR_in (by omega)) rfl rfl rfl
        have hch : (va_up a 0 (cpR (a 0) 0 924 77)) 0 (924 + 1) = a 0 1 := (show cpR (a 0) 0 924 77 (924 + 1) = a 0 (0 + 1) from cpR_in (by omega))
        refine R_callVi dX5_next_44 cv_X5_185 ⟨by decide, by decide⟩ (m_assigned G hh h (B := 924) (by omega) hr hn hv hn0 s p (by (rw [hag.tot]); exact hX1.1) (K := (Kf (mA a 0) (mV a v 0) s p n)) (by (rw [hch, hag.first hn0]); exact hKf)) h.1 rfl rfl rfl (Nat.le_of_ble_eq_true rfl) (fun w1 hh hw => ?_)
        obtain ⟨rfl, h, hF1⟩ := hw
        have hF := hF.tr hF1 (by omega) (by omega)
        have eJ : judOf (mA (va_up a 0 (cpR (a 0) 0 924 77)) 924) (mV (va_up a 0 (cpR (a 0) 0 924 77)) v 924) s n (itT (Kf (mA a 0) (mV a v 0) s p n) ((va_up a 0 (cpR (a 0) 0 924 77)) 0 (924 + 1))) = (jF (mA a 0) (mV a v 0) s p n) := by
          rw [hch]
          exact hag.jud s _
        rw [eJ]
        exact R_iret dX5_next_47 rfl (⟨_, rfl, by (rw [hE]); exact ⟨rfl, _, h.cg (bx_uu _ _ _ _) rfl, fun j hj => (asR_o (by omega) (by omega) (by omega)).trans (cpR_out (by omega)), hF⟩⟩)
      · refine R_bipush (v := (-4)) dX5_next_27 (by decide) ?_
        exact R_iret dX5_next_29 rfl (⟨_, rfl, by (have hE : erNext (mA a 0) (mV a v 0) n s p = some (-4) := by (unfold erNext; rw [if_pos ⟨dt c4, dt c11⟩, if_neg (bl_n c24)])); (rw [hE]); exact ⟨rfl, rfl⟩⟩)
    · refine R_bipush (v := (-3)) dX5_next_14 (by decide) ?_
      exact R_iret dX5_next_16 rfl (⟨_, rfl, by (have hE : erNext (mA a 0) (mV a v 0) n s p = some (-3) := by (unfold erNext; rw [if_neg (fun q => dfn c11 q.2)])); (rw [hE]); exact ⟨rfl, rfl⟩⟩)
theorem all_s (a : AA) (v : VV) (n i : Nat) : allFor a v n 0 (i + 1) = (allFor a v n 0 i && anyFor a v (a 5 i) (-1) 0 n) := by
  unfold allFor
  rw [List.range'_1_concat, List.all_append, Nat.zero_add]
  simp
set_option maxRecDepth 4000 in
theorem l_canCount (G : GG) (hh : HH) {k : Nat} {a : AA} {v : VV} (h : MdAt G hh k a v) {n : Nat} (hn : n ≤ 6) (hv : v 1 = nI n) {m : Nat} (hm : m ≤ 20) (hc : a 0 3 = nI m) : ∀ (d i : Nat), i + d = m → RR G mX5_canCount 4 [(0, .ref (ad G k)), (1, .int (bl (allFor (mA a 0) (mV a v 0) n 0 i))), (2, .int (nI i))] [] hh (fun r h1 => ∃ w, r = some (.int w) ∧ (w = bl (allFor (mA a 0) (mV a v 0) n 0 m) ∧ h1 = hh)) := by
  intro d
  induction d with
  | zero =>
    intro i hi
    refine R_iload_n dX5_canCount_4 rfl ?_
    refine R_aload_n dX5_canCount_5 rfl ?_
    refine R_get dX5_canCount_6 gf_X5_7 h.1 rfl ?_
    refine R_iconst (v := 3) dX5_canCount_9 (by decide) ?_
    refine R_ialdN dX5_canCount_10 h.a0 (by first | omega | decide) (by decide) ?_
    refine RR.top (y := nI (m)) (hc) ?_
    refine R_icmp_ge (tgt := 48) dX5_canCount_11 (by decide) (fun c11 => ?_) (fun c11 => absurd (nI_le (by omega) (by omega)) c11)
    refine R_iload_n dX5_canCount_48 rfl ?_
    exact R_zret dX5_canCount_49 rfl (by first | exact Or.inl rfl | exact Or.inr rfl | assumption | exact bl01 _ | omega) (⟨_, rfl, by rw [show m = i by omega], rfl⟩)
  | succ d ih =>
    intro i hi
    refine R_iload_n dX5_canCount_4 rfl ?_
    refine R_aload_n dX5_canCount_5 rfl ?_
    refine R_get dX5_canCount_6 gf_X5_7 h.1 rfl ?_
    refine R_iconst (v := 3) dX5_canCount_9 (by decide) ?_
    refine R_ialdN dX5_canCount_10 h.a0 (by first | omega | decide) (by decide) ?_
    refine RR.top (y := nI (m)) (hc) ?_
    refine R_icmp_ge (tgt := 48) dX5_canCount_11 (by decide) (fun c11 => absurd c11 (nI_ge (by omega) (by omega))) (fun c11 => ?_)
    refine R_iload_n dX5_canCount_14 rfl ?_
    refine R_if_eq (tgt := 40) dX5_canCount_15 (by decide) (fun c15 => ?_) (fun c15 => ?_)
    · refine R_iconst (v := 0) dX5_canCount_40 (by decide) ?_
      refine RR.top (y := bl (allFor (mA a 0) (mV a v 0) n 0 (i + 1))) (by rw [all_s]; rw [show allFor (mA a 0) (mV a v 0) n 0 i = false from Bool.eq_false_iff.mpr (bl_f c15)]; rfl) ?_
      refine R_istore_n dX5_canCount_41 (by decide) ?_
      refine R_iinc (y := nI (i + 1)) dX5_canCount_42 rfl (by decide) (nI_s (i)) ?_
      refine R_goto (tgt := 4) dX5_canCount_45 (by decide) ?_
      exact RR.pick [2, 1, 0] rfl (ih (i + 1) (by omega))
    · refine R_aload_n dX5_canCount_18 rfl ?_
      refine R_iconst (v := 0) dX5_canCount_19 (by decide) ?_
      refine R_aload_n dX5_canCount_20 rfl ?_
      refine R_get dX5_canCount_21 gf_X5_7 h.1 rfl ?_
      refine R_bipush (v := 37) dX5_canCount_24 (by decide) ?_
      refine R_iload_n dX5_canCount_26 rfl ?_
      refine R_iadd dX5_canCount_27 ?_
      refine RR.top (y := nI (37 + i)) (nI_add (37) (i)) ?_
      refine R_ialdN dX5_canCount_28 h.a0 (by first | omega | decide) (by decide) ?_
      refine RR.top (y := mA a 0 5 i) (by show a 0 (37 + i) = a 0 (0 + 37 + i); rw [show 0 + 37 + i = 37 + i by omega]) ?_
      refine R_iconst (v := (-1)) dX5_canCount_29 (by decide) ?_
      refine R_callVp dX5_canCount_30 cv_X5_179 ⟨by decide, by decide⟩ (m_isAnyone G hh h hn hv (B := 0) (by omega) (mA a 0 5 i) (-1)) h.1 rfl rfl rfl (Nat.le_of_ble_eq_true rfl) ?_
      refine R_if_eq (tgt := 40) dX5_canCount_33 (by decide) (fun c33 => ?_) (fun c33 => ?_)
      · refine R_iconst (v := 0) dX5_canCount_40 (by decide) ?_
        refine RR.top (y := bl (allFor (mA a 0) (mV a v 0) n 0 (i + 1))) (by rw [all_s]; rw [show anyFor (mA a 0) (mV a v 0) (mA a 0 5 i) (-1) 0 n = false from Bool.eq_false_iff.mpr (bl_f c33), Bool.and_false]; rfl) ?_
        refine R_istore_n dX5_canCount_41 (by decide) ?_
        refine R_iinc (y := nI (i + 1)) dX5_canCount_42 rfl (by decide) (nI_s (i)) ?_
        refine R_goto (tgt := 4) dX5_canCount_45 (by decide) ?_
        exact RR.pick [2, 1, 0] rfl (ih (i + 1) (by omega))
      · refine R_iconst (v := 1) dX5_canCount_36 (by decide) ?_
        refine R_goto (tgt := 41) dX5_canCount_37 (by decide) ?_
        refine RR.top (y := bl (allFor (mA a 0) (mV a v 0) n 0 (i + 1))) (by rw [all_s]; rw [show allFor (mA a 0) (mV a v 0) n 0 i = true from bl_t c15, show anyFor (mA a 0) (mV a v 0) (mA a 0 5 i) (-1) 0 n = true from bl_t c33]; rfl) ?_
        refine R_istore_n dX5_canCount_41 (by decide) ?_
        refine R_iinc (y := nI (i + 1)) dX5_canCount_42 rfl (by decide) (nI_s (i)) ?_
        refine R_goto (tgt := 4) dX5_canCount_45 (by decide) ?_
        exact RR.pick [2, 1, 0] rfl (ih (i + 1) (by omega))
set_option maxRecDepth 4000 in
theorem m_canCount (G : GG) (hh : HH) {k : Nat} {a : AA} {v : VV} (h : MdAt G hh k a v) {n : Nat} (hn : n ≤ 6) (hv : v 1 = nI n) {m : Nat} (hm : m ≤ 20) (hc : a 0 3 = nI m) : EVp G mX5_canCount [.ref (ad G k)] hh (bl (allFor (mA a 0) (mV a v 0) n 0 m)) := by
  refine EV.of [(0, .ref (ad G k))] (by decide +kernel) (Nat.le_of_ble_eq_true rfl) rfl ?_
  refine R_iconst (v := 1) dX5_canCount_0 (by decide) ?_
  refine R_istore_n dX5_canCount_1 (by decide) ?_
  refine R_iconst (v := 0) dX5_canCount_2 (by decide) ?_
  refine R_istore_n dX5_canCount_3 (by decide) ?_
  exact RR.pick [2, 1, 0] rfl (l_canCount G hh h hn hv hm hc m 0 (by omega))
theorem asR925 {a : AA} {v : VV} {n J : Nat} {c t : Int32} : asR a v 924 n J c t 925 = c := asR_1
theorem asR926 {a : AA} {v : VV} {n J : Nat} {c t : Int32} : asR a v 924 n J c t 926 = t := asR_2
theorem addA_set {b : AA} {u : VV} {s p : Int32} {n J c : Nat} : ∀ f, f < 4 → addA b u s p n J c f = setD b u (nI J) n f := by
  intro f hf
  rcases (show f = 0 ∨ f = 1 ∨ f = 2 ∨ f = 3 by omega) with rfl | rfl | rfl | rfl <;> rfl
set_option maxRecDepth 4000 in
theorem l_sameBy (G : GG) (hh0 : HH) {k : Nat} {a : AA} {v : VV} {n : Nat} (hn : n ≤ 6) (hv : v 1 = nI n) (hr : ruleOK (v 2)) {m : Nat} (hm : m ≤ 20) (hc : a 0 3 = nI m) (sd : Int32) : ∀ (d i s : Nat) (b : AA) (u : VV) (R : Nat → Int32) (hh : HH), i + d = m → s ≤ i → agJ n b u (mA (va_up a 0 R) 924) (mV (va_up a 0 R) v 924) → u 12 = R 925 → u 13 = R 926 → okR (mA a 0) n d i b u → (∀ j, j < 924 → R j = a 0 j) → MdAt G hh k (va_up a 0 R) v → Fr k (k + 11) hh0 hh → RR G mX5_sameBy 20 [(0, .ref (ad G k)), (1, .int sd), (2, .int (nI s)), (3, .int (nI i))] [] hh (fun r h1 => ∃ w, r = some (.int w) ∧ (w = nI (rcW 0 (mA a 0) n m d i s b u).1 ∧ (∃ R, MdAt G h1 k (va_up a 0 R) v ∧ (∀ j, j < 924 → R j = a 0 j) ∧ R 926 = (rcW 0 (mA a 0) n m d i s b u).2.2 13) ∧ Fr k (k + 11) hh0 h1)) := by
  intro d
  induction d with
  | zero =>
    intro i s b u R hh hi hs hag hu12 hu13 hok hR h hF
    refine R_iload_n dX5_sameBy_20 rfl ?_
    refine R_aload_n dX5_sameBy_21 rfl ?_
    refine R_get dX5_sameBy_22 gf_X5_7 h.1 rfl ?_
    refine R_iconst (v := 3) dX5_sameBy_25 (by decide) ?_
    refine R_ialdN dX5_sameBy_26 h.a0 (by first | omega | decide) (by decide) ?_
    refine RR.top (y := nI (m)) ((hR 3 (by decide)).trans hc) ?_
    refine R_icmp_ge (tgt := 81) dX5_sameBy_27 (by decide) (fun c27 => ?_) (fun c27 => absurd (nI_le (by omega) (by omega)) c27)
    refine R_iload_n dX5_sameBy_81 rfl ?_
    exact R_iret dX5_sameBy_82 rfl (⟨_, rfl, rfl, ⟨R, h, hR, hu13.symm⟩, hF⟩)
  | succ d ih =>
    intro i s b u R hh hi hs hag hu12 hu13 hok hR h hF
    refine R_iload_n dX5_sameBy_20 rfl ?_
    refine R_aload_n dX5_sameBy_21 rfl ?_
    refine R_get dX5_sameBy_22 gf_X5_7 h.1 rfl ?_
    refine R_iconst (v := 3) dX5_sameBy_25 (by decide) ?_
    refine R_ialdN dX5_sameBy_26 h.a0 (by first | omega | decide) (by decide) ?_
    refine RR.top (y := nI (m)) ((hR 3 (by decide)).trans hc) ?_
    refine R_icmp_ge (tgt := 81) dX5_sameBy_27 (by decide) (fun c27 => absurd c27 (nI_ge (by omega) (by omega))) (fun c27 => ?_)
    refine R_iload_n dX5_sameBy_30 rfl ?_
    refine R_aload_n dX5_sameBy_31 rfl ?_
    refine R_sipush (v := 924) dX5_sameBy_32 (by decide) ?_
    refine R_aload_n dX5_sameBy_35 rfl ?_
    refine R_get dX5_sameBy_36 gf_X5_7 h.1 rfl ?_
    refine R_bipush (v := 17) dX5_sameBy_39 (by decide) ?_
    refine R_iload_n dX5_sameBy_41 rfl ?_
    refine R_iadd dX5_sameBy_42 ?_
    refine RR.top (y := nI (17 + i)) (nI_add (17) (i)) ?_
    refine R_ialdN dX5_sameBy_43 h.a0 (by first | omega | decide) (by decide) ?_
    refine RR.top (y := (mA a 0 4 i)) ((hR _ (by omega)).trans (by show a 0 (17 + i) = a 0 (0 + 17 + i); rw [show 0 + 17 + i = 17 + i by omega])) ?_
    refine R_aload_n dX5_sameBy_44 rfl ?_
    refine R_get dX5_sameBy_45 gf_X5_7 h.1 rfl ?_
    refine R_bipush (v := 37) dX5_sameBy_48 (by decide) ?_
    refine R_iload_n dX5_sameBy_50 rfl ?_
    refine R_iadd dX5_sameBy_51 ?_
    refine RR.top (y := nI (37 + i)) (nI_add (37) (i)) ?_
    refine R_ialdN dX5_sameBy_52 h.a0 (by first | omega | decide) (by decide) ?_
    refine RR.top (y := (mA a 0 5 i)) ((hR _ (by omega)).trans (by show a 0 (37 + i) = a 0 (0 + 37 + i); rw [show 0 + 37 + i = 37 + i by omega])) ?_
    have hX1 : HX b u (mA a 0 4 i) (mA a 0 5 i) n := hok.1
    have hn0 := hX1.n0
    have hKf := (hX1.K).1
    refine R_callVi dX5_sameBy_53 cv_X5_185 ⟨by decide, by decide⟩ (m_assigned G hh h (B := 924) (by omega) hr hn hv hn0 (mA a 0 4 i) (mA a 0 5 i) (by (rw [← hag.tot]); exact hX1.1) (K := (Kf b u (mA a 0 4 i) (mA a 0 5 i) n)) (by (rw [show va_up a 0 R 0 (924 + 1) = u 12 from hu12.symm, ← hag.first hn0]); exact hKf)) h.1 rfl rfl rfl (Nat.le_of_ble_eq_true rfl) (fun w1 hh hw => ?_)
    obtain ⟨rfl, h, hF1⟩ := hw
    have hF := hF.tr hF1 (by omega) (by omega)
    have eJ : judOf (mA (va_up a 0 R) 924) (mV (va_up a 0 R) v 924) (mA a 0 4 i) n (itT (Kf b u (mA a 0 4 i) (mA a 0 5 i) n) (va_up a 0 R 0 (924 + 1))) = (jF b u (mA a 0 4 i) (mA a 0 5 i) n) := by
      rw [show va_up a 0 R 0 (924 + 1) = u 12 from hu12.symm]
      exact (hag.jud (mA a 0 4 i) _).symm
    rw [eJ] at h
    rw [eJ]
    have h := h.cg (a' := va_up a 0 (asR (va_up a 0 R) v 924 n (jF b u (mA a 0 4 i) (mA a 0 5 i) n) (itT (Kf b u (mA a 0 4 i) (mA a 0 5 i) n) (R 925)) (R 926 + nI (Kf b u (mA a 0 4 i) (mA a 0 5 i) n)))) (bx_uu _ _ _ _) rfl
    have hR2 : ∀ j, j < 924 → (asR (va_up a 0 R) v 924 n (jF b u (mA a 0 4 i) (mA a 0 5 i) n) (itT (Kf b u (mA a 0 4 i) (mA a 0 5 i) n) (R 925)) (R 926 + nI (Kf b u (mA a 0 4 i) (mA a 0 5 i) n))) j = a 0 j := fun j hj => (asR_o (by omega) (by omega) (by omega)).trans (hR j hj)
    have hag2 : agJ n (addA b u (mA a 0 4 i) (mA a 0 5 i) n (jF b u (mA a 0 4 i) (mA a 0 5 i) n) i) (addV u (Kf b u (mA a 0 4 i) (mA a 0 5 i) n) i) (mA (va_up a 0 (asR (va_up a 0 R) v 924 n (jF b u (mA a 0 4 i) (mA a 0 5 i) n) (itT (Kf b u (mA a 0 4 i) (mA a 0 5 i) n) (R 925)) (R 926 + nI (Kf b u (mA a 0 4 i) (mA a 0 5 i) n)))) 924) (mV (va_up a 0 (asR (va_up a 0 R) v 924 n (jF b u (mA a 0 4 i) (mA a 0 5 i) n) (itT (Kf b u (mA a 0 4 i) (mA a 0 5 i) n) (R 925)) (R 926 + nI (Kf b u (mA a 0 4 i) (mA a 0 5 i) n)))) v 924) := by
      have e := as_ag (J := (jF b u (mA a 0 4 i) (mA a 0 5 i) n)) (c := itT (Kf b u (mA a 0 4 i) (mA a 0 5 i) n) (R 925)) (t := R 926 + nI (Kf b u (mA a 0 4 i) (mA a 0 5 i) n)) hn hag (u' := addV u (Kf b u (mA a 0 4 i) (mA a 0 5 i) n) i) rfl rfl
      rw [show va_up (va_up a 0 R) 0 (asR (va_up a 0 R) v 924 n (jF b u (mA a 0 4 i) (mA a 0 5 i) n) (itT (Kf b u (mA a 0 4 i) (mA a 0 5 i) n) (R 925)) (R 926 + nI (Kf b u (mA a 0 4 i) (mA a 0 5 i) n))) = va_up a 0 (asR (va_up a 0 R) v 924 n (jF b u (mA a 0 4 i) (mA a 0 5 i) n) (itT (Kf b u (mA a 0 4 i) (mA a 0 5 i) n) (R 925)) (R 926 + nI (Kf b u (mA a 0 4 i) (mA a 0 5 i) n))) from bx_uu _ _ _ _] at e
      exact e.a addA_set (fun _ _ => rfl)
    refine R_aload_n dX5_sameBy_56 rfl ?_
    refine R_get dX5_sameBy_57 gf_X5_7 h.1 rfl ?_
    refine R_bipush (v := 57) dX5_sameBy_60 (by decide) ?_
    refine R_iload_n dX5_sameBy_62 rfl ?_
    refine R_iadd dX5_sameBy_63 ?_
    refine RR.top (y := nI (57 + i)) (nI_add (57) (i)) ?_
    refine R_ialdN dX5_sameBy_64 h.a0 (by first | omega | decide) (by decide) ?_
    refine RR.top (y := mA a 0 6 i) ((hR2 _ (by omega)).trans (by show a 0 (57 + i) = a 0 (0 + 57 + i); rw [show 0 + 57 + i = 57 + i by omega])) ?_
    refine R_icmp_ne (tgt := 72) dX5_sameBy_65 (by decide) (fun c65 => ?_) (fun c65 => ?_)
    · refine R_iconst (v := 0) dX5_sameBy_72 (by decide) ?_
      refine R_iadd dX5_sameBy_73 ?_
      refine RR.top (y := nI s) (Int32.add_zero _) ?_
      refine R_istore_n dX5_sameBy_74 (by decide) ?_
      refine R_iinc (y := nI (i + 1)) dX5_sameBy_75 rfl (by decide) (nI_s (i)) ?_
      refine R_goto (tgt := 20) dX5_sameBy_78 (by decide) ?_
      rw [rcW0_s (by omega), if_neg (show ¬ nI (jF b u (mA a 0 4 i) (mA a 0 5 i) n) = mA a 0 6 i from c65)]
      exact RR.pick [2, 3, 1, 0] rfl (ih (i + 1) (s) _ _ (asR (va_up a 0 R) v 924 n (jF b u (mA a 0 4 i) (mA a 0 5 i) n) (itT (Kf b u (mA a 0 4 i) (mA a 0 5 i) n) (R 925)) (R 926 + nI (Kf b u (mA a 0 4 i) (mA a 0 5 i) n))) hh (by omega) (by omega) hag2 (by rw [asR925]; show itT (Kf b u (mA a 0 4 i) (mA a 0 5 i) n) (u 12) = _; rw [hu12]) (by rw [asR926]; show u 13 + nI (Kf b u (mA a 0 4 i) (mA a 0 5 i) n) = _; rw [hu13]) hok.2 hR2 h hF)
    · refine R_iconst (v := 1) dX5_sameBy_68 (by decide) ?_
      refine R_goto (tgt := 73) dX5_sameBy_69 (by decide) ?_
      refine R_iadd dX5_sameBy_73 ?_
      refine RR.top (y := nI (s + 1)) (nI_1 s) ?_
      refine R_istore_n dX5_sameBy_74 (by decide) ?_
      refine R_iinc (y := nI (i + 1)) dX5_sameBy_75 rfl (by decide) (nI_s (i)) ?_
      refine R_goto (tgt := 20) dX5_sameBy_78 (by decide) ?_
      rw [rcW0_s (by omega), if_pos (show nI (jF b u (mA a 0 4 i) (mA a 0 5 i) n) = mA a 0 6 i from Classical.not_not.mp c65)]
      exact RR.pick [2, 3, 1, 0] rfl (ih (i + 1) (s + 1) _ _ (asR (va_up a 0 R) v 924 n (jF b u (mA a 0 4 i) (mA a 0 5 i) n) (itT (Kf b u (mA a 0 4 i) (mA a 0 5 i) n) (R 925)) (R 926 + nI (Kf b u (mA a 0 4 i) (mA a 0 5 i) n))) hh (by omega) (by omega) hag2 (by rw [asR925]; show itT (Kf b u (mA a 0 4 i) (mA a 0 5 i) n) (u 12) = _; rw [hu12]) (by rw [asR926]; show u 13 + nI (Kf b u (mA a 0 4 i) (mA a 0 5 i) n) = _; rw [hu13]) hok.2 hR2 h hF)
set_option maxRecDepth 4000 in
theorem m_sameBy (G : GG) (hh : HH) {k : Nat} {a : AA} {v : VV} {R : Nat → Int32} (h : MdAt G hh k (va_up a 0 R) v) (hR : ∀ j, j < 924 → R j = a 0 j) {n : Nat} (hn : n ≤ 6) (hv : v 1 = nI n) (hr : ruleOK (v 2)) {m : Nat} (hm : m ≤ 20) (hc : a 0 3 = nI m) (sd : Int32) (hok : okR (mA a 0) n m 0 (sealA (mA a 0)) (sealV (mV a v 0) sd)) : EVi G mX5_sameBy [.ref (ad G k), .int sd] hh (fun w h1 => w = nI (rcF 0 (mA a 0) (mV a v 0) n m sd).1 ∧ (∃ R, MdAt G h1 k (va_up a 0 R) v ∧ (∀ j, j < 924 → R j = a 0 j) ∧ R 926 = (rcF 0 (mA a 0) (mV a v 0) n m sd).2.2 13) ∧ Fr k (k + 11) hh h1) := by
  refine EV.of [(0, .ref (ad G k)), (1, .int sd)] (by decide +kernel) (Nat.le_of_ble_eq_true rfl) rfl ?_
  have hF : Fr k (k + 11) hh hh := Fr.rf
  refine R_aload_n dX5_sameBy_0 rfl ?_
  refine R_iconst (v := 0) dX5_sameBy_1 (by decide) ?_
  refine R_sipush (v := 924) dX5_sameBy_2 (by decide) ?_
  refine R_callVv dX5_sameBy_5 cv_X5_44 ⟨by decide, by decide⟩ (m_copyRow G hh h 0 924 (by omega) (by omega) (by omega)) h.1 rfl rfl rfl (Nat.le_of_ble_eq_true rfl) (fun hh hw => ?_)
  obtain ⟨h, hF1⟩ := hw
  have hF := hF.tr hF1 (by omega) (by omega)
  refine R_aload_n dX5_sameBy_8 rfl ?_
  refine R_sipush (v := 924) dX5_sameBy_9 (by decide) ?_
  refine R_iload_n dX5_sameBy_12 rfl ?_
  refine R_callVv dX5_sameBy_13 cv_X5_168 ⟨by decide, by decide⟩ (m_sealAt G hh h 924 (by omega) sd) h.1 rfl rfl rfl (Nat.le_of_ble_eq_true rfl) (fun hh hw => ?_)
  obtain ⟨h, hF1⟩ := hw
  have hF := hF.tr hF1 (by omega) (by omega)
  refine R_iconst (v := 0) dX5_sameBy_16 (by decide) ?_
  refine R_istore_n dX5_sameBy_17 (by decide) ?_
  refine R_iconst (v := 0) dX5_sameBy_18 (by decide) ?_
  refine R_istore_n dX5_sameBy_19 (by decide) ?_
  have h := h.cg (a' := va_up a 0 (seR (cpR R 0 924 77) 924 sd)) (by rw [bx_uu, bx_uu]; rfl) rfl
  have hRs : ∀ j, j < 924 → (seR (cpR R 0 924 77) 924 sd) j = a 0 j := fun j hj => (seR_o (by omega) (by omega)).trans ((cpR_out (by omega)).trans (hR j hj))
  have hin : ∀ j, 4 ≤ j → j < 11 → (seR (cpR R 0 924 77) 924 sd) (924 + j) = a 0 j := fun j h1 h2 => (seR_o (by omega) (by omega)).trans ((cpR_in (by omega)).trans (by rw [Nat.zero_add]; exact hR j (by omega)))
  have hag : agJ n (sealA (mA a 0)) (sealV (mV a v 0) sd) (mA (va_up a 0 (seR (cpR R 0 924 77) 924 sd)) 924) (mV (va_up a 0 (seR (cpR R 0 924 77) 924 sd)) v 924) := by
    refine ⟨fun f j h1 h2 => ?_, (hin 4 (by omega) (by omega)).symm, rfl⟩
    rcases (show f = 0 ∨ f = 1 ∨ f = 2 ∨ f = 3 by omega) with rfl | rfl | rfl | rfl
    · rfl
    · rfl
    · have e := hin (5 + j) (by omega) (by omega)
      rw [← Nat.add_assoc] at e
      show a 0 (0 + 5 + j) = (seR (cpR R 0 924 77) 924 sd) (924 + 5 + j)
      rw [e, Nat.zero_add]
    · exact (seR_d (by omega)).symm
  exact RR.pick [2, 3, 1, 0] rfl (l_sameBy G _ hn hv hr hm hc sd m 0 0 _ _ _ hh (by omega) (by omega) hag seR_1.symm seR_2.symm hok hRs h hF)
set_option maxRecDepth 4000 in
theorem m_count (G : GG) (hh : HH) {k : Nat} {a : AA} {v : VV} (h : MdAt G hh k a v) {n : Nat} (hn : n ≤ 6) (hv : v 1 = nI n) (hr : ruleOK (v 2)) {m : Nat} (hm : m ≤ 20) (hc : a 0 3 = nI m) (s w : Int32) (hok : erCount (mA a 0) (mV a v 0) n m s w = none → okR (mA a 0) n m 0 (sealA (mA a 0)) (sealV (mV a v 0) s)) : EVi G mX5_count [.ref (ad G k), .int s, .int w] hh (fun y h1 => match erCount (mA a 0) (mV a v 0) n m s w with | some e => y = e ∧ h1 = hh | none => y = (if w = 0 then nI (rcF 0 (mA a 0) (mV a v 0) n m s).1 else (rcF 0 (mA a 0) (mV a v 0) n m s).2.2 13) ∧ ∃ R, MdAt G h1 k (va_up a 0 R) v ∧ (∀ j, j < 924 → R j = a 0 j) ∧ Fr k (k + 11) hh h1) := by
  refine EV.of [(0, .ref (ad G k)), (1, .int s), (2, .int w)] (by decide +kernel) (Nat.le_of_ble_eq_true rfl) rfl ?_
  refine R_iload_n dX5_count_0 rfl ?_
  refine R_iconst (v := 1) dX5_count_1 (by decide) ?_
  refine R_icmp_lt (tgt := 15) dX5_count_2 (by decide) (fun c2 => ?_) (fun c2 => ?_)
  · refine R_bipush (v := (-3)) dX5_count_15 (by decide) ?_
    exact R_iret dX5_count_17 rfl (⟨_, rfl, by (have hE : erCount (mA a 0) (mV a v 0) n m s w = some (-3) := by (unfold erCount; rw [if_neg (fun q => absurd q.1 (Int32.not_le.mpr c2))])); (rw [hE]); exact ⟨rfl, rfl⟩⟩)
  · refine R_iload_n dX5_count_5 rfl ?_
    refine R_i2l dX5_count_6 ?_
    refine R_lconst (v := 0) dX5_count_7 (by decide) ?_
    refine R_lconst (v := 1) dX5_count_8 (by decide) ?_
    refine R_callSp dX5_count_9 cs_X5_57 ⟨by decide, by decide⟩ (d_in01 G hh w) rfl rfl (Nat.le_of_ble_eq_true rfl) ?_
    refine R_if_ne (tgt := 18) dX5_count_12 (by decide) (fun c12 => ?_) (fun c12 => ?_)
    · refine R_aload_n dX5_count_18 rfl ?_
      refine R_callVp dX5_count_19 cv_X5_200 ⟨by decide, by decide⟩ (m_canCount G hh h hn hv hm hc) h.1 rfl rfl rfl (Nat.le_of_ble_eq_true rfl) ?_
      refine R_if_ne (tgt := 28) dX5_count_22 (by decide) (fun c22 => ?_) (fun c22 => ?_)
      · have hE : erCount (mA a 0) (mV a v 0) n m s w = none := by (unfold erCount; rw [if_pos ⟨Int32.not_lt.mp c2, dt c12⟩, if_pos (bl_t c22)])
        have h := h.cg (va_up_idA a) rfl
        refine R_aload_n dX5_count_28 rfl ?_
        refine R_iload_n dX5_count_29 rfl ?_
        refine R_callVi dX5_count_30 cv_X5_203 ⟨by decide, by decide⟩ (m_sameBy G hh h (fun _ _ => rfl) hn hv hr hm hc s (hok hE)) h.1 rfl rfl rfl (Nat.le_of_ble_eq_true rfl) (fun w1 hh hw => ?_)
        obtain ⟨rfl, ⟨R, h, hR, h926⟩, hF⟩ := hw
        refine R_istore_n dX5_count_33 (by decide) ?_
        refine R_iload_n dX5_count_34 rfl ?_
        refine R_if_ne (tgt := 42) dX5_count_35 (by decide) (fun c35 => ?_) (fun c35 => ?_)
        · refine R_aload_n dX5_count_42 rfl ?_
          refine R_get dX5_count_43 gf_X5_7 h.1 rfl ?_
          refine R_sipush (v := 926) dX5_count_46 (by decide) ?_
          refine R_ialdN dX5_count_49 h.a0 (by first | omega | decide) (by decide) ?_
          exact R_iret dX5_count_50 rfl (⟨_, rfl, by (rw [hE]); exact ⟨by (rw [if_neg c35]; exact h926), R, h, hR, hF⟩⟩)
        · refine R_iload_n dX5_count_38 rfl ?_
          refine R_goto (tgt := 50) dX5_count_39 (by decide) ?_
          exact R_iret dX5_count_50 rfl (⟨_, rfl, by (rw [hE]); exact ⟨by rw [if_pos (Classical.not_not.mp c35)], R, h, hR, hF⟩⟩)
      · refine R_bipush (v := (-4)) dX5_count_25 (by decide) ?_
        exact R_iret dX5_count_27 rfl (⟨_, rfl, by (have hE : erCount (mA a 0) (mV a v 0) n m s w = some (-4) := by (unfold erCount; rw [if_pos ⟨Int32.not_lt.mp c2, dt c12⟩, if_neg (bl_n c22)])); (rw [hE]); exact ⟨rfl, rfl⟩⟩)
    · refine R_bipush (v := (-3)) dX5_count_15 (by decide) ?_
      exact R_iret dX5_count_17 rfl (⟨_, rfl, by (have hE : erCount (mA a 0) (mV a v 0) n m s w = some (-3) := by (unfold erCount; rw [if_neg (fun q => dfn c12 q.2)])); (rw [hE]); exact ⟨rfl, rfl⟩⟩)
theorem rcF_w {a : AA} {v : VV} {n m : Nat} {y s : Int32} (hm : m ≤ 20) : (y ≤ nI (rcF y a v n m s).1) ↔ (y ≤ nI (rcF 0 a v n m s).1) := rc_w hm m 0 0 _ _ (by omega) (by omega)
set_option maxRecDepth 4000 in
theorem l_mlike (G : GG) (hh0 : HH) {k : Nat} {a : AA} {v : VV} {n : Nat} (hn : n ≤ 6) (hv : v 1 = nI n) (hr : ruleOK (v 2)) {m : Nat} (hm : m ≤ 20) (hc : a 0 3 = nI m) (y : Int32) (hy : y ≤ nI m) (hok : ∀ q, 1 ≤ q → q ≤ 300 → okR (mA a 0) n m 0 (sealA (mA a 0)) (sealV (mV a v 0) (nI q))) : ∀ (d q : Nat) (R : Nat → Int32) (hh : HH), q + d = 301 → 1 ≤ q → (∀ j, j < 924 → R j = a 0 j) → MdAt G hh k (va_up a 0 R) v → Fr k (k + 11) hh0 hh → RR G mX5_like 27 [(0, .ref (ad G k)), (1, .int y), (2, .int (nI q))] [] hh (fun r h1 => ∃ w, r = some (.int w) ∧ (w = lkL (mA a 0) (mV a v 0) n m y d q ∧ (∃ R, MdAt G h1 k (va_up a 0 R) v ∧ (∀ j, j < 924 → R j = a 0 j)) ∧ Fr k (k + 11) hh0 h1)) := by
  intro d
  induction d with
  | zero =>
    intro q R hh hq hq1 hR h hF
    refine R_iload_n dX5_like_27 rfl ?_
    refine R_sipush (v := 301) dX5_like_28 (by decide) ?_
    refine R_icmp_ge (tgt := 61) dX5_like_31 (by decide) (fun c31 => ?_) (fun c31 => absurd (nI_le (a := 301) (by omega) (by omega)) c31)
    refine R_iconst (v := (-1)) dX5_like_61 (by decide) ?_
    exact R_iret dX5_like_62 rfl (⟨_, rfl, rfl, ⟨R, h, hR⟩, hF⟩)
  | succ d ih =>
    intro q R hh hq hq1 hR h hF
    refine R_iload_n dX5_like_27 rfl ?_
    refine R_sipush (v := 301) dX5_like_28 (by decide) ?_
    refine R_icmp_ge (tgt := 61) dX5_like_31 (by decide) (fun c31 => absurd c31 (nI_ge (b := 301) (by omega) (by omega))) (fun c31 => ?_)
    refine R_iload_n dX5_like_34 rfl ?_
    refine R_aload_n dX5_like_35 rfl ?_
    refine R_get dX5_like_36 gf_X5_7 h.1 rfl ?_
    refine R_iconst (v := 3) dX5_like_39 (by decide) ?_
    refine R_ialdN dX5_like_40 h.a0 (by first | omega | decide) (by decide) ?_
    refine RR.top (y := nI (m)) ((hR 3 (by decide)).trans hc) ?_
    refine R_icmp_gt (tgt := 61) dX5_like_41 (by decide) (fun c41 => absurd c41 (Int32.not_lt.mpr hy)) (fun c41 => ?_)
    refine R_aload_n dX5_like_44 rfl ?_
    refine R_iload_n dX5_like_45 rfl ?_
    refine R_callVi dX5_like_46 cv_X5_203 ⟨by decide, by decide⟩ (m_sameBy G hh h hR hn hv hr hm hc (nI q) (hok q hq1 (by omega))) h.1 rfl rfl rfl (Nat.le_of_ble_eq_true rfl) (fun w1 hh hw => ?_)
    obtain ⟨rfl, ⟨R, h, hR, -⟩, hF1⟩ := hw
    have hF := hF.tr hF1 (by omega) (by omega)
    refine R_iload_n dX5_like_49 rfl ?_
    refine R_icmp_lt (tgt := 55) dX5_like_50 (by decide) (fun c50 => ?_) (fun c50 => ?_)
    · refine R_iinc (y := nI (q + 1)) dX5_like_55 rfl (by decide) (nI_s (q)) ?_
      refine R_goto (tgt := 27) dX5_like_58 (by decide) ?_
      have e9 : lkL (mA a 0) (mV a v 0) n m y (d + 1) q = lkL (mA a 0) (mV a v 0) n m y d (q + 1) := if_neg (fun r => absurd ((rcF_w hm).mp r) (Int32.not_le.mpr c50))
      rw [e9]
      exact RR.pick [1, 2, 0] rfl (ih (q + 1) R hh (by omega) (by omega) hR h hF)
    · refine R_iload_n dX5_like_53 rfl ?_
      exact R_iret dX5_like_54 rfl (⟨_, rfl, by (show nI q = if y ≤ nI (rcF y (mA a 0) (mV a v 0) n m (nI q)).1 then nI q else _); rw [if_pos ((rcF_w hm).mpr (Int32.not_lt.mp c50))], ⟨R, h, hR⟩, hF⟩)
set_option maxRecDepth 4000 in
theorem m_like (G : GG) (hh : HH) {k : Nat} {a : AA} {v : VV} (h : MdAt G hh k a v) {n : Nat} (hn : n ≤ 6) (hv : v 1 = nI n) (hr : ruleOK (v 2)) {m : Nat} (hm : m ≤ 20) (hc : a 0 3 = nI m) (y : Int32) (hok : erLike (mA a 0) (mV a v 0) n m y = none → ∀ q, 1 ≤ q → q ≤ 300 → okR (mA a 0) n m 0 (sealA (mA a 0)) (sealV (mV a v 0) (nI q))) : EVi G mX5_like [.ref (ad G k), .int y] hh (fun w h1 => match erLike (mA a 0) (mV a v 0) n m y with | some e => w = e ∧ h1 = hh | none => w = lkL (mA a 0) (mV a v 0) n m y 300 1 ∧ ∃ R, MdAt G h1 k (va_up a 0 R) v ∧ (∀ j, j < 924 → R j = a 0 j) ∧ Fr k (k + 11) hh h1) := by
  refine EV.of [(0, .ref (ad G k)), (1, .int y)] (by decide +kernel) (Nat.le_of_ble_eq_true rfl) rfl ?_
  refine R_iload_n dX5_like_0 rfl ?_
  refine R_i2l dX5_like_1 ?_
  refine R_lconst (v := 1) dX5_like_2 (by decide) ?_
  refine R_ldc2 dX5_like_3 kc_X5_206 ?_
  refine R_callSp dX5_like_6 cs_X5_57 ⟨by decide, by decide⟩ (d_in120 G hh y) rfl rfl (Nat.le_of_ble_eq_true rfl) ?_
  refine R_if_ne (tgt := 15) dX5_like_9 (by decide) (fun c9 => ?_) (fun c9 => ?_)
  · refine R_aload_n dX5_like_15 rfl ?_
    refine R_callVp dX5_like_16 cv_X5_200 ⟨by decide, by decide⟩ (m_canCount G hh h hn hv hm hc) h.1 rfl rfl rfl (Nat.le_of_ble_eq_true rfl) ?_
    refine R_if_ne (tgt := 25) dX5_like_19 (by decide) (fun c19 => ?_) (fun c19 => ?_)
    · refine R_iconst (v := 1) dX5_like_25 (by decide) ?_
      refine R_istore_n dX5_like_26 (by decide) ?_
      by_cases hy : y ≤ nI m
      · have hE : erLike (mA a 0) (mV a v 0) n m y = none := by (unfold erLike; rw [if_pos (dt c9), if_pos (bl_t c19), if_pos hy])
        refine RR.pick [1, 2, 0] rfl ?_
        refine RR.post (l_mlike G hh hn hv hr hm hc y hy (hok hE) 300 1 (a 0) hh (by omega) (by omega) (fun _ _ => rfl) (h.cg (va_up_idA a) rfl) Fr.rf) (fun r h1 hq => ?_)
        obtain ⟨w, e1, e2, ⟨R, h, hR⟩, hF⟩ := hq
        exact ⟨w, e1, by (rw [hE]); exact ⟨e2, R, h, hR, hF⟩⟩
      refine RR.pick [1, 2, 0] rfl ?_
      refine R_iload_n dX5_like_27 rfl ?_
      refine R_sipush (v := 301) dX5_like_28 (by decide) ?_
      refine R_icmp_ge (tgt := 61) dX5_like_31 (by decide) (fun c31 => absurd c31 (by decide)) (fun c31 => ?_)
      refine R_iload_n dX5_like_34 rfl ?_
      refine R_aload_n dX5_like_35 rfl ?_
      refine R_get dX5_like_36 gf_X5_7 h.1 rfl ?_
      refine R_iconst (v := 3) dX5_like_39 (by decide) ?_
      refine R_ialdN dX5_like_40 h.a0 (by first | omega | decide) (by decide) ?_
      refine RR.top (y := nI (m)) (hc) ?_
      refine R_icmp_gt (tgt := 61) dX5_like_41 (by decide) (fun c41 => ?_) (fun c41 => absurd (Int32.not_le.mp hy) c41)
      refine R_iconst (v := (-1)) dX5_like_61 (by decide) ?_
      exact R_iret dX5_like_62 rfl (⟨_, rfl, by (have hE : erLike (mA a 0) (mV a v 0) n m y = some (-1) := by (unfold erLike; rw [if_pos (dt c9), if_pos (bl_t c19), if_neg hy])); (rw [hE]); exact ⟨rfl, rfl⟩⟩)
    · refine R_bipush (v := (-4)) dX5_like_22 (by decide) ?_
      exact R_iret dX5_like_24 rfl (⟨_, rfl, by (have hE : erLike (mA a 0) (mV a v 0) n m y = some (-4) := by (unfold erLike; rw [if_pos (dt c9), if_neg (bl_n c19)])); (rw [hE]); exact ⟨rfl, rfl⟩⟩)
  · refine R_bipush (v := (-3)) dX5_like_12 (by decide) ?_
    exact R_iret dX5_like_14 rfl (⟨_, rfl, by (have hE : erLike (mA a 0) (mV a v 0) n m y = some (-3) := by (unfold erLike; rw [if_neg (dfn c9)])); (rw [hE]); exact ⟨rfl, rfl⟩⟩)
