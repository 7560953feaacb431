abbrev eS (G : GG) (n : Nat) (f : Nat → Option Nat) : va_E := .inl (gS G, n, .inr (.inr (.inr (.inr f))))
abbrev eL (G : GG) (n : Nat) (f : Nat → Option Nat) : va_E := .inl (gL G, n, .inr (.inr (.inr (.inr f))))
/-- the history at cell q: its object, the row of its states, the states -/
def HoAt (G : GG) (hh : HH) (q : Nat) (x y : Int32) : Prop := hAt G hh q (.inr (0, [.ref (ad G (q + 1)), .int x, .int y]))
def HrAt (G : GG) (hh : HH) (q : Nat) : Prop := hAt G hh (q + 1) (eS G 8 (fun i => some (ad G (q + 2 + 9 * i))))
theorem HoAt.fr {G : GG} {hh hh' : HH} {q lo hi : Nat} {x y : Int32} (h : HoAt G hh q x y) (hF : Fr lo hi hh hh') (hk : q < lo ∨ hi ≤ q) : HoAt G hh' q x y := hAt.fr h hF hk
theorem HrAt.fr {G : GG} {hh hh' : HH} {q lo hi : Nat} (h : HrAt G hh q) (hF : Fr lo hi hh hh') (hk : q + 1 < lo ∨ hi ≤ q + 1) : HrAt G hh' q := hAt.fr h hF hk
def HsAt (G : GG) (hh : HH) (q : Nat) (A : Nat → AA) (W : Nat → VV) : Prop := ∀ i, i < 8 → StAt G hh (q + 2 + 9 * i) (A i) (W i)
theorem HsAt.fr {G : GG} {hh hh' : HH} {q lo hi : Nat} {A : Nat → AA} {W : Nat → VV} (h : HsAt G hh q A W) (hF : Fr lo hi hh hh') (hk : q + 74 ≤ lo ∨ hi ≤ q + 2) : HsAt G hh' q A W := fun i hi => (h i hi).fr hF (by omega)
theorem Hi_put1 {G : GG} {μ : MI} {pc : Nat} {lv : List (Nat × Value)} {st : List Value} {hh : HH} {Q : QQ} {q idx : Nat} {x y z : Int32} (hd : decode μ.2.1 pc = .ok (.putfield idx, 3)) (hw : pfOK μ.1.cls idx 0 1 .int) (h : HoAt G hh q x y) (k1 : ∀ hh1, HoAt G hh1 q z y → Fr q (q + 1) hh hh1 → RR G μ (pc + 3) lv st hh1 Q) : RR G μ pc lv (.int z :: .ref (ad G q) :: st) hh Q := R_put hd hw h rfl rfl (show 1 < 3 by decide) (k1 _ (hAt.up h.1) (Fr.up _ Fr.rf (Nat.le_refl q) (Nat.lt_succ_self q)))
theorem Hi_put2 {G : GG} {μ : MI} {pc : Nat} {lv : List (Nat × Value)} {st : List Value} {hh : HH} {Q : QQ} {q idx : Nat} {x y z : Int32} (hd : decode μ.2.1 pc = .ok (.putfield idx, 3)) (hw : pfOK μ.1.cls idx 0 2 .int) (h : HoAt G hh q x y) (k1 : ∀ hh1, HoAt G hh1 q x z → Fr q (q + 1) hh hh1 → RR G μ (pc + 3) lv st hh1 Q) : RR G μ pc lv (.int z :: .ref (ad G q) :: st) hh Q := R_put hd hw h rfl rfl (show 2 < 3 by decide) (k1 _ (hAt.up h.1) (Fr.up _ Fr.rf (Nat.le_refl q) (Nat.lt_succ_self q)))
set_option maxRecDepth 4000 in
theorem e_forget (G : GG) (hh : HH) {q : Nat} {x y : Int32} (h : HoAt G hh q x y) : EVv G mX0_forget [.ref (ad G q)] hh (fun h1 => HoAt G h1 q x 0 ∧ Fr q (q + 1) hh h1) := by
  refine EV.of [(0, .ref (ad G q))] (by decide +kernel) (Nat.le_of_ble_eq_true rfl) rfl ?_
  refine R_aload_n dX0_forget_0 rfl ?_
  refine R_iconst (v := 0) dX0_forget_1 (by decide) ?_
  refine Hi_put2 dX0_forget_2 pf_X0_18 h (fun hh h hF1 => ?_)
  exact R_vret dX0_forget_5 rfl (⟨rfl, h, hF1⟩)
theorem rem8 {x : Nat} (hx : x < 2 ^ 31) : nI x - nI x / 8 * 8 = nI (x % 8) := pk_rem (d := 8) hx (by decide) (by decide)
/-- oldest and size behind a state more -/
def hiO (x z : Nat) : Nat := if z < 8 then x else (x + 1) % 8
def hiZ (z : Nat) : Nat := if z < 8 then z + 1 else z
set_option maxRecDepth 4000 in
theorem e_remember (G : GG) (hh : HH) {q ks x z : Nat} {A : Nat → AA} {W : Nat → VV} {a : AA} {v : VV} (h : HoAt G hh q (nI x) (nI z)) (hr : HrAt G hh q) (hs : HsAt G hh q A W) (g : StAt G hh ks a v) (hx : x < 8) (hz : z ≤ 8) (hap : ks + 9 ≤ q ∨ q + 74 ≤ ks) : EVv G mX0_remember [.ref (ad G q), .ref (ad G ks)] hh (fun h1 => HoAt G h1 q (nI (hiO x z)) (nI (hiZ z)) ∧ HrAt G h1 q ∧ HsAt G h1 q (va_up A ((x + z) % 8) (va_up a 7 (A ((x + z) % 8) 7))) (va_up W ((x + z) % 8) v) ∧ Fr q (q + 74) hh h1) := by
  refine EV.of [(0, .ref (ad G q)), (1, .ref (ad G ks))] (by decide +kernel) (Nat.le_of_ble_eq_true rfl) rfl ?_
  refine R_aload_n dX0_remember_0 rfl ?_
  refine R_get dX0_remember_1 gf_X0_11 h rfl ?_
  refine R_aload_n dX0_remember_4 rfl ?_
  refine R_get dX0_remember_5 gf_X0_22 h rfl ?_
  refine R_aload_n dX0_remember_8 rfl ?_
  refine R_get dX0_remember_9 gf_X0_18 h rfl ?_
  refine R_iadd dX0_remember_12 ?_
  refine RR.top (y := nI (x + z)) (nI_add x z) ?_
  refine R_bipush (v := 8) dX0_remember_13 (by decide) ?_
  refine R_irem dX0_remember_15 (by decide) ?_
  refine RR.top (y := nI ((x + z) % 8)) (rem8 (by omega)) ?_
  have hi8 : ((x + z) % 8) < 8 := Nat.mod_lt _ (by decide)
  have si := hs ((x + z) % 8) hi8
  refine R_aldS (q := ad G (q + 2 + 9 * ((x + z) % 8))) dX0_remember_16 hr (vp_in_nI (show ((x + z) % 8) < 8 by omega) (by decide)) (by rw [nI_clamp (by omega)]) ?_
  refine R_aload_n dX0_remember_17 rfl ?_
  refine R_callVv dX0_remember_18 cv_X0_25 ⟨by decide, by decide⟩ (e_copyFrom G hh si g (by omega)) si.1 rfl rfl rfl (Nat.le_of_ble_eq_true rfl) (fun hh hw => ?_)
  obtain ⟨si, hF1⟩ := hw
  have hs : HsAt G hh q (va_up A ((x + z) % 8) (va_up a 7 (A ((x + z) % 8) 7))) (va_up W ((x + z) % 8) v) := by
    intro j hj
    by_cases e : j = ((x + z) % 8)
    · subst e; rw [show va_up A ((x + z) % 8) (va_up a 7 (A ((x + z) % 8) 7)) ((x + z) % 8) = _ from if_pos rfl, show va_up W ((x + z) % 8) v ((x + z) % 8) = _ from if_pos rfl]; exact si
    · rw [show va_up A _ _ j = A j from if_neg e, show va_up W _ _ j = W j from if_neg e]; exact (hs j hj).fr hF1 (by omega)
  have hF : Fr q (q + 74) _ hh := Fr.tr Fr.rf hF1 (by omega) (by omega)
  have h := HoAt.fr h hF1 (by omega)
  have hr := HrAt.fr hr hF1 (by omega)
  refine R_aload_n dX0_remember_21 rfl ?_
  refine R_get dX0_remember_22 gf_X0_18 h rfl ?_
  refine R_bipush (v := 8) dX0_remember_25 (by decide) ?_
  refine R_icmp_ge (tgt := 43) dX0_remember_27 (by decide) (fun c27 => ?_) (fun c27 => ?_)
  · refine R_aload_n dX0_remember_43 rfl ?_
    refine R_aload_n dX0_remember_44 rfl ?_
    refine R_get dX0_remember_45 gf_X0_22 h rfl ?_
    refine R_iconst (v := 1) dX0_remember_48 (by decide) ?_
    refine R_iadd dX0_remember_49 ?_
    refine RR.top (y := nI (x + 1)) (nI_1 x) ?_
    refine R_bipush (v := 8) dX0_remember_50 (by decide) ?_
    refine R_irem dX0_remember_52 (by decide) ?_
    refine RR.top (y := nI ((x + 1) % 8)) (rem8 (by omega)) ?_
    refine Hi_put1 dX0_remember_53 pf_X0_22 h (fun hh h hF1 => ?_)
    have hF := hF.tr hF1 (by omega) (by omega)
    have hr := HrAt.fr hr hF1 (by omega)
    have hs := HsAt.fr hs hF1 (by omega)
    exact R_vret dX0_remember_56 rfl (⟨rfl, by rw [show hiO x z = (x + 1) % 8 from if_neg (by have q1 := (nI_leI (a := 8) (b := z) (by omega) (by omega)).mp; have q2 := (nI_leI (a := 8) (b := z) (by omega) (by omega)).mpr; have := q1 c27; omega), show hiZ z = z from if_neg (by have q1 := (nI_leI (a := 8) (b := z) (by omega) (by omega)).mp; have q2 := (nI_leI (a := 8) (b := z) (by omega) (by omega)).mpr; have := q1 c27; omega)]; exact h, hr, hs, hF⟩)
  · refine R_aload_n dX0_remember_30 rfl ?_
    refine R_dup dX0_remember_31 rfl ?_
    refine R_get dX0_remember_32 gf_X0_18 h rfl ?_
    refine R_iconst (v := 1) dX0_remember_35 (by decide) ?_
    refine R_iadd dX0_remember_36 ?_
    refine RR.top (y := nI (z + 1)) (nI_1 z) ?_
    refine Hi_put2 dX0_remember_37 pf_X0_18 h (fun hh h hF1 => ?_)
    have hF := hF.tr hF1 (by omega) (by omega)
    have hr := HrAt.fr hr hF1 (by omega)
    have hs := HsAt.fr hs hF1 (by omega)
    refine R_goto (tgt := 56) dX0_remember_40 (by decide) ?_
    exact R_vret dX0_remember_56 rfl (⟨rfl, by rw [show hiO x z = x from if_pos (by have q1 := (nI_leI (a := 8) (b := z) (by omega) (by omega)).mp; have q2 := (nI_leI (a := 8) (b := z) (by omega) (by omega)).mpr; rcases Nat.lt_or_ge z 8 with q | q; exact q; exact absurd (q2 q) c27), show hiZ z = z + 1 from if_pos (by have q1 := (nI_leI (a := 8) (b := z) (by omega) (by omega)).mp; have q2 := (nI_leI (a := 8) (b := z) (by omega) (by omega)).mpr; rcases Nat.lt_or_ge z 8 with q | q; exact q; exact absurd (q2 q) c27)]; exact h, hr, hs, hF⟩)
set_option maxRecDepth 4000 in
theorem e_takeBack (G : GG) (hh : HH) {q ks x z : Nat} {A : Nat → AA} {W : Nat → VV} {a : AA} {v : VV} (h : HoAt G hh q (nI x) (nI z)) (hr : HrAt G hh q) (hs : HsAt G hh q A W) (g : StAt G hh ks a v) (hx : x < 8) (hz : z ≤ 8) (hap : ks + 9 ≤ q ∨ q + 74 ≤ ks) (hz1 : 1 ≤ z) : EVv G mX0_takeBack [.ref (ad G q), .ref (ad G ks)] hh (fun h1 => HoAt G h1 q (nI x) (nI (z - 1)) ∧ HrAt G h1 q ∧ HsAt G h1 q A W ∧ StAt G h1 ks (va_up (A ((x + (z - 1)) % 8)) 7 (a 7)) (W ((x + (z - 1)) % 8)) ∧ (∀ i, i ≠ q → (i < ks ∨ ks + 9 ≤ i) → h1 i = hh i)) := by
  refine EV.of [(0, .ref (ad G q)), (1, .ref (ad G ks))] (by decide +kernel) (Nat.le_of_ble_eq_true rfl) rfl ?_
  refine R_aload_n dX0_takeBack_0 rfl ?_
  refine R_get dX0_takeBack_1 gf_X0_18 h rfl ?_
  refine R_iconst (v := 1) dX0_takeBack_4 (by decide) ?_
  refine R_icmp_ge (tgt := 9) dX0_takeBack_5 (by decide) (fun c5 => ?_) (fun c5 => absurd (nI_le (a := 1) hz1 (by omega)) c5)
  refine R_aload_n dX0_takeBack_9 rfl ?_
  refine R_dup dX0_takeBack_10 rfl ?_
  refine R_get dX0_takeBack_11 gf_X0_18 h rfl ?_
  refine R_iconst (v := 1) dX0_takeBack_14 (by decide) ?_
  refine R_isub dX0_takeBack_15 ?_
  refine RR.top (y := nI (z - 1)) (pk_sub (b := 1) hz1) ?_
  refine Hi_put2 dX0_takeBack_16 pf_X0_18 h (fun hh h hF1 => ?_)
  have hF := hF1
  have hr := HrAt.fr hr hF1 (by omega)
  have hs := HsAt.fr hs hF1 (by omega)
  have g := g.fr hF1 (by omega)
  refine R_aload_n dX0_takeBack_19 rfl ?_
  refine R_aload_n dX0_takeBack_20 rfl ?_
  refine R_get dX0_takeBack_21 gf_X0_11 h rfl ?_
  refine R_aload_n dX0_takeBack_24 rfl ?_
  refine R_get dX0_takeBack_25 gf_X0_22 h rfl ?_
  refine R_aload_n dX0_takeBack_28 rfl ?_
  refine R_get dX0_takeBack_29 gf_X0_18 h rfl ?_
  refine R_iadd dX0_takeBack_32 ?_
  refine RR.top (y := nI (x + (z - 1))) (nI_add x (z - 1)) ?_
  refine R_bipush (v := 8) dX0_takeBack_33 (by decide) ?_
  refine R_irem dX0_takeBack_35 (by decide) ?_
  refine RR.top (y := nI ((x + (z - 1)) % 8)) (rem8 (by omega)) ?_
  have hi8 : ((x + (z - 1)) % 8) < 8 := Nat.mod_lt _ (by decide)
  have si := hs ((x + (z - 1)) % 8) hi8
  refine R_aldS (q := ad G (q + 2 + 9 * ((x + (z - 1)) % 8))) dX0_takeBack_36 hr (vp_in_nI (show ((x + (z - 1)) % 8) < 8 by omega) (by decide)) (by rw [nI_clamp (by omega)]) ?_
  refine R_callVv dX0_takeBack_37 cv_X0_25 ⟨by decide, by decide⟩ (e_copyFrom G hh g si (by omega)) g.1 rfl rfl rfl (Nat.le_of_ble_eq_true rfl) (fun hh hw => ?_)
  obtain ⟨g, hF2⟩ := hw
  have h := HoAt.fr h hF2 (by omega)
  have hr := HrAt.fr hr hF2 (by omega)
  have hs := HsAt.fr hs hF2 (by omega)
  exact R_vret dX0_takeBack_40 rfl (⟨rfl, h, hr, hs, g, fun i h1 h2 => (hF2 i h2).trans (hF i (by omega))⟩)
