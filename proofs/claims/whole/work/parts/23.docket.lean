/-- the letters of case c, of the first m cases -/
def wrC (a : AA) (c : Nat) : List Int32 := (if 10 ≤ c then [48 + nI c / 10] else []) ++ [48 + (nI c - nI c / 10 * 10), 97 + a 4 c, 48 + a 5 c, 106, 48 + a 6 c, 46]
def wrl (a : AA) (m : Nat) : List Int32 := (List.range m).flatMap (wrC a)
theorem wrl_s (a : AA) (m : Nat) : wrl a (m + 1) = wrl a m ++ wrC a m := by simp [wrl, List.range_succ, List.flatMap_append]
theorem wrl_len (a : AA) : ∀ m, (wrl a m).length = 6 * m + (m - 10)
  | 0 => rfl
  | m + 1 => by
    rw [wrl_s, List.length_append, wrl_len a m]
    unfold wrC
    by_cases h : 10 ≤ m
    · simp [h]; omega
    · simp [h]; omega
def pref (f : Nat → Int32) (l : List Int32) : Prop := ∀ j, j < l.length → f j = l.getD j 0
theorem pref_app {f : Nat → Int32} {l : List Int32} (h : pref f l) (x : Int32) : pref (upd f l.length x) (l ++ [x]) := by
  intro j hj
  rw [List.length_append] at hj
  simp only [List.length_singleton] at hj
  by_cases e : j = l.length
  · subst e
    simp [upd]
  · have hlt : j < l.length := by omega
    simp only [upd, if_neg e]
    rw [h j hlt]
    simp [List.getElem?_append_left hlt]
theorem LeAt.len {G : GG} {hh : HH} {k n : Nat} {f : Nat → Int32} {l : List Int32} {x : Int32} (h : LeAt G hh k n f (nI (l.length + 1))) : LeAt G hh k n f (nI (l ++ [x]).length) := by
  rw [List.length_append]; exact h
set_option maxRecDepth 4000 in
theorem l_writeDocket (G : GG) (hh0 : HH) {a : AA} {v : VV} {m : Nat} (hm : m ≤ 20) (hc : v 14 = nI m) : ∀ (d i : Nat) (f : Nat → Int32) (hh : HH), i + d = m → hAt G hh 0 (cwO G) → StAt G hh 32 a v → LeAt G hh 3 130 f (nI (wrl a i).length) → pref f (wrl a i) → Fr 3 5 hh0 hh → RR G mX4_writeDocket 10 [(0, .ref (ad G 0)), (1, .int (nI i))] [] hh (fun r h1 => r = none ∧ ((∃ f, LeAt G h1 3 130 f (nI (wrl a m).length) ∧ pref f (wrl a m)) ∧ Fr 3 5 hh0 h1)) := by
  intro d
  induction d with
  | zero =>
    intro i f hh hi hC nw dk hp hF
    refine R_iload_n dX4_writeDocket_10 rfl ?_
    refine R_aload_n dX4_writeDocket_11 rfl ?_
    refine R_get dX4_writeDocket_12 gf_X4_48 hC rfl ?_
    refine R_get dX4_writeDocket_15 gf_X4_138 nw.1 rfl ?_
    refine R_icmp_ge (tgt := 136) dX4_writeDocket_18 (by decide) (fun c18 => ?_) (fun c18 => absurd (by rw [hc]; exact nI_le (by omega) (by omega)) c18)
    exact R_vret dX4_writeDocket_136 rfl (by (have e : i = m := by omega); (subst e); exact ⟨rfl, ⟨_, dk, hp⟩, hF⟩)
  | succ d ih =>
    intro i f hh hi hC nw dk hp hF
    have hl := wrl_len a i
    refine R_iload_n dX4_writeDocket_10 rfl ?_
    refine R_aload_n dX4_writeDocket_11 rfl ?_
    refine R_get dX4_writeDocket_12 gf_X4_48 hC rfl ?_
    refine R_get dX4_writeDocket_15 gf_X4_138 nw.1 rfl ?_
    refine R_icmp_ge (tgt := 136) dX4_writeDocket_18 (by decide) (fun c18 => absurd c18 (by rw [hc]; exact nI_ge (by omega) (by omega))) (fun c18 => ?_)
    refine R_iload_n dX4_writeDocket_21 rfl ?_
    refine R_bipush (v := 10) dX4_writeDocket_22 (by decide) ?_
    refine R_icmp_lt (tgt := 41) dX4_writeDocket_24 (by decide) (fun c24 => ?_) (fun c24 => ?_)
    · refine R_aload_n dX4_writeDocket_41 rfl ?_
      refine R_get dX4_writeDocket_42 gf_X4_18 hC rfl ?_
      refine R_bipush (v := 48) dX4_writeDocket_45 (by decide) ?_
      refine R_iload_n dX4_writeDocket_47 rfl ?_
      refine R_bipush (v := 10) dX4_writeDocket_48 (by decide) ?_
      refine R_irem dX4_writeDocket_50 (by decide) ?_
      refine R_iadd dX4_writeDocket_51 ?_
      refine R_callVv dX4_writeDocket_52 cv_X4_269 ⟨by decide, by decide⟩ (e_append G hh dk (by (try simp only [List.length_append, List.length_singleton]); omega) (by omega) (by (try simp only [List.length_append, List.length_singleton]); omega) (48 + (nI i - nI i / 10 * 10))) dk.1 rfl rfl rfl (Nat.le_of_ble_eq_true rfl) (fun hh hw => ?_)
      obtain ⟨dk, hF1⟩ := hw
      have hF := hF.tr hF1 (by omega) (by omega)
      have hC := hAt.fr hC hF1 (by omega)
      have nw := nw.fr hF1 (by omega)
      have dk := dk.len (x := 48 + (nI i - nI i / 10 * 10))
      have hp := pref_app hp (48 + (nI i - nI i / 10 * 10))
      refine R_aload_n dX4_writeDocket_55 rfl ?_
      refine R_get dX4_writeDocket_56 gf_X4_18 hC rfl ?_
      refine R_bipush (v := 97) dX4_writeDocket_59 (by decide) ?_
      refine R_aload_n dX4_writeDocket_61 rfl ?_
      refine R_get dX4_writeDocket_62 gf_X4_48 hC rfl ?_
      refine R_get dX4_writeDocket_65 gf_X4_126 nw.1 rfl ?_
      refine R_iload_n dX4_writeDocket_68 rfl ?_
      refine R_ialdN dX4_writeDocket_69 nw.a4 (by omega) (by decide) ?_
      refine R_iadd dX4_writeDocket_70 ?_
      refine R_callVv dX4_writeDocket_71 cv_X4_269 ⟨by decide, by decide⟩ (e_append G hh dk (by (try simp only [List.length_append, List.length_singleton]); omega) (by omega) (by (try simp only [List.length_append, List.length_singleton]); omega) (97 + a 4 i)) dk.1 rfl rfl rfl (Nat.le_of_ble_eq_true rfl) (fun hh hw => ?_)
      obtain ⟨dk, hF1⟩ := hw
      have hF := hF.tr hF1 (by omega) (by omega)
      have hC := hAt.fr hC hF1 (by omega)
      have nw := nw.fr hF1 (by omega)
      have dk := dk.len (x := 97 + a 4 i)
      have hp := pref_app hp (97 + a 4 i)
      refine R_aload_n dX4_writeDocket_74 rfl ?_
      refine R_get dX4_writeDocket_75 gf_X4_18 hC rfl ?_
      refine R_bipush (v := 48) dX4_writeDocket_78 (by decide) ?_
      refine R_aload_n dX4_writeDocket_80 rfl ?_
      refine R_get dX4_writeDocket_81 gf_X4_48 hC rfl ?_
      refine R_get dX4_writeDocket_84 gf_X4_129 nw.1 rfl ?_
      refine R_iload_n dX4_writeDocket_87 rfl ?_
      refine R_ialdN dX4_writeDocket_88 nw.a5 (by omega) (by decide) ?_
      refine R_iadd dX4_writeDocket_89 ?_
      refine R_callVv dX4_writeDocket_90 cv_X4_269 ⟨by decide, by decide⟩ (e_append G hh dk (by (try simp only [List.length_append, List.length_singleton]); omega) (by omega) (by (try simp only [List.length_append, List.length_singleton]); omega) (48 + a 5 i)) dk.1 rfl rfl rfl (Nat.le_of_ble_eq_true rfl) (fun hh hw => ?_)
      obtain ⟨dk, hF1⟩ := hw
      have hF := hF.tr hF1 (by omega) (by omega)
      have hC := hAt.fr hC hF1 (by omega)
      have nw := nw.fr hF1 (by omega)
      have dk := dk.len (x := 48 + a 5 i)
      have hp := pref_app hp (48 + a 5 i)
      refine R_aload_n dX4_writeDocket_93 rfl ?_
      refine R_get dX4_writeDocket_94 gf_X4_18 hC rfl ?_
      refine R_bipush (v := 106) dX4_writeDocket_97 (by decide) ?_
      refine R_callVv dX4_writeDocket_99 cv_X4_269 ⟨by decide, by decide⟩ (e_append G hh dk (by (try simp only [List.length_append, List.length_singleton]); omega) (by omega) (by (try simp only [List.length_append, List.length_singleton]); omega) (106)) dk.1 rfl rfl rfl (Nat.le_of_ble_eq_true rfl) (fun hh hw => ?_)
      obtain ⟨dk, hF1⟩ := hw
      have hF := hF.tr hF1 (by omega) (by omega)
      have hC := hAt.fr hC hF1 (by omega)
      have nw := nw.fr hF1 (by omega)
      have dk := dk.len (x := 106)
      have hp := pref_app hp (106)
      refine R_aload_n dX4_writeDocket_102 rfl ?_
      refine R_get dX4_writeDocket_103 gf_X4_18 hC rfl ?_
      refine R_bipush (v := 48) dX4_writeDocket_106 (by decide) ?_
      refine R_aload_n dX4_writeDocket_108 rfl ?_
      refine R_get dX4_writeDocket_109 gf_X4_48 hC rfl ?_
      refine R_get dX4_writeDocket_112 gf_X4_132 nw.1 rfl ?_
      refine R_iload_n dX4_writeDocket_115 rfl ?_
      refine R_ialdN dX4_writeDocket_116 nw.a6 (by omega) (by decide) ?_
      refine R_iadd dX4_writeDocket_117 ?_
      refine R_callVv dX4_writeDocket_118 cv_X4_269 ⟨by decide, by decide⟩ (e_append G hh dk (by (try simp only [List.length_append, List.length_singleton]); omega) (by omega) (by (try simp only [List.length_append, List.length_singleton]); omega) (48 + a 6 i)) dk.1 rfl rfl rfl (Nat.le_of_ble_eq_true rfl) (fun hh hw => ?_)
      obtain ⟨dk, hF1⟩ := hw
      have hF := hF.tr hF1 (by omega) (by omega)
      have hC := hAt.fr hC hF1 (by omega)
      have nw := nw.fr hF1 (by omega)
      have dk := dk.len (x := 48 + a 6 i)
      have hp := pref_app hp (48 + a 6 i)
      refine R_aload_n dX4_writeDocket_121 rfl ?_
      refine R_get dX4_writeDocket_122 gf_X4_18 hC rfl ?_
      refine R_bipush (v := 46) dX4_writeDocket_125 (by decide) ?_
      refine R_callVv dX4_writeDocket_127 cv_X4_269 ⟨by decide, by decide⟩ (e_append G hh dk (by (try simp only [List.length_append, List.length_singleton]); omega) (by omega) (by (try simp only [List.length_append, List.length_singleton]); omega) (46)) dk.1 rfl rfl rfl (Nat.le_of_ble_eq_true rfl) (fun hh hw => ?_)
      obtain ⟨dk, hF1⟩ := hw
      have hF := hF.tr hF1 (by omega) (by omega)
      have hC := hAt.fr hC hF1 (by omega)
      have nw := nw.fr hF1 (by omega)
      have dk := dk.len (x := 46)
      have hp := pref_app hp (46)
      refine R_iinc (y := nI (i + 1)) dX4_writeDocket_130 rfl (by decide) (nI_s i) ?_
      refine R_goto (tgt := 10) dX4_writeDocket_133 (by decide) ?_
      have e10 : ¬ 10 ≤ i := by
        have q1 := nI_ltI (a := i) (b := 10) (by omega) (by omega)
        have := q1.mp c24; omega
      have e11 : wrl a (i + 1) = wrl a i ++ [48 + (nI i - nI i / 10 * 10)] ++ [97 + a 4 i] ++ [48 + a 5 i] ++ [106] ++ [48 + a 6 i] ++ [46] := by rw [wrl_s]; simp [wrC, e10]
      rw [← e11] at dk hp
      exact RR.pick [1, 0] rfl (ih (i + 1) _ hh (by omega) hC nw dk hp hF)
    · refine R_aload_n dX4_writeDocket_27 rfl ?_
      refine R_get dX4_writeDocket_28 gf_X4_18 hC rfl ?_
      refine R_bipush (v := 48) dX4_writeDocket_31 (by decide) ?_
      refine R_iload_n dX4_writeDocket_33 rfl ?_
      refine R_bipush (v := 10) dX4_writeDocket_34 (by decide) ?_
      refine R_idiv dX4_writeDocket_36 (by decide) ?_
      refine R_iadd dX4_writeDocket_37 ?_
      refine R_callVv dX4_writeDocket_38 cv_X4_269 ⟨by decide, by decide⟩ (e_append G hh dk (by (try simp only [List.length_append, List.length_singleton]); omega) (by omega) (by (try simp only [List.length_append, List.length_singleton]); omega) (48 + nI i / 10)) dk.1 rfl rfl rfl (Nat.le_of_ble_eq_true rfl) (fun hh hw => ?_)
      obtain ⟨dk, hF1⟩ := hw
      have hF := hF.tr hF1 (by omega) (by omega)
      have hC := hAt.fr hC hF1 (by omega)
      have nw := nw.fr hF1 (by omega)
      have dk := dk.len (x := 48 + nI i / 10)
      have hp := pref_app hp (48 + nI i / 10)
      refine R_aload_n dX4_writeDocket_41 rfl ?_
      refine R_get dX4_writeDocket_42 gf_X4_18 hC rfl ?_
      refine R_bipush (v := 48) dX4_writeDocket_45 (by decide) ?_
      refine R_iload_n dX4_writeDocket_47 rfl ?_
      refine R_bipush (v := 10) dX4_writeDocket_48 (by decide) ?_
      refine R_irem dX4_writeDocket_50 (by decide) ?_
      refine R_iadd dX4_writeDocket_51 ?_
      refine R_callVv dX4_writeDocket_52 cv_X4_269 ⟨by decide, by decide⟩ (e_append G hh dk (by (try simp only [List.length_append, List.length_singleton]); omega) (by omega) (by (try simp only [List.length_append, List.length_singleton]); omega) (48 + (nI i - nI i / 10 * 10))) dk.1 rfl rfl rfl (Nat.le_of_ble_eq_true rfl) (fun hh hw => ?_)
      obtain ⟨dk, hF1⟩ := hw
      have hF := hF.tr hF1 (by omega) (by omega)
      have hC := hAt.fr hC hF1 (by omega)
      have nw := nw.fr hF1 (by omega)
      have dk := dk.len (x := 48 + (nI i - nI i / 10 * 10))
      have hp := pref_app hp (48 + (nI i - nI i / 10 * 10))
      refine R_aload_n dX4_writeDocket_55 rfl ?_
      refine R_get dX4_writeDocket_56 gf_X4_18 hC rfl ?_
      refine R_bipush (v := 97) dX4_writeDocket_59 (by decide) ?_
      refine R_aload_n dX4_writeDocket_61 rfl ?_
      refine R_get dX4_writeDocket_62 gf_X4_48 hC rfl ?_
      refine R_get dX4_writeDocket_65 gf_X4_126 nw.1 rfl ?_
      refine R_iload_n dX4_writeDocket_68 rfl ?_
      refine R_ialdN dX4_writeDocket_69 nw.a4 (by omega) (by decide) ?_
      refine R_iadd dX4_writeDocket_70 ?_
      refine R_callVv dX4_writeDocket_71 cv_X4_269 ⟨by decide, by decide⟩ (e_append G hh dk (by (try simp only [List.length_append, List.length_singleton]); omega) (by omega) (by (try simp only [List.length_append, List.length_singleton]); omega) (97 + a 4 i)) dk.1 rfl rfl rfl (Nat.le_of_ble_eq_true rfl) (fun hh hw => ?_)
      obtain ⟨dk, hF1⟩ := hw
      have hF := hF.tr hF1 (by omega) (by omega)
      have hC := hAt.fr hC hF1 (by omega)
      have nw := nw.fr hF1 (by omega)
      have dk := dk.len (x := 97 + a 4 i)
      have hp := pref_app hp (97 + a 4 i)
      refine R_aload_n dX4_writeDocket_74 rfl ?_
      refine R_get dX4_writeDocket_75 gf_X4_18 hC rfl ?_
      refine R_bipush (v := 48) dX4_writeDocket_78 (by decide) ?_
      refine R_aload_n dX4_writeDocket_80 rfl ?_
      refine R_get dX4_writeDocket_81 gf_X4_48 hC rfl ?_
      refine R_get dX4_writeDocket_84 gf_X4_129 nw.1 rfl ?_
      refine R_iload_n dX4_writeDocket_87 rfl ?_
      refine R_ialdN dX4_writeDocket_88 nw.a5 (by omega) (by decide) ?_
      refine R_iadd dX4_writeDocket_89 ?_
      refine R_callVv dX4_writeDocket_90 cv_X4_269 ⟨by decide, by decide⟩ (e_append G hh dk (by (try simp only [List.length_append, List.length_singleton]); omega) (by omega) (by (try simp only [List.length_append, List.length_singleton]); omega) (48 + a 5 i)) dk.1 rfl rfl rfl (Nat.le_of_ble_eq_true rfl) (fun hh hw => ?_)
      obtain ⟨dk, hF1⟩ := hw
      have hF := hF.tr hF1 (by omega) (by omega)
      have hC := hAt.fr hC hF1 (by omega)
      have nw := nw.fr hF1 (by omega)
      have dk := dk.len (x := 48 + a 5 i)
      have hp := pref_app hp (48 + a 5 i)
      refine R_aload_n dX4_writeDocket_93 rfl ?_
      refine R_get dX4_writeDocket_94 gf_X4_18 hC rfl ?_
      refine R_bipush (v := 106) dX4_writeDocket_97 (by decide) ?_
      refine R_callVv dX4_writeDocket_99 cv_X4_269 ⟨by decide, by decide⟩ (e_append G hh dk (by (try simp only [List.length_append, List.length_singleton]); omega) (by omega) (by (try simp only [List.length_append, List.length_singleton]); omega) (106)) dk.1 rfl rfl rfl (Nat.le_of_ble_eq_true rfl) (fun hh hw => ?_)
      obtain ⟨dk, hF1⟩ := hw
      have hF := hF.tr hF1 (by omega) (by omega)
      have hC := hAt.fr hC hF1 (by omega)
      have nw := nw.fr hF1 (by omega)
      have dk := dk.len (x := 106)
      have hp := pref_app hp (106)
      refine R_aload_n dX4_writeDocket_102 rfl ?_
      refine R_get dX4_writeDocket_103 gf_X4_18 hC rfl ?_
      refine R_bipush (v := 48) dX4_writeDocket_106 (by decide) ?_
      refine R_aload_n dX4_writeDocket_108 rfl ?_
      refine R_get dX4_writeDocket_109 gf_X4_48 hC rfl ?_
      refine R_get dX4_writeDocket_112 gf_X4_132 nw.1 rfl ?_
      refine R_iload_n dX4_writeDocket_115 rfl ?_
      refine R_ialdN dX4_writeDocket_116 nw.a6 (by omega) (by decide) ?_
      refine R_iadd dX4_writeDocket_117 ?_
      refine R_callVv dX4_writeDocket_118 cv_X4_269 ⟨by decide, by decide⟩ (e_append G hh dk (by (try simp only [List.length_append, List.length_singleton]); omega) (by omega) (by (try simp only [List.length_append, List.length_singleton]); omega) (48 + a 6 i)) dk.1 rfl rfl rfl (Nat.le_of_ble_eq_true rfl) (fun hh hw => ?_)
      obtain ⟨dk, hF1⟩ := hw
      have hF := hF.tr hF1 (by omega) (by omega)
      have hC := hAt.fr hC hF1 (by omega)
      have nw := nw.fr hF1 (by omega)
      have dk := dk.len (x := 48 + a 6 i)
      have hp := pref_app hp (48 + a 6 i)
      refine R_aload_n dX4_writeDocket_121 rfl ?_
      refine R_get dX4_writeDocket_122 gf_X4_18 hC rfl ?_
      refine R_bipush (v := 46) dX4_writeDocket_125 (by decide) ?_
      refine R_callVv dX4_writeDocket_127 cv_X4_269 ⟨by decide, by decide⟩ (e_append G hh dk (by (try simp only [List.length_append, List.length_singleton]); omega) (by omega) (by (try simp only [List.length_append, List.length_singleton]); omega) (46)) dk.1 rfl rfl rfl (Nat.le_of_ble_eq_true rfl) (fun hh hw => ?_)
      obtain ⟨dk, hF1⟩ := hw
      have hF := hF.tr hF1 (by omega) (by omega)
      have hC := hAt.fr hC hF1 (by omega)
      have nw := nw.fr hF1 (by omega)
      have dk := dk.len (x := 46)
      have hp := pref_app hp (46)
      refine R_iinc (y := nI (i + 1)) dX4_writeDocket_130 rfl (by decide) (nI_s i) ?_
      refine R_goto (tgt := 10) dX4_writeDocket_133 (by decide) ?_
      have e10 : 10 ≤ i := by
        have q1 := nI_ltI (a := i) (b := 10) (by omega) (by omega)
        rcases Nat.lt_or_ge i 10 with q | q; exact absurd (q1.mpr q) c24; exact q
      have e11 : wrl a (i + 1) = wrl a i ++ [48 + nI i / 10] ++ [48 + (nI i - nI i / 10 * 10)] ++ [97 + a 4 i] ++ [48 + a 5 i] ++ [106] ++ [48 + a 6 i] ++ [46] := by rw [wrl_s]; simp [wrC, e10]
      rw [← e11] at dk hp
      exact RR.pick [1, 0] rfl (ih (i + 1) _ hh (by omega) hC nw dk hp hF)
set_option maxRecDepth 4000 in
theorem w_writeDocket (G : GG) (hh : HH)  {a : AA} {v : VV} {df : Nat → Int32} {dL : Nat} (hC : hAt G hh 0 (cwO G)) (nw : StAt G hh 32 a v) (dk : LeAt G hh 3 130 df (nI dL)) (hdL : dL ≤ 130) {m : Nat} (hm : m ≤ 20) (hc : v 14 = nI m) : EVv G mX4_writeDocket [.ref (ad G 0)] hh (fun h1 => (∃ f, LeAt G h1 3 130 f (nI (wrl a m).length) ∧ pref f (wrl a m)) ∧ Fr 3 5 hh h1) := by
  refine EV.of [(0, .ref (ad G 0))] (by decide +kernel) (Nat.le_of_ble_eq_true rfl) rfl ?_
  have hF : Fr 3 5 hh hh := Fr.rf
  refine R_aload_n dX4_writeDocket_0 rfl ?_
  refine R_get dX4_writeDocket_1 gf_X4_18 hC rfl ?_
  refine R_iconst (v := 0) dX4_writeDocket_4 (by decide) ?_
  refine Le_put1 dX4_writeDocket_5 pf_X4_72 dk (fun hh dk hF1 => ?_)
  have hF := hF.tr hF1 (by omega) (by omega)
  have hC := hAt.fr hC hF1 (by omega)
  have nw := nw.fr hF1 (by omega)
  refine R_iconst (v := 0) dX4_writeDocket_8 (by decide) ?_
  refine R_istore_n dX4_writeDocket_9 (by decide) ?_
  exact RR.pick [1, 0] rfl (l_writeDocket G _ hm hc m 0 _ hh (by omega) hC nw dk (fun j hj => absurd hj (by simp [wrl])) hF)
def anWriting (a : AA) (m : Nat) (k : Int32) : Int32 := if k < 0 then -3 else if nI (wrl a m).length ≤ k then -1 else (wrl a m).getD k.toNatClampNeg 0
set_option maxRecDepth 4000 in
theorem w_writing (G : GG) (hh : HH)  {a : AA} {v : VV} {df : Nat → Int32} {dL : Nat} (hC : hAt G hh 0 (cwO G)) (nw : StAt G hh 32 a v) (dk : LeAt G hh 3 130 df (nI dL)) (hdL : dL ≤ 130) {m : Nat} (hm : m ≤ 20) (hc : v 14 = nI m) (k : Int32) : EVi G mX4_writing [.ref (ad G 0), .int k] hh (fun w h1 => w = anWriting a m k ∧ (h1 = hh ∨ ((∃ f, LeAt G h1 3 130 f (nI (wrl a m).length) ∧ pref f (wrl a m)) ∧ Fr 3 5 hh h1))) := by
  refine EV.of [(0, .ref (ad G 0)), (1, .int k)] (by decide +kernel) (Nat.le_of_ble_eq_true rfl) rfl ?_
  refine R_iload_n dX4_writing_0 rfl ?_
  refine R_if_ge (tgt := 7) dX4_writing_1 (by decide) (fun c1 => ?_) (fun c1 => ?_)
  · refine R_aload_n dX4_writing_7 rfl ?_
    refine R_callVv dX4_writing_8 cv_X4_173 ⟨by decide, by decide⟩ (w_writeDocket G hh hC nw dk hdL hm hc) hC rfl rfl rfl (Nat.le_of_ble_eq_true rfl) (fun hh hw => ?_)
    obtain ⟨⟨f, dk, hp⟩, hF⟩ := hw
    have hC := hAt.fr hC hF (by omega)
    have nw := nw.fr hF (by omega)
    have hl := wrl_len a m
    refine R_iload_n dX4_writing_11 rfl ?_
    refine R_aload_n dX4_writing_12 rfl ?_
    refine R_get dX4_writing_13 gf_X4_18 hC rfl ?_
    refine R_get dX4_writing_16 gf_X4_72 dk.1 rfl ?_
    refine R_icmp_ge (tgt := 34) dX4_writing_19 (by decide) (fun c19 => ?_) (fun c19 => ?_)
    · refine R_iconst (v := (-1)) dX4_writing_34 (by decide) ?_
      exact R_iret dX4_writing_35 rfl (⟨_, rfl, by rw [anWriting, if_neg (Int32.not_lt.mpr c1), if_pos c19], Or.inr ⟨⟨f, dk, hp⟩, hF⟩⟩)
    · obtain ⟨kk, hk, rfl⟩ := ix_in (n := (wrl a m).length) (by omega) (Int32.not_lt.mpr c1) (Int32.not_le.mp c19)
      refine R_aload_n dX4_writing_22 rfl ?_
      refine R_get dX4_writing_23 gf_X4_18 hC rfl ?_
      refine R_get dX4_writing_26 gf_X4_176 dk.1 rfl ?_
      refine R_iload_n dX4_writing_29 rfl ?_
      refine R_ialdN dX4_writing_30 dk.2 (show kk < 130 by omega) (by decide) ?_
      refine R_goto (tgt := 35) dX4_writing_31 (by decide) ?_
      exact R_iret dX4_writing_35 rfl (⟨_, rfl, by rw [anWriting, if_neg (Int32.not_lt.mpr c1), if_neg c19, nI_clamp (by omega)]; exact hp kk hk, Or.inr ⟨⟨f, dk, hp⟩, hF⟩⟩)
  · refine R_bipush (v := (-3)) dX4_writing_4 (by decide) ?_
    exact R_iret dX4_writing_6 rfl (⟨_, rfl, by rw [anWriting, if_pos (by simpa using c1)], Or.inl rfl⟩)
set_option maxRecDepth 4000 in
theorem w_lettersOfWriting (G : GG) (hh : HH)  {a : AA} {v : VV} {df : Nat → Int32} {dL : Nat} (hC : hAt G hh 0 (cwO G)) (nw : StAt G hh 32 a v) (dk : LeAt G hh 3 130 df (nI dL)) (hdL : dL ≤ 130) {m : Nat} (hm : m ≤ 20) (hc : v 14 = nI m) : EVi G mX4_lettersOfWriting [.ref (ad G 0)] hh (fun w h1 => w = nI (wrl a m).length ∧ (∃ f, LeAt G h1 3 130 f (nI (wrl a m).length) ∧ pref f (wrl a m)) ∧ Fr 3 5 hh h1) := by
  refine EV.of [(0, .ref (ad G 0))] (by decide +kernel) (Nat.le_of_ble_eq_true rfl) rfl ?_
  refine R_aload_n dX4_lettersOfWriting_0 rfl ?_
  refine R_callVv dX4_lettersOfWriting_1 cv_X4_173 ⟨by decide, by decide⟩ (w_writeDocket G hh hC nw dk hdL hm hc) hC rfl rfl rfl (Nat.le_of_ble_eq_true rfl) (fun hh hw => ?_)
  obtain ⟨⟨f, dk, hp⟩, hF⟩ := hw
  have hC := hAt.fr hC hF (by omega)
  have nw := nw.fr hF (by omega)
  have hl := wrl_len a m
  refine R_aload_n dX4_lettersOfWriting_4 rfl ?_
  refine R_get dX4_lettersOfWriting_5 gf_X4_18 hC rfl ?_
  refine R_get dX4_lettersOfWriting_8 gf_X4_72 dk.1 rfl ?_
  exact R_iret dX4_lettersOfWriting_11 rfl (⟨_, rfl, rfl, ⟨f, dk, hp⟩, hF⟩)
def sealX (x k : Int32) : Int32 := 97 + ((x.toUInt32 >>> ((4 * (7 - k)).toUInt32 &&& Int32.toUInt32 31)).toInt32 &&& 15)
def anSealOf (s k : Int32) : Int32 := if 1 ≤ s ∧ 0 ≤ k ∧ k < 8 then sealX (itT 5 (s ^^^ 305419896)) k else -3
theorem itT_s (n : Nat) (c : Int32) : tw (itT n c) = itT (n + 1) c := by
  have := itT_add n 1 c
  exact this
set_option maxRecDepth 4000 in
theorem l_sealOf (G : GG) (hh : HH) (s k : Int32) : ∀ (d i : Nat), i + d = 5 → RR G mX4_sealOf 28 [(0, .ref (ad G 0)), (1, .int s), (2, .int k), (3, .int (itT i (s ^^^ 305419896))), (4, .int (nI i))] [] hh (fun r h => ∃ y, r = some (.int y) ∧ (y = sealX (itT 5 (s ^^^ 305419896)) k ∧ h = hh)) := by
  intro d
  induction d with
  | zero =>
    intro i hi
    refine R_iload dX4_sealOf_28 rfl ?_
    refine R_iconst (v := 5) dX4_sealOf_30 (by decide) ?_
    refine R_icmp_ge (tgt := 45) dX4_sealOf_31 (by decide) (fun c31 => ?_) (fun c31 => absurd (nI_le (a := 5) (by omega) (by omega)) c31)
    refine R_bipush (v := 7) dX4_sealOf_45 (by decide) ?_
    refine R_iload_n dX4_sealOf_47 rfl ?_
    refine R_isub dX4_sealOf_48 ?_
    refine R_istore dX4_sealOf_49 (by decide) ?_
    refine R_bipush (v := 97) dX4_sealOf_51 (by decide) ?_
    refine R_iload_n dX4_sealOf_53 rfl ?_
    refine R_iconst (v := 4) dX4_sealOf_54 (by decide) ?_
    refine R_iload dX4_sealOf_55 rfl ?_
    refine R_imul dX4_sealOf_57 ?_
    refine R_iushr dX4_sealOf_58 ?_
    refine R_bipush (v := 15) dX4_sealOf_59 (by decide) ?_
    refine R_iand dX4_sealOf_61 ?_
    refine R_iadd dX4_sealOf_62 ?_
    exact R_iret dX4_sealOf_63 rfl (by (have e : i = 5 := by omega); (subst e); exact ⟨_, rfl, rfl, rfl⟩)
  | succ d ih =>
    intro i hi
    refine R_iload dX4_sealOf_28 rfl ?_
    refine R_iconst (v := 5) dX4_sealOf_30 (by decide) ?_
    refine R_icmp_ge (tgt := 45) dX4_sealOf_31 (by decide) (fun c31 => absurd c31 (nI_ge (b := 5) (by omega) (by omega))) (fun c31 => ?_)
    refine R_iload_n dX4_sealOf_34 rfl ?_
    refine R_callSp dX4_sealOf_35 cs_X4_180 ⟨by decide, by decide⟩ (e_turned G hh (itT i (s ^^^ 305419896))) rfl rfl (Nat.le_of_ble_eq_true rfl) ?_
    refine RR.top (y := itT (i + 1) (s ^^^ 305419896)) (itT_s i _) ?_
    refine R_istore_n dX4_sealOf_38 (by decide) ?_
    refine R_iinc (y := nI (i + 1)) dX4_sealOf_39 rfl (by decide) (nI_s i) ?_
    refine R_goto (tgt := 28) dX4_sealOf_42 (by decide) ?_
    exact RR.pick [2, 3, 4, 1, 0] rfl (ih (i + 1) (by omega))
set_option maxRecDepth 4000 in
theorem w_sealOf (G : GG) (hh : HH) (s k : Int32) : EVp G mX4_sealOf [.ref (ad G 0), .int s, .int k] hh (anSealOf s k) := by
  refine EV.of [(0, .ref (ad G 0)), (1, .int s), (2, .int k)] (by decide +kernel) (Nat.le_of_ble_eq_true rfl) rfl ?_
  refine R_iload_n dX4_sealOf_0 rfl ?_
  refine R_callSp dX4_sealOf_1 cs_X4_135 ⟨by decide, by decide⟩ (e_isSeed G hh s) rfl rfl (Nat.le_of_ble_eq_true rfl) ?_
  refine R_if_eq (tgt := 17) dX4_sealOf_4 (by decide) (fun c4 => ?_) (fun c4 => ?_)
  · refine R_bipush (v := (-3)) dX4_sealOf_17 (by decide) ?_
    exact R_iret dX4_sealOf_19 rfl (⟨_, rfl, by rw [anSealOf, if_neg (by rintro ⟨q1, q2, q3⟩; revert c4; simp [bl, q1])], rfl⟩)
  · refine R_iload_n dX4_sealOf_7 rfl ?_
    refine R_if_lt (tgt := 17) dX4_sealOf_8 (by decide) (fun c8 => ?_) (fun c8 => ?_)
    · refine R_bipush (v := (-3)) dX4_sealOf_17 (by decide) ?_
      exact R_iret dX4_sealOf_19 rfl (⟨_, rfl, by rw [anSealOf, if_neg (by rintro ⟨q1, q2, q3⟩; exact absurd c8 (Int32.not_lt.mpr q2))], rfl⟩)
    · refine R_iload_n dX4_sealOf_11 rfl ?_
      refine R_bipush (v := 8) dX4_sealOf_12 (by decide) ?_
      refine R_icmp_lt (tgt := 20) dX4_sealOf_14 (by decide) (fun c14 => ?_) (fun c14 => ?_)
      · refine R_iload_n dX4_sealOf_20 rfl ?_
        refine R_ldc dX4_sealOf_21 kc_X4_179 ?_
        refine R_ixor dX4_sealOf_23 ?_
        refine R_istore_n dX4_sealOf_24 (by decide) ?_
        refine R_iconst (v := 0) dX4_sealOf_25 (by decide) ?_
        refine R_istore dX4_sealOf_26 (by decide) ?_
        rw [show anSealOf s k = sealX (itT 5 (s ^^^ 305419896)) k from if_pos ⟨by simpa [bl] using c4, Int32.not_lt.mp c8, c14⟩]
        exact RR.pick [2, 3, 4, 1, 0] rfl (l_sealOf G hh s k 5 0 (by omega))
      · refine R_bipush (v := (-3)) dX4_sealOf_17 (by decide) ?_
        exact R_iret dX4_sealOf_19 rfl (⟨_, rfl, by rw [anSealOf, if_neg (by rintro ⟨q1, q2, q3⟩; exact absurd q3 c14)], rfl⟩)
theorem R_ldcw {G : GG} {μ : MI} {pc : Nat} {lv : List (Nat × Value)} {st : List Value} {hh : HH} {Q : QQ} {index : Nat} {v : Int32} (hd : decode μ.2.1 pc = .ok (.ldc_w index, 3)) (hw : Cond.constant μ.1.cls index v ∈ XW) (k : RR G μ (pc + 3) lv (.int v :: st) hh Q) : RR G μ pc lv st hh Q := fun p e s m args below meth c C H locs ls hP hS hl => lv_ldcw C.1 C.2.1 C.2.2.2.2.1 (C.2.2.2.2.2.2.1 _ (List.mem_cons_of_mem _ hw)) hd (k p e s m args below meth c C H locs ls hP hS hl)
set_option maxRecDepth 4000 in
theorem l_gcd (G : GG) (hh : HH) (p0 p1 : Int32) : ∀ (y i x : Nat), i + y < 1000000 → x < 1000000 → RR G mX4_commonDivisor 15 [(0, .int p0), (1, .int p1), (2, .int (nI x)), (3, .int (nI y)), (4, .int (nI i))] [] hh (fun r h => ∃ w, r = some (.int w) ∧ (w = nI (Nat.gcd x y) ∧ h = hh)) := by
  intro y
  induction y using Nat.strongRecOn with
  | ind y ih =>
  intro i x hi hx
  refine R_iload dX4_commonDivisor_15 rfl ?_
  refine R_ldcw dX4_commonDivisor_17 kc_X4_264 ?_
  refine R_icmp_ge (tgt := 43) dX4_commonDivisor_20 (by decide) (fun c20 => absurd c20 (nI_ge (a := i) (b := 1000000) (by omega) (by decide))) (fun c20 => ?_)
  refine R_iload_n dX4_commonDivisor_23 rfl ?_
  refine R_if_le (tgt := 43) dX4_commonDivisor_24 (by decide) (fun c24 => ?_) (fun c24 => ?_)
  · refine R_iload_n dX4_commonDivisor_43 rfl ?_
    exact R_iret dX4_commonDivisor_44 rfl (⟨_, rfl, by (have q : y = 0 := by (rcases Nat.eq_zero_or_pos y with q | q; exact q; exact absurd c24 (nI_nle q (by omega)))); (subst q); rw [Nat.gcd_zero_right], rfl⟩)
  · have hy0 : 0 < y := by
      rcases Nat.eq_zero_or_pos y with q | q
      · subst q; exact absurd (by decide) c24
      · exact q
    have hlt := Nat.mod_lt x hy0
    refine R_iload_n dX4_commonDivisor_27 rfl ?_
    refine R_iload_n dX4_commonDivisor_28 rfl ?_
    refine R_irem dX4_commonDivisor_29 (nI_ne0 hy0 (by omega)) ?_
    refine RR.top (y := nI (x % y)) (pk_rem (by omega) hy0 (by omega)) ?_
    refine R_istore dX4_commonDivisor_30 (by decide) ?_
    refine R_iload_n dX4_commonDivisor_32 rfl ?_
    refine R_istore_n dX4_commonDivisor_33 (by decide) ?_
    refine R_iload dX4_commonDivisor_34 rfl ?_
    refine R_istore_n dX4_commonDivisor_36 (by decide) ?_
    refine R_iinc (y := nI (i + 1)) dX4_commonDivisor_37 rfl (by decide) (nI_s i) ?_
    refine R_goto (tgt := 15) dX4_commonDivisor_40 (by decide) ?_
    rw [show Nat.gcd x y = Nat.gcd y (x % y) from by rw [Nat.gcd_comm x y, Nat.gcd_rec y x, Nat.gcd_comm]]
    exact RR.pick [4, 5, 2, 1, 0] rfl (ih (x % y) hlt (i + 1) y (by omega) (by omega))
set_option maxRecDepth 4000 in
theorem w_gcd (G : GG) (hh : HH) (x y : Nat) (hx : 1 ≤ x) (hx2 : x < 1000) (hy : y < 1000) : EVp G mX4_commonDivisor [.int (nI x), .int (nI y)] hh (nI (Nat.gcd x y)) := by
  refine EV.of [(0, .int (nI x)), (1, .int (nI y))] (by decide +kernel) (Nat.le_of_ble_eq_true rfl) rfl ?_
  refine R_iload_n dX4_commonDivisor_0 rfl ?_
  refine R_iconst (v := 1) dX4_commonDivisor_1 (by decide) ?_
  refine R_mmax dX4_commonDivisor_2 mm_X4_259 mS_max mI_Math mC_max (by decide) (Nat.le_of_ble_eq_true rfl) ?_
  refine RR.top (y := nI x) (if_neg (nI_nlt (b := 1) hx (by omega))) ?_
  refine R_istore_n dX4_commonDivisor_5 (by decide) ?_
  refine R_iload_n dX4_commonDivisor_6 rfl ?_
  refine R_iconst (v := 0) dX4_commonDivisor_7 (by decide) ?_
  refine R_mmax dX4_commonDivisor_8 mm_X4_259 mS_max mI_Math mC_max (by decide) (Nat.le_of_ble_eq_true rfl) ?_
  refine RR.top (y := nI y) (if_neg (nI_pos (by omega))) ?_
  refine R_istore_n dX4_commonDivisor_11 (by decide) ?_
  refine R_iconst (v := 0) dX4_commonDivisor_12 (by decide) ?_
  refine R_istore dX4_commonDivisor_13 (by decide) ?_
  exact RR.pick [3, 4, 2, 1, 0] rfl (l_gcd G hh _ _ y 0 x (by omega) (by omega))
