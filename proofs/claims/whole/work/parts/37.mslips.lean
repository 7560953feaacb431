theorem cpR_u (r : Nat → Int32) (x y n : Nat) : upd (cpR r x y n) (y + n) (r (x + n)) = cpR r x y (n + 1) := by
  funext j
  unfold upd cpR
  by_cases e : j = y + n
  · subst e
    rw [if_pos rfl, if_pos (by omega), show y + n - y = n by omega]
  · rw [if_neg e]
    by_cases q : y ≤ j ∧ j < y + n
    · rw [if_pos q, if_pos (by omega)]
    · rw [if_neg q, if_neg (by omega)]
/-- the size of a slip, as the reference keeps it -/
def szI (b : Bool) (L : Nat) : Int32 := if b = true then nI L else -1
theorem sz_t {x : Int32} {b : Bool} {L : Nat} (h : x = szI b L) (c : 0 ≤ x) : b = true := by
  cases b
  · rw [h] at c; exact absurd c (show ¬ (0 : Int32) ≤ -1 by decide)
  · rfl
theorem sz_e {x : Int32} {b : Bool} {L : Nat} (h : x = szI b L) (c : b = true) : x = nI L := by rw [h]; exact if_pos c
theorem sz_f {x : Int32} {b : Bool} {L : Nat} (h : x = szI b L) (hL : L ≤ 40) (c : ¬ 0 ≤ x) : ¬ b = true := fun q => by
  rw [sz_e h q] at c
  exact c ((nI_leI (a := 0) (by decide) (by omega)).mpr (Nat.zero_le _))
theorem nI_m1 {k : Nat} (h : 1 ≤ k) : nI k + Int32.ofInt (-1) = nI (k - 1) := by
  obtain ⟨j, rfl⟩ : ∃ j, k = j + 1 := ⟨k - 1, by omega⟩
  exact pk_m1 j
theorem d_in0n (G : GG) (hh : HH) (x : Int32) {L : Nat} (hL : L < 2 ^ 31) : EVp G mX5_in [.long x.toInt64, .long 0, .long (nI L).toInt64] hh (bl (decide (¬ x < 0 ∧ x ≤ nI L))) := by
  have e := e_inI G hh x (lo := 0) (hi := (nI L).toInt64) (l := 0) (r := (L : Int)) rfl (by rw [Int32.toInt_toInt64, nI_toInt hL])
  rw [inB_n (hi := nI L) (h := (L : Int)) (nI_toInt hL)] at e
  exact e
theorem d_in0p (G : GG) (hh : HH) (x : Int32) {L : Nat} (hL : L ≤ 1000) : EVp G mX5_in [.long x.toInt64, .long 0, .long (nI L - 1).toInt64] hh (bl (decide (¬ x < 0 ∧ x < nI L))) := by
  have e := e_inI G hh x (lo := 0) (hi := (nI L - 1).toInt64) (l := 0) (r := (L : Int) - 1) rfl (pred_toInt hL)
  rw [inB_d (hi := nI L) (by rw [nI_toInt (by omega)]; omega)] at e
  rw [show (decide (¬ x < 0 ∧ x < nI L)) = decide (0 ≤ x ∧ x < nI L) from by rw [decide_eq_decide, Int32.not_lt]]
  exact e

set_option maxRecDepth 4000 in
theorem m_put (G : GG) (hh : HH) {k : Nat} {a : AA} {v : VV} {f : Nat → Int32} {l : List Int32} (h : MdAt G hh k (va_up a 18 f) (va_up v 19 (nI l.length))) (hp : pref f l) (hl : l.length < 140) (x : Int32) : EVv G mX5_put [.ref (ad G k), .int x] hh (fun h1 => ∃ f, MdAt G h1 k (va_up a 18 f) (va_up v 19 (nI (l ++ [x]).length)) ∧ pref f (l ++ [x]) ∧ Fr k (k + 11) hh h1) := by
  refine EV.of [(0, .ref (ad G k)), (1, .int x)] (by decide +kernel) (Nat.le_of_ble_eq_true rfl) rfl ?_
  have hF : Fr k (k + 11) hh hh := Fr.rf
  refine R_aload_n dX5_put_0 rfl ?_
  refine R_get dX5_put_1 gf_X5_38 h.1 rfl ?_
  refine R_aload_n dX5_put_4 rfl ?_
  refine R_get dX5_put_5 gf_X5_188 h.1 rfl ?_
  refine RR.top (y := nI l.length) rfl ?_
  refine R_iload_n dX5_put_8 rfl ?_
  refine Md_ast18N dX5_put_9 h (by first | omega | decide) (fun hh h hF1 => ?_)
  have hF := hF.tr hF1 (by omega) (by omega)
  refine R_aload_n dX5_put_10 rfl ?_
  refine R_dup dX5_put_11 rfl ?_
  refine R_get dX5_put_12 gf_X5_188 h.1 rfl ?_
  refine R_iconst (v := 1) dX5_put_15 (by decide) ?_
  refine R_iadd dX5_put_16 ?_
  refine RR.top (y := nI (l ++ [x]).length) (by rw [List.length_append]; exact nI_1 l.length) ?_
  refine Md_put19 dX5_put_17 pf_X5_188 h (fun hh h hF1 => ?_)
  have hF := hF.tr hF1 (by omega) (by omega)
  exact R_vret dX5_put_20 rfl (⟨rfl, _, h.cg (by rw [bx_uu]; rfl) (by rw [bx_uu]), pref_app hp x, hF⟩)
set_option maxRecDepth 4000 in
theorem l_layWriting (G : GG) (hh0 : HH) {k : Nat} {a : AA} {v : VV} {m : Nat} (hm : m ≤ 20) (hc : a 0 3 = nI m) : ∀ (d i : Nat) (f : Nat → Int32) (hh : HH), i + d = m → MdAt G hh k (va_up a 18 f) (va_up v 19 (nI (wrl (mA a 0) i).length)) → pref f (wrl (mA a 0) i) → Fr k (k + 11) hh0 hh → RR G mX5_layWriting 7 [(0, .ref (ad G k)), (1, .int (nI i))] [] hh (fun r h1 => r = none ∧ ((∃ f, MdAt G h1 k (va_up a 18 f) (va_up v 19 (nI (wrl (mA a 0) m).length)) ∧ pref f (wrl (mA a 0) m)) ∧ Fr k (k + 11) hh0 h1)) := by
  intro d
  induction d with
  | zero =>
    intro i f hh hi h hp hF
    refine R_iload_n dX5_layWriting_7 rfl ?_
    refine R_aload_n dX5_layWriting_8 rfl ?_
    refine R_get dX5_layWriting_9 gf_X5_7 h.1 rfl ?_
    refine R_iconst (v := 3) dX5_layWriting_12 (by decide) ?_
    refine R_ialdN dX5_layWriting_13 h.a0 (by first | omega | decide) (by decide) ?_
    refine RR.top (y := nI (m)) (hc) ?_
    refine R_icmp_ge (tgt := 111) dX5_layWriting_14 (by decide) (fun c14 => ?_) (fun c14 => absurd (nI_le (by omega) (by omega)) c14)
    exact R_vret dX5_layWriting_111 rfl (by (have e : i = m := by omega); (subst e); exact ⟨rfl, ⟨f, h, hp⟩, hF⟩)
  | succ d ih =>
    intro i f hh hi h hp hF
    refine R_iload_n dX5_layWriting_7 rfl ?_
    refine R_aload_n dX5_layWriting_8 rfl ?_
    refine R_get dX5_layWriting_9 gf_X5_7 h.1 rfl ?_
    refine R_iconst (v := 3) dX5_layWriting_12 (by decide) ?_
    refine R_ialdN dX5_layWriting_13 h.a0 (by first | omega | decide) (by decide) ?_
    refine RR.top (y := nI (m)) (hc) ?_
    refine R_icmp_ge (tgt := 111) dX5_layWriting_14 (by decide) (fun c14 => absurd c14 (nI_ge (by omega) (by omega))) (fun c14 => ?_)
    refine R_iload_n dX5_layWriting_17 rfl ?_
    refine R_bipush (v := 9) dX5_layWriting_18 (by decide) ?_
    refine R_icmp_le (tgt := 34) dX5_layWriting_20 (by decide) (fun c20 => ?_) (fun c20 => ?_)
    · refine R_aload_n dX5_layWriting_34 rfl ?_
      refine R_bipush (v := 48) dX5_layWriting_35 (by decide) ?_
      refine R_iload_n dX5_layWriting_37 rfl ?_
      refine R_bipush (v := 10) dX5_layWriting_38 (by decide) ?_
      refine R_irem dX5_layWriting_40 (by decide) ?_
      refine R_iadd dX5_layWriting_41 ?_
      refine R_callVv dX5_layWriting_42 cv_X5_191 ⟨by decide, by decide⟩ (m_put G hh h hp (by simp only [List.length_append, List.length_cons, List.length_nil, wrl_len]; omega) (48 + (nI i - nI i / 10 * 10))) h.1 rfl rfl rfl (Nat.le_of_ble_eq_true rfl) (fun hh hw => ?_)
      obtain ⟨f, h, hp, hF1⟩ := hw
      have hF := hF.tr hF1 (by omega) (by omega)
      refine R_aload_n dX5_layWriting_45 rfl ?_
      refine R_bipush (v := 97) dX5_layWriting_46 (by decide) ?_
      refine R_aload_n dX5_layWriting_48 rfl ?_
      refine R_get dX5_layWriting_49 gf_X5_7 h.1 rfl ?_
      refine R_bipush (v := 17) dX5_layWriting_52 (by decide) ?_
      refine R_iload_n dX5_layWriting_54 rfl ?_
      refine R_iadd dX5_layWriting_55 ?_
      refine RR.top (y := nI (17 + i)) (nI_add (17) (i)) ?_
      refine R_ialdN dX5_layWriting_56 h.a0 (by first | omega | decide) (by decide) ?_
      refine RR.top (y := mA a 0 4 i) (by show a 0 (17 + i) = a 0 (0 + 17 + i); rw [show 0 + 17 + i = 17 + i by omega]) ?_
      refine R_iadd dX5_layWriting_57 ?_
      refine R_callVv dX5_layWriting_58 cv_X5_191 ⟨by decide, by decide⟩ (m_put G hh h hp (by simp only [List.length_append, List.length_cons, List.length_nil, wrl_len]; omega) (97 + mA a 0 4 i)) h.1 rfl rfl rfl (Nat.le_of_ble_eq_true rfl) (fun hh hw => ?_)
      obtain ⟨f, h, hp, hF1⟩ := hw
      have hF := hF.tr hF1 (by omega) (by omega)
      refine R_aload_n dX5_layWriting_61 rfl ?_
      refine R_bipush (v := 48) dX5_layWriting_62 (by decide) ?_
      refine R_aload_n dX5_layWriting_64 rfl ?_
      refine R_get dX5_layWriting_65 gf_X5_7 h.1 rfl ?_
      refine R_bipush (v := 37) dX5_layWriting_68 (by decide) ?_
      refine R_iload_n dX5_layWriting_70 rfl ?_
      refine R_iadd dX5_layWriting_71 ?_
      refine RR.top (y := nI (37 + i)) (nI_add (37) (i)) ?_
      refine R_ialdN dX5_layWriting_72 h.a0 (by first | omega | decide) (by decide) ?_
      refine RR.top (y := mA a 0 5 i) (by show a 0 (37 + i) = a 0 (0 + 37 + i); rw [show 0 + 37 + i = 37 + i by omega]) ?_
      refine R_iadd dX5_layWriting_73 ?_
      refine R_callVv dX5_layWriting_74 cv_X5_191 ⟨by decide, by decide⟩ (m_put G hh h hp (by simp only [List.length_append, List.length_cons, List.length_nil, wrl_len]; omega) (48 + mA a 0 5 i)) h.1 rfl rfl rfl (Nat.le_of_ble_eq_true rfl) (fun hh hw => ?_)
      obtain ⟨f, h, hp, hF1⟩ := hw
      have hF := hF.tr hF1 (by omega) (by omega)
      refine R_aload_n dX5_layWriting_77 rfl ?_
      refine R_bipush (v := 106) dX5_layWriting_78 (by decide) ?_
      refine R_callVv dX5_layWriting_80 cv_X5_191 ⟨by decide, by decide⟩ (m_put G hh h hp (by simp only [List.length_append, List.length_cons, List.length_nil, wrl_len]; omega) (106)) h.1 rfl rfl rfl (Nat.le_of_ble_eq_true rfl) (fun hh hw => ?_)
      obtain ⟨f, h, hp, hF1⟩ := hw
      have hF := hF.tr hF1 (by omega) (by omega)
      refine R_aload_n dX5_layWriting_83 rfl ?_
      refine R_bipush (v := 48) dX5_layWriting_84 (by decide) ?_
      refine R_aload_n dX5_layWriting_86 rfl ?_
      refine R_get dX5_layWriting_87 gf_X5_7 h.1 rfl ?_
      refine R_bipush (v := 57) dX5_layWriting_90 (by decide) ?_
      refine R_iload_n dX5_layWriting_92 rfl ?_
      refine R_iadd dX5_layWriting_93 ?_
      refine RR.top (y := nI (57 + i)) (nI_add (57) (i)) ?_
      refine R_ialdN dX5_layWriting_94 h.a0 (by first | omega | decide) (by decide) ?_
      refine RR.top (y := mA a 0 6 i) (by show a 0 (57 + i) = a 0 (0 + 57 + i); rw [show 0 + 57 + i = 57 + i by omega]) ?_
      refine R_iadd dX5_layWriting_95 ?_
      refine R_callVv dX5_layWriting_96 cv_X5_191 ⟨by decide, by decide⟩ (m_put G hh h hp (by simp only [List.length_append, List.length_cons, List.length_nil, wrl_len]; omega) (48 + mA a 0 6 i)) h.1 rfl rfl rfl (Nat.le_of_ble_eq_true rfl) (fun hh hw => ?_)
      obtain ⟨f, h, hp, hF1⟩ := hw
      have hF := hF.tr hF1 (by omega) (by omega)
      refine R_aload_n dX5_layWriting_99 rfl ?_
      refine R_bipush (v := 46) dX5_layWriting_100 (by decide) ?_
      refine R_callVv dX5_layWriting_102 cv_X5_191 ⟨by decide, by decide⟩ (m_put G hh h hp (by simp only [List.length_append, List.length_cons, List.length_nil, wrl_len]; omega) (46)) h.1 rfl rfl rfl (Nat.le_of_ble_eq_true rfl) (fun hh hw => ?_)
      obtain ⟨f, h, hp, hF1⟩ := hw
      have hF := hF.tr hF1 (by omega) (by omega)
      refine R_iinc (y := nI (i + 1)) dX5_layWriting_105 rfl (by decide) (nI_s (i)) ?_
      refine R_goto (tgt := 7) dX5_layWriting_108 (by decide) ?_
      have el : wrl (mA a 0) (i + 1) = _ := (wrl_s (mA a 0) i).trans (by unfold wrC; rw [if_neg (show ¬ 10 ≤ i by have := (nI_leI (b := 9) (by omega) (by decide)).mp c20; omega)])
      simp only [List.append_assoc, List.cons_append, List.nil_append] at h hp el
      rw [← el] at h hp
      exact RR.pick [1, 0] rfl (ih (i + 1) f hh (by omega) h hp hF)
    · refine R_aload_n dX5_layWriting_23 rfl ?_
      refine R_bipush (v := 48) dX5_layWriting_24 (by decide) ?_
      refine R_iload_n dX5_layWriting_26 rfl ?_
      refine R_bipush (v := 10) dX5_layWriting_27 (by decide) ?_
      refine R_idiv dX5_layWriting_29 (by decide) ?_
      refine R_iadd dX5_layWriting_30 ?_
      refine R_callVv dX5_layWriting_31 cv_X5_191 ⟨by decide, by decide⟩ (m_put G hh h hp (by simp only [List.length_append, List.length_cons, List.length_nil, wrl_len]; omega) (48 + nI i / 10)) h.1 rfl rfl rfl (Nat.le_of_ble_eq_true rfl) (fun hh hw => ?_)
      obtain ⟨f, h, hp, hF1⟩ := hw
      have hF := hF.tr hF1 (by omega) (by omega)
      refine R_aload_n dX5_layWriting_34 rfl ?_
      refine R_bipush (v := 48) dX5_layWriting_35 (by decide) ?_
      refine R_iload_n dX5_layWriting_37 rfl ?_
      refine R_bipush (v := 10) dX5_layWriting_38 (by decide) ?_
      refine R_irem dX5_layWriting_40 (by decide) ?_
      refine R_iadd dX5_layWriting_41 ?_
      refine R_callVv dX5_layWriting_42 cv_X5_191 ⟨by decide, by decide⟩ (m_put G hh h hp (by simp only [List.length_append, List.length_cons, List.length_nil, wrl_len]; omega) (48 + (nI i - nI i / 10 * 10))) h.1 rfl rfl rfl (Nat.le_of_ble_eq_true rfl) (fun hh hw => ?_)
      obtain ⟨f, h, hp, hF1⟩ := hw
      have hF := hF.tr hF1 (by omega) (by omega)
      refine R_aload_n dX5_layWriting_45 rfl ?_
      refine R_bipush (v := 97) dX5_layWriting_46 (by decide) ?_
      refine R_aload_n dX5_layWriting_48 rfl ?_
      refine R_get dX5_layWriting_49 gf_X5_7 h.1 rfl ?_
      refine R_bipush (v := 17) dX5_layWriting_52 (by decide) ?_
      refine R_iload_n dX5_layWriting_54 rfl ?_
      refine R_iadd dX5_layWriting_55 ?_
      refine RR.top (y := nI (17 + i)) (nI_add (17) (i)) ?_
      refine R_ialdN dX5_layWriting_56 h.a0 (by first | omega | decide) (by decide) ?_
      refine RR.top (y := mA a 0 4 i) (by show a 0 (17 + i) = a 0 (0 + 17 + i); rw [show 0 + 17 + i = 17 + i by omega]) ?_
      refine R_iadd dX5_layWriting_57 ?_
      refine R_callVv dX5_layWriting_58 cv_X5_191 ⟨by decide, by decide⟩ (m_put G hh h hp (by simp only [List.length_append, List.length_cons, List.length_nil, wrl_len]; omega) (97 + mA a 0 4 i)) h.1 rfl rfl rfl (Nat.le_of_ble_eq_true rfl) (fun hh hw => ?_)
      obtain ⟨f, h, hp, hF1⟩ := hw
      have hF := hF.tr hF1 (by omega) (by omega)
      refine R_aload_n dX5_layWriting_61 rfl ?_
      refine R_bipush (v := 48) dX5_layWriting_62 (by decide) ?_
      refine R_aload_n dX5_layWriting_64 rfl ?_
      refine R_get dX5_layWriting_65 gf_X5_7 h.1 rfl ?_
      refine R_bipush (v := 37) dX5_layWriting_68 (by decide) ?_
      refine R_iload_n dX5_layWriting_70 rfl ?_
      refine R_iadd dX5_layWriting_71 ?_
      refine RR.top (y := nI (37 + i)) (nI_add (37) (i)) ?_
      refine R_ialdN dX5_layWriting_72 h.a0 (by first | omega | decide) (by decide) ?_
      refine RR.top (y := mA a 0 5 i) (by show a 0 (37 + i) = a 0 (0 + 37 + i); rw [show 0 + 37 + i = 37 + i by omega]) ?_
      refine R_iadd dX5_layWriting_73 ?_
      refine R_callVv dX5_layWriting_74 cv_X5_191 ⟨by decide, by decide⟩ (m_put G hh h hp (by simp only [List.length_append, List.length_cons, List.length_nil, wrl_len]; omega) (48 + mA a 0 5 i)) h.1 rfl rfl rfl (Nat.le_of_ble_eq_true rfl) (fun hh hw => ?_)
      obtain ⟨f, h, hp, hF1⟩ := hw
      have hF := hF.tr hF1 (by omega) (by omega)
      refine R_aload_n dX5_layWriting_77 rfl ?_
      refine R_bipush (v := 106) dX5_layWriting_78 (by decide) ?_
      refine R_callVv dX5_layWriting_80 cv_X5_191 ⟨by decide, by decide⟩ (m_put G hh h hp (by simp only [List.length_append, List.length_cons, List.length_nil, wrl_len]; omega) (106)) h.1 rfl rfl rfl (Nat.le_of_ble_eq_true rfl) (fun hh hw => ?_)
      obtain ⟨f, h, hp, hF1⟩ := hw
      have hF := hF.tr hF1 (by omega) (by omega)
      refine R_aload_n dX5_layWriting_83 rfl ?_
      refine R_bipush (v := 48) dX5_layWriting_84 (by decide) ?_
      refine R_aload_n dX5_layWriting_86 rfl ?_
      refine R_get dX5_layWriting_87 gf_X5_7 h.1 rfl ?_
      refine R_bipush (v := 57) dX5_layWriting_90 (by decide) ?_
      refine R_iload_n dX5_layWriting_92 rfl ?_
      refine R_iadd dX5_layWriting_93 ?_
      refine RR.top (y := nI (57 + i)) (nI_add (57) (i)) ?_
      refine R_ialdN dX5_layWriting_94 h.a0 (by first | omega | decide) (by decide) ?_
      refine RR.top (y := mA a 0 6 i) (by show a 0 (57 + i) = a 0 (0 + 57 + i); rw [show 0 + 57 + i = 57 + i by omega]) ?_
      refine R_iadd dX5_layWriting_95 ?_
      refine R_callVv dX5_layWriting_96 cv_X5_191 ⟨by decide, by decide⟩ (m_put G hh h hp (by simp only [List.length_append, List.length_cons, List.length_nil, wrl_len]; omega) (48 + mA a 0 6 i)) h.1 rfl rfl rfl (Nat.le_of_ble_eq_true rfl) (fun hh hw => ?_)
      obtain ⟨f, h, hp, hF1⟩ := hw
      have hF := hF.tr hF1 (by omega) (by omega)
      refine R_aload_n dX5_layWriting_99 rfl ?_
      refine R_bipush (v := 46) dX5_layWriting_100 (by decide) ?_
      refine R_callVv dX5_layWriting_102 cv_X5_191 ⟨by decide, by decide⟩ (m_put G hh h hp (by simp only [List.length_append, List.length_cons, List.length_nil, wrl_len]; omega) (46)) h.1 rfl rfl rfl (Nat.le_of_ble_eq_true rfl) (fun hh hw => ?_)
      obtain ⟨f, h, hp, hF1⟩ := hw
      have hF := hF.tr hF1 (by omega) (by omega)
      refine R_iinc (y := nI (i + 1)) dX5_layWriting_105 rfl (by decide) (nI_s (i)) ?_
      refine R_goto (tgt := 7) dX5_layWriting_108 (by decide) ?_
      have el : wrl (mA a 0) (i + 1) = _ := (wrl_s (mA a 0) i).trans (by unfold wrC; rw [if_pos (show 10 ≤ i by (rcases Nat.lt_or_ge i 10 with q | q; exact absurd ((nI_leI (b := 9) (by omega) (by decide)).mpr (by omega)) c20; exact q))])
      simp only [List.append_assoc, List.cons_append, List.nil_append] at h hp el
      rw [← el] at h hp
      exact RR.pick [1, 0] rfl (ih (i + 1) f hh (by omega) h hp hF)
theorem va_up_idX (a : AA) (i : Nat) : a = va_up a i (a i) := by funext j; simp only [va_up]; split <;> simp_all
set_option maxRecDepth 4000 in
theorem m_layWriting (G : GG) (hh : HH) {k : Nat} {a : AA} {v : VV} (h : MdAt G hh k a v) {m : Nat} (hm : m ≤ 20) (hc : a 0 3 = nI m) : EVv G mX5_layWriting [.ref (ad G k)] hh (fun h1 => (∃ f, MdAt G h1 k (va_up a 18 f) (va_up v 19 (nI (wrl (mA a 0) m).length)) ∧ pref f (wrl (mA a 0) m)) ∧ Fr k (k + 11) hh h1) := by
  refine EV.of [(0, .ref (ad G k))] (by decide +kernel) (Nat.le_of_ble_eq_true rfl) rfl ?_
  have hF : Fr k (k + 11) hh hh := Fr.rf
  refine R_aload_n dX5_layWriting_0 rfl ?_
  refine R_iconst (v := 0) dX5_layWriting_1 (by decide) ?_
  refine Md_put19 dX5_layWriting_2 pf_X5_188 h (fun hh h hF1 => ?_)
  have hF := hF.tr hF1 (by omega) (by omega)
  refine R_iconst (v := 0) dX5_layWriting_5 (by decide) ?_
  refine R_istore_n dX5_layWriting_6 (by decide) ?_
  exact RR.pick [1, 0] rfl (l_layWriting G _ hm hc m 0 (a 18) hh (by omega) (h.cg (va_up_idX a 18) rfl) (fun j hj => absurd hj (by simp [wrl])) hF)
set_option maxRecDepth 4000 in
theorem m_writing (G : GG) (hh : HH) {k : Nat} {a : AA} {v : VV} (h : MdAt G hh k a v) {m : Nat} (hm : m ≤ 20) (hc : a 0 3 = nI m) (t : Int32) : EVi G mX5_writing [.ref (ad G k), .int t] hh (fun w h1 => w = anWriting (mA a 0) m t ∧ (h1 = hh ∨ ((∃ f, MdAt G h1 k (va_up a 18 f) (va_up v 19 (nI (wrl (mA a 0) m).length)) ∧ pref f (wrl (mA a 0) m)) ∧ Fr k (k + 11) hh h1))) := by
  refine EV.of [(0, .ref (ad G k)), (1, .int t)] (by decide +kernel) (Nat.le_of_ble_eq_true rfl) rfl ?_
  refine R_iload_n dX5_writing_0 rfl ?_
  refine R_if_ge (tgt := 7) dX5_writing_1 (by decide) (fun c1 => ?_) (fun c1 => ?_)
  · refine R_aload_n dX5_writing_7 rfl ?_
    refine R_callVv dX5_writing_8 cv_X5_194 ⟨by decide, by decide⟩ (m_layWriting G hh h hm hc) h.1 rfl rfl rfl (Nat.le_of_ble_eq_true rfl) (fun hh hw => ?_)
    obtain ⟨⟨f, h, hp⟩, hF⟩ := hw
    refine R_iload_n dX5_writing_11 rfl ?_
    refine R_aload_n dX5_writing_12 rfl ?_
    refine R_get dX5_writing_13 gf_X5_188 h.1 rfl ?_
    refine R_icmp_ge (tgt := 28) dX5_writing_16 (by decide) (fun c16 => ?_) (fun c16 => ?_)
    · refine R_iconst (v := (-1)) dX5_writing_28 (by decide) ?_
      exact R_iret dX5_writing_29 rfl (⟨_, rfl, by rw [anWriting, if_neg (Int32.not_lt.mpr c1), if_pos (show nI (wrl (mA a 0) m).length ≤ t from c16)], Or.inr ⟨⟨f, h, hp⟩, hF⟩⟩)
    · have hlw := wrl_len (mA a 0) m
      obtain ⟨i, hi, rfl⟩ := ix_in (n := (wrl (mA a 0) m).length) (by omega) (Int32.not_lt.mpr c1) (Int32.not_le.mp c16)
      refine R_aload_n dX5_writing_19 rfl ?_
      refine R_get dX5_writing_20 gf_X5_38 h.1 rfl ?_
      refine R_iload_n dX5_writing_23 rfl ?_
      refine R_ialdN dX5_writing_24 h.a18 (by first | omega | decide) (by decide) ?_
      refine R_goto (tgt := 29) dX5_writing_25 (by decide) ?_
      exact R_iret dX5_writing_29 rfl (⟨_, rfl, by rw [anWriting, if_neg (Int32.not_lt.mpr c1), if_neg (show ¬ nI (wrl (mA a 0) m).length ≤ nI i from c16), nI_clamp (by omega)]; exact hp i hi, Or.inr ⟨⟨f, h, hp⟩, hF⟩⟩)
  · refine R_bipush (v := (-3)) dX5_writing_4 (by decide) ?_
    exact R_iret dX5_writing_6 rfl (⟨_, rfl, by rw [anWriting, if_pos (Int32.not_le.mp c1)], Or.inl rfl⟩)
theorem sz_sl {x : Int32} {b : Nat → Bool} {lL : Nat → Nat} {i : Nat} (h : x = szI (b i) (lL i)) (c : 0 ≤ x) : slL b lL i = x := by
  have e := sz_t h c
  rw [sz_e h e]; exact if_pos e
theorem sz_sl0 {x : Int32} {b : Nat → Bool} {lL : Nat → Nat} {i : Nat} (h : x = szI (b i) (lL i)) (hL : lL i ≤ 40) (c : ¬ 0 ≤ x) : slL b lL i = 0 := if_neg (sz_f h hL c)
set_option maxRecDepth 4000 in
theorem l_allLetters (G : GG) (hh : HH) {k : Nat} {a : AA} {v : VV} (h : MdAt G hh k a v) {b : Nat → Bool} {lL : Nat → Nat} (hS : ∀ t, t < 3 → a 9 t = szI (b t) (lL t)) (hlL : ∀ t, t < 3 → lL t ≤ 40) : ∀ (d i : Nat), i + d = 3 → RR G mX5_allLetters 4 [(0, .ref (ad G k)), (1, .int (foldS (slL b lL) 0 i 0)), (2, .int (nI i))] [] hh (fun r h => ∃ w, r = some (.int w) ∧ (w = foldS (slL b lL) 0 3 0 ∧ h = hh)) := by
  intro d
  induction d with
  | zero =>
    intro i hi
    refine R_iload_n dX5_allLetters_4 rfl ?_
    refine R_iconst (v := 3) dX5_allLetters_5 (by decide) ?_
    refine R_icmp_ge (tgt := 37) dX5_allLetters_6 (by decide) (fun c6 => ?_) (fun c6 => absurd (nI_le (a := 3) (by omega) (by omega)) c6)
    refine R_iload_n dX5_allLetters_37 rfl ?_
    exact R_iret dX5_allLetters_38 rfl (⟨_, rfl, by rw [show (3 : Nat) = i by omega], rfl⟩)
  | succ d ih =>
    intro i hi
    refine R_iload_n dX5_allLetters_4 rfl ?_
    refine R_iconst (v := 3) dX5_allLetters_5 (by decide) ?_
    refine R_icmp_ge (tgt := 37) dX5_allLetters_6 (by decide) (fun c6 => absurd c6 (nI_ge (b := 3) (by omega) (by omega))) (fun c6 => ?_)
    refine R_iload_n dX5_allLetters_9 rfl ?_
    refine R_aload_n dX5_allLetters_10 rfl ?_
    refine R_get dX5_allLetters_11 gf_X5_26 h.1 rfl ?_
    refine R_iload_n dX5_allLetters_14 rfl ?_
    refine R_ialdN dX5_allLetters_15 h.a9 (by first | omega | decide) (by decide) ?_
    refine R_if_ge (tgt := 23) dX5_allLetters_16 (by decide) (fun c16 => ?_) (fun c16 => ?_)
    · refine R_aload_n dX5_allLetters_23 rfl ?_
      refine R_get dX5_allLetters_24 gf_X5_26 h.1 rfl ?_
      refine R_iload_n dX5_allLetters_27 rfl ?_
      refine R_ialdN dX5_allLetters_28 h.a9 (by first | omega | decide) (by decide) ?_
      refine R_iadd dX5_allLetters_29 ?_
      refine RR.top (y := foldS (slL b lL) 0 (i + 1) 0) (by rw [foldS_last, Nat.zero_add, sz_sl (hS i (by omega)) c16]) ?_
      refine R_istore_n dX5_allLetters_30 (by decide) ?_
      refine R_iinc (y := nI (i + 1)) dX5_allLetters_31 rfl (by decide) (nI_s (i)) ?_
      refine R_goto (tgt := 4) dX5_allLetters_34 (by decide) ?_
      exact RR.pick [2, 1, 0] rfl (ih (i + 1) (by omega))
    · refine R_iconst (v := 0) dX5_allLetters_19 (by decide) ?_
      refine R_goto (tgt := 29) dX5_allLetters_20 (by decide) ?_
      refine R_iadd dX5_allLetters_29 ?_
      refine RR.top (y := foldS (slL b lL) 0 (i + 1) 0) (by rw [foldS_last, Nat.zero_add, sz_sl0 (hS i (by omega)) (hlL i (by omega)) c16]) ?_
      refine R_istore_n dX5_allLetters_30 (by decide) ?_
      refine R_iinc (y := nI (i + 1)) dX5_allLetters_31 rfl (by decide) (nI_s (i)) ?_
      refine R_goto (tgt := 4) dX5_allLetters_34 (by decide) ?_
      exact RR.pick [2, 1, 0] rfl (ih (i + 1) (by omega))
set_option maxRecDepth 4000 in
theorem m_allLetters (G : GG) (hh : HH) {k : Nat} {a : AA} {v : VV} (h : MdAt G hh k a v) {b : Nat → Bool} {lL : Nat → Nat} (hS : ∀ t, t < 3 → a 9 t = szI (b t) (lL t)) (hlL : ∀ t, t < 3 → lL t ≤ 40) : EVp G mX5_allLetters [.ref (ad G k)] hh (foldS (slL b lL) 0 3 0) := by
  refine EV.of [(0, .ref (ad G k))] (by decide +kernel) (Nat.le_of_ble_eq_true rfl) rfl ?_
  refine R_iconst (v := 0) dX5_allLetters_0 (by decide) ?_
  refine R_istore_n dX5_allLetters_1 (by decide) ?_
  refine R_iconst (v := 0) dX5_allLetters_2 (by decide) ?_
  refine R_istore_n dX5_allLetters_3 (by decide) ?_
  exact RR.pick [2, 1, 0] rfl (l_allLetters G hh h hS hlL 3 0 (by omega))
set_option maxRecDepth 4000 in
theorem m_told (G : GG) (hh : HH) {k : Nat} {a : AA} {v : VV} (h : MdAt G hh k a v) {b : Nat → Bool} {lL : Nat → Nat} (hS : ∀ t, t < 3 → a 9 t = szI (b t) (lL t)) (hlL : ∀ t, t < 3 → lL t ≤ 40) {z : Nat} (hz8 : z ≤ 8) (hz : v 5 = nI z) {m : Nat} (hm : m ≤ 20) (hc : a 0 3 = nI m) {tL : Nat} (htL : tL ≤ 200) (hl : v 8 = nI tL) (w : Int32) : EVi G mX5_told [.ref (ad G k), .int w] hh (fun y h1 => y = anTold (mV a v 0) (wrl (mA a 0) m).length z tL (foldS (slL b lL) 0 3 0) w ∧ (h1 = hh ∨ ((∃ f, MdAt G h1 k (va_up a 18 f) (va_up v 19 (nI (wrl (mA a 0) m).length)) ∧ pref f (wrl (mA a 0) m)) ∧ Fr k (k + 11) hh h1))) := by
  refine EV.of [(0, .ref (ad G k)), (1, .int w)] (by decide +kernel) (Nat.le_of_ble_eq_true rfl) rfl ?_
  refine R_iload_n dX5_told_0 rfl ?_
  by_cases q1 : w.toInt < 0 ∨ 9 < w.toInt
  · refine R_tabOut (tgt := 118) dX5_told_1 q1 (by decide) ?_
    refine R_bipush (v := (-3)) dX5_told_118 (by decide) ?_
    exact R_iret dX5_told_120 rfl (⟨_, rfl, by rw [anTold, if_neg (by rintro rfl; revert q1; decide), if_neg (by rintro rfl; revert q1; decide), if_neg (by rintro rfl; revert q1; decide), if_neg (by rintro rfl; revert q1; decide), if_neg (by rintro rfl; revert q1; decide), if_neg (by rintro rfl; revert q1; decide), if_neg (by rintro rfl; revert q1; decide), if_neg (by rintro rfl; revert q1; decide), if_neg (by rintro rfl; revert q1; decide), if_neg (by rintro rfl; revert q1; decide)], Or.inl rfl⟩)
  · rcases (show w = 0 ∨ w = 1 ∨ w = 2 ∨ w = 3 ∨ w = 4 ∨ w = 5 ∨ w = 6 ∨ w = 7 ∨ w = 8 ∨ w = 9 from sw_10_0 w q1) with e1 | e1 | e1 | e1 | e1 | e1 | e1 | e1 | e1 | e1
    · refine R_tabIn (tgt := 56) (off := 55) dX5_told_1 (by rw [e1]; decide) (by rw [e1]; decide) (by rw [e1]; rfl) (by decide) ?_
      refine R_aload_n dX5_told_56 rfl ?_
      refine R_get dX5_told_57 gf_X5_48 h.1 rfl ?_
      exact R_iret dX5_told_60 rfl (⟨_, rfl, by (subst e1; rw [anTold, if_pos rfl]; rfl), Or.inl rfl⟩)
    · refine R_tabIn (tgt := 61) (off := 60) dX5_told_1 (by rw [e1]; decide) (by rw [e1]; decide) (by rw [e1]; rfl) (by decide) ?_
      refine R_aload_n dX5_told_61 rfl ?_
      refine R_get dX5_told_62 gf_X5_7 h.1 rfl ?_
      refine R_iconst (v := 3) dX5_told_65 (by decide) ?_
      refine R_ialdN dX5_told_66 h.a0 (by first | omega | decide) (by decide) ?_
      exact R_iret dX5_told_67 rfl (⟨_, rfl, by (subst e1; rw [anTold, if_neg (by decide), if_pos rfl]; rfl), Or.inl rfl⟩)
    · refine R_tabIn (tgt := 68) (off := 67) dX5_told_1 (by rw [e1]; decide) (by rw [e1]; decide) (by rw [e1]; rfl) (by decide) ?_
      refine R_aload_n dX5_told_68 rfl ?_
      refine R_get dX5_told_69 gf_X5_7 h.1 rfl ?_
      refine R_iconst (v := 2) dX5_told_72 (by decide) ?_
      refine R_ialdN dX5_told_73 h.a0 (by first | omega | decide) (by decide) ?_
      exact R_iret dX5_told_74 rfl (⟨_, rfl, by (subst e1; rw [anTold, if_neg (by decide), if_neg (by decide), if_pos rfl]; rfl), Or.inl rfl⟩)
    · refine R_tabIn (tgt := 75) (off := 74) dX5_told_1 (by rw [e1]; decide) (by rw [e1]; decide) (by rw [e1]; rfl) (by decide) ?_
      refine R_aload_n dX5_told_75 rfl ?_
      refine R_get dX5_told_76 gf_X5_52 h.1 rfl ?_
      exact R_iret dX5_told_79 rfl (⟨_, rfl, by (subst e1; rw [anTold, if_neg (by decide), if_neg (by decide), if_neg (by decide), if_pos rfl]; rfl), Or.inl rfl⟩)
    · refine R_tabIn (tgt := 80) (off := 79) dX5_told_1 (by rw [e1]; decide) (by rw [e1]; decide) (by rw [e1]; rfl) (by decide) ?_
      refine R_aload_n dX5_told_80 rfl ?_
      refine R_callVv dX5_told_81 cv_X5_194 ⟨by decide, by decide⟩ (m_layWriting G hh h hm hc) h.1 rfl rfl rfl (Nat.le_of_ble_eq_true rfl) (fun hh hw => ?_)
      obtain ⟨⟨f, h, hp⟩, hF⟩ := hw
      refine R_aload_n dX5_told_84 rfl ?_
      refine R_get dX5_told_85 gf_X5_188 h.1 rfl ?_
      exact R_iret dX5_told_88 rfl (⟨_, rfl, by subst e1; simp [anTold]; rfl, Or.inr ⟨⟨f, h, hp⟩, hF⟩⟩)
    · refine R_tabIn (tgt := 89) (off := 88) dX5_told_1 (by rw [e1]; decide) (by rw [e1]; decide) (by rw [e1]; rfl) (by decide) ?_
      refine R_aload_n dX5_told_89 rfl ?_
      refine R_get dX5_told_90 gf_X5_7 h.1 rfl ?_
      refine R_iconst (v := 4) dX5_told_93 (by decide) ?_
      refine R_ialdN dX5_told_94 h.a0 (by first | omega | decide) (by decide) ?_
      exact R_iret dX5_told_95 rfl (⟨_, rfl, by (subst e1; rw [anTold, if_neg (by decide), if_neg (by decide), if_neg (by decide), if_neg (by decide), if_neg (by decide), if_pos rfl]; rfl), Or.inl rfl⟩)
    · refine R_tabIn (tgt := 96) (off := 95) dX5_told_1 (by rw [e1]; decide) (by rw [e1]; decide) (by rw [e1]; rfl) (by decide) ?_
      refine R_aload_n dX5_told_96 rfl ?_
      refine R_get dX5_told_97 gf_X5_136 h.1 rfl ?_
      exact R_iret dX5_told_100 rfl (⟨_, rfl, by (subst e1; rw [anTold, if_neg (by decide), if_neg (by decide), if_neg (by decide), if_neg (by decide), if_neg (by decide), if_neg (by decide), if_pos rfl]; exact hz), Or.inl rfl⟩)
    · refine R_tabIn (tgt := 101) (off := 100) dX5_told_1 (by rw [e1]; decide) (by rw [e1]; decide) (by rw [e1]; rfl) (by decide) ?_
      refine R_aload_n dX5_told_101 rfl ?_
      refine R_get dX5_told_102 gf_X5_61 h.1 rfl ?_
      exact R_iret dX5_told_105 rfl (⟨_, rfl, by (subst e1; rw [anTold, if_neg (by decide), if_neg (by decide), if_neg (by decide), if_neg (by decide), if_neg (by decide), if_neg (by decide), if_neg (by decide), if_pos rfl]; exact hl), Or.inl rfl⟩)
    · refine R_tabIn (tgt := 106) (off := 105) dX5_told_1 (by rw [e1]; decide) (by rw [e1]; decide) (by rw [e1]; rfl) (by decide) ?_
      refine R_aload_n dX5_told_106 rfl ?_
      refine R_callVp dX5_told_107 cv_X5_220 ⟨by decide, by decide⟩ (m_allLetters G hh h hS hlL) h.1 rfl rfl rfl (Nat.le_of_ble_eq_true rfl) ?_
      exact R_iret dX5_told_110 rfl (⟨_, rfl, by (subst e1; rw [anTold, if_neg (by decide), if_neg (by decide), if_neg (by decide), if_neg (by decide), if_neg (by decide), if_neg (by decide), if_neg (by decide), if_neg (by decide), if_pos rfl]), Or.inl rfl⟩)
    · refine R_tabIn (tgt := 111) (off := 110) dX5_told_1 (by rw [e1]; decide) (by rw [e1]; decide) (by rw [e1]; rfl) (by decide) ?_
      refine R_aload_n dX5_told_111 rfl ?_
      refine R_get dX5_told_112 gf_X5_7 h.1 rfl ?_
      refine R_iconst (v := 0) dX5_told_115 (by decide) ?_
      refine R_ialdN dX5_told_116 h.a0 (by first | omega | decide) (by decide) ?_
      exact R_iret dX5_told_117 rfl (⟨_, rfl, by (subst e1; rw [anTold, if_neg (by decide), if_neg (by decide), if_neg (by decide), if_neg (by decide), if_neg (by decide), if_neg (by decide), if_neg (by decide), if_neg (by decide), if_neg (by decide), if_pos rfl]; rfl), Or.inl rfl⟩)
set_option maxRecDepth 4000 in
theorem m_slip (G : GG) (hh : HH) {k : Nat} {a : AA} {v : VV} (h : MdAt G hh k a v) {b : Nat → Bool} {lL : Nat → Nat} (hS : ∀ t, t < 3 → a 9 t = szI (b t) (lL t)) (hlL : ∀ t, t < 3 → lL t ≤ 40) (t : Int32) : EVi G mX5_slip [.ref (ad G k), .int t] hh (fun w h1 => match erSlip t with | some e => w = e ∧ h1 = hh | none => w = 0 ∧ MdAt G h1 k (va_up a 9 (upd (a 9) t.toNatClampNeg 0)) v ∧ Fr k (k + 11) hh h1) := by
  refine EV.of [(0, .ref (ad G k)), (1, .int t)] (by decide +kernel) (Nat.le_of_ble_eq_true rfl) rfl ?_
  have hF : Fr k (k + 11) hh hh := Fr.rf
  refine R_iload_n dX5_slip_0 rfl ?_
  refine R_callSp dX5_slip_1 cs_X5_210 ⟨by decide, by decide⟩ (d_isSlip G hh t) rfl rfl (Nat.le_of_ble_eq_true rfl) ?_
  refine R_if_ne (tgt := 10) dX5_slip_4 (by decide) (fun c4 => ?_) (fun c4 => ?_)
  · have hj : 0 ≤ t ∧ t < 3 := dt c4
    obtain ⟨i, hi, rfl⟩ := ix_in (n := 3) (by omega) (Int32.not_lt.mpr hj.1) hj.2
    have ec : (nI i).toNatClampNeg = i := nI_clamp (by omega)
    have hSi := hS i hi
    have hLi := hlL i hi
    refine R_aload_n dX5_slip_10 rfl ?_
    refine R_get dX5_slip_11 gf_X5_26 h.1 rfl ?_
    refine R_iload_n dX5_slip_14 rfl ?_
    refine R_iconst (v := 0) dX5_slip_15 (by decide) ?_
    refine Md_ast9N dX5_slip_16 h (by first | omega | decide) (fun hh h hF1 => ?_)
    have hF := hF.tr hF1 (by omega) (by omega)
    refine R_iconst (v := 0) dX5_slip_17 (by decide) ?_
    exact R_iret dX5_slip_18 rfl (⟨_, rfl, by (have hE : erSlip (nI i) = none := by (unfold erSlip; rw [if_pos hj])); (rw [hE]); exact ⟨rfl, by rw [ec]; exact h, hF⟩⟩)
  · refine R_bipush (v := (-2)) dX5_slip_7 (by decide) ?_
    exact R_iret dX5_slip_9 rfl (⟨_, rfl, by (have hE : erSlip t = some (-2) := by (unfold erSlip; rw [if_neg (dfn c4)])); (rw [hE]); exact ⟨rfl, rfl⟩⟩)
set_option maxRecDepth 4000 in
theorem m_drop (G : GG) (hh : HH) {k : Nat} {a : AA} {v : VV} (h : MdAt G hh k a v) {b : Nat → Bool} {lL : Nat → Nat} (hS : ∀ t, t < 3 → a 9 t = szI (b t) (lL t)) (hlL : ∀ t, t < 3 → lL t ≤ 40) (t : Int32) : EVi G mX5_drop [.ref (ad G k), .int t] hh (fun w h1 => match erDrop b t with | some e => w = e ∧ (h1 = hh ∨ ∃ i, i < 3 ∧ t.toNatClampNeg = i ∧ ¬ b i = true ∧ MdAt G h1 k (va_up a 9 (upd (a 9) i (-1))) v ∧ Fr k (k + 11) hh h1) | none => w = nI (lL t.toNatClampNeg) ∧ MdAt G h1 k (va_up a 9 (upd (a 9) t.toNatClampNeg (-1))) v ∧ Fr k (k + 11) hh h1) := by
  refine EV.of [(0, .ref (ad G k)), (1, .int t)] (by decide +kernel) (Nat.le_of_ble_eq_true rfl) rfl ?_
  have hF : Fr k (k + 11) hh hh := Fr.rf
  refine R_iload_n dX5_drop_0 rfl ?_
  refine R_callSp dX5_drop_1 cs_X5_210 ⟨by decide, by decide⟩ (d_isSlip G hh t) rfl rfl (Nat.le_of_ble_eq_true rfl) ?_
  refine R_if_ne (tgt := 10) dX5_drop_4 (by decide) (fun c4 => ?_) (fun c4 => ?_)
  · have hj : 0 ≤ t ∧ t < 3 := dt c4
    obtain ⟨i, hi, rfl⟩ := ix_in (n := 3) (by omega) (Int32.not_lt.mpr hj.1) hj.2
    have ec : (nI i).toNatClampNeg = i := nI_clamp (by omega)
    have hSi := hS i hi
    have hLi := hlL i hi
    refine R_aload_n dX5_drop_10 rfl ?_
    refine R_get dX5_drop_11 gf_X5_26 h.1 rfl ?_
    refine R_iload_n dX5_drop_14 rfl ?_
    refine R_ialdN dX5_drop_15 h.a9 (by first | omega | decide) (by decide) ?_
    refine R_istore_n dX5_drop_16 (by decide) ?_
    refine R_aload_n dX5_drop_17 rfl ?_
    refine R_get dX5_drop_18 gf_X5_26 h.1 rfl ?_
    refine R_iload_n dX5_drop_21 rfl ?_
    refine R_iconst (v := (-1)) dX5_drop_22 (by decide) ?_
    refine Md_ast9N dX5_drop_23 h (by first | omega | decide) (fun hh h hF1 => ?_)
    have hF := hF.tr hF1 (by omega) (by omega)
    refine R_iload_n dX5_drop_24 rfl ?_
    refine R_if_ge (tgt := 33) dX5_drop_25 (by decide) (fun c25 => ?_) (fun c25 => ?_)
    · refine R_iload_n dX5_drop_33 rfl ?_
      exact R_iret dX5_drop_34 rfl (⟨_, rfl, by (have hE : erDrop b (nI i) = none := by (unfold erDrop; simp only [ec]; rw [if_pos hj, if_pos (sz_t hSi c25)])); (rw [hE]); exact ⟨by rw [ec]; exact sz_e hSi (sz_t hSi c25), by rw [ec]; exact h, hF⟩⟩)
    · refine R_bipush (v := (-11)) dX5_drop_28 (by decide) ?_
      refine R_goto (tgt := 34) dX5_drop_30 (by decide) ?_
      exact R_iret dX5_drop_34 rfl (⟨_, rfl, by (have hE : erDrop b (nI i) = some (-11) := by (unfold erDrop; simp only [ec]; rw [if_pos hj, if_neg (sz_f hSi hLi c25)])); (rw [hE]); exact ⟨rfl, Or.inr ⟨i, hi, ec, sz_f hSi hLi c25, h, hF⟩⟩⟩)
  · refine R_bipush (v := (-2)) dX5_drop_7 (by decide) ?_
    exact R_iret dX5_drop_9 rfl (⟨_, rfl, by (have hE : erDrop b t = some (-2) := by (unfold erDrop; rw [if_neg (dfn c4)])); (rw [hE]); exact ⟨rfl, Or.inl rfl⟩⟩)
/-- the letters of the slips, as the reference keeps them -/
def mL (a : AA) : Nat → Nat → Int32 := fun t k => a 10 (40 * t + k)
set_option maxRecDepth 4000 in
theorem m_letter (G : GG) (hh : HH) {k : Nat} {a : AA} {v : VV} (h : MdAt G hh k a v) {b : Nat → Bool} {lL : Nat → Nat} (hS : ∀ t, t < 3 → a 9 t = szI (b t) (lL t)) (hlL : ∀ t, t < 3 → lL t ≤ 40) (t s : Int32) : EVp G mX5_letter [.ref (ad G k), .int t, .int s] hh (anLetter b (mL a) lL t s) := by
  refine EV.of [(0, .ref (ad G k)), (1, .int t), (2, .int s)] (by decide +kernel) (Nat.le_of_ble_eq_true rfl) rfl ?_
  refine R_iload_n dX5_letter_0 rfl ?_
  refine R_callSp dX5_letter_1 cs_X5_210 ⟨by decide, by decide⟩ (d_isSlip G hh t) rfl rfl (Nat.le_of_ble_eq_true rfl) ?_
  refine R_if_ne (tgt := 12) dX5_letter_4 (by decide) (fun c4 => ?_) (fun c4 => ?_)
  · have hj : 0 ≤ t ∧ t < 3 := dt c4
    obtain ⟨i, hi, rfl⟩ := ix_in (n := 3) (by omega) (Int32.not_lt.mpr hj.1) hj.2
    have ec : (nI i).toNatClampNeg = i := nI_clamp (by omega)
    have hSi := hS i hi
    have hLi := hlL i hi
    refine R_aload_n dX5_letter_12 rfl ?_
    refine R_get dX5_letter_13 gf_X5_26 h.1 rfl ?_
    refine R_iload_n dX5_letter_16 rfl ?_
    refine R_ialdN dX5_letter_17 h.a9 (by first | omega | decide) (by decide) ?_
    refine R_if_ge (tgt := 26) dX5_letter_18 (by decide) (fun c18 => ?_) (fun c18 => ?_)
    · have hbt := sz_t hSi c18
      refine R_iload_n dX5_letter_26 rfl ?_
      refine R_i2l dX5_letter_27 ?_
      refine R_lconst (v := 0) dX5_letter_28 (by decide) ?_
      refine R_aload_n dX5_letter_29 rfl ?_
      refine R_get dX5_letter_30 gf_X5_26 h.1 rfl ?_
      refine R_iload_n dX5_letter_33 rfl ?_
      refine R_ialdN dX5_letter_34 h.a9 (by first | omega | decide) (by decide) ?_
      refine RR.top (y := nI (lL i)) (sz_e hSi hbt) ?_
      refine R_iconst (v := 1) dX5_letter_35 (by decide) ?_
      refine R_isub dX5_letter_36 ?_
      refine R_i2l dX5_letter_37 ?_
      refine R_callSp dX5_letter_38 cs_X5_57 ⟨by decide, by decide⟩ (d_in0p G hh s (L := lL i) (by omega)) rfl rfl (Nat.le_of_ble_eq_true rfl) ?_
      refine R_if_eq (tgt := 58) dX5_letter_41 (by decide) (fun c41 => ?_) (fun c41 => ?_)
      · refine R_bipush (v := (-12)) dX5_letter_58 (by decide) ?_
        exact R_iret dX5_letter_60 rfl (⟨_, rfl, by (unfold anLetter; simp only [ec]; rw [if_pos hj, if_pos hbt, if_neg (df c41)]), rfl⟩)
      · have hq := dt c41
        obtain ⟨q, hq2, rfl⟩ := ix_in (n := lL i) (by omega) hq.1 hq.2
        refine R_aload_n dX5_letter_44 rfl ?_
        refine R_get dX5_letter_45 gf_X5_29 h.1 rfl ?_
        refine R_bipush (v := 40) dX5_letter_48 (by decide) ?_
        refine R_iload_n dX5_letter_50 rfl ?_
        refine R_imul dX5_letter_51 ?_
        refine RR.top (y := nI (40 * i)) (pk_mul (40) (i)) ?_
        refine R_iload_n dX5_letter_52 rfl ?_
        refine R_iadd dX5_letter_53 ?_
        refine RR.top (y := nI ((40 * i) + q)) (nI_add (40 * i) (q)) ?_
        refine R_ialdN dX5_letter_54 h.a10 (by first | omega | decide) (by decide) ?_
        refine R_goto (tgt := 60) dX5_letter_55 (by decide) ?_
        exact R_iret dX5_letter_60 rfl (⟨_, rfl, by (unfold anLetter; simp only [ec]; rw [if_pos hj, if_pos hbt, if_pos hq, nI_clamp (show q < 2 ^ 31 by omega)]; rfl), rfl⟩)
    · refine R_bipush (v := (-11)) dX5_letter_21 (by decide) ?_
      refine R_goto (tgt := 60) dX5_letter_23 (by decide) ?_
      exact R_iret dX5_letter_60 rfl (⟨_, rfl, by (unfold anLetter; simp only [ec]; rw [if_pos hj, if_neg (sz_f hSi hLi c18)]), rfl⟩)
  · refine R_bipush (v := (-2)) dX5_letter_7 (by decide) ?_
    refine R_goto (tgt := 60) dX5_letter_9 (by decide) ?_
    exact R_iret dX5_letter_60 rfl (⟨_, rfl, by rw [anLetter, if_neg (dfn c4)], rfl⟩)
def shR (f : Nat → Int32) (lo hi : Nat) : Nat → Int32 := fun j => if lo < j ∧ j ≤ hi then f (j - 1) else f j
theorem shR_0 (f : Nat → Int32) (hi : Nat) : shR f hi hi = f := by funext j; unfold shR; rw [if_neg (by omega)]
theorem shR_s {f : Nat → Int32} {lo hi : Nat} (h : lo < hi) : upd (shR f (lo + 1) hi) (lo + 1) (shR f (lo + 1) hi lo) = shR f lo hi := by
  funext j
  unfold upd shR
  by_cases e : j = lo + 1
  · subst e; rw [if_pos rfl, if_neg (by omega), if_pos (by omega), show lo + 1 - 1 = lo by omega]
  · rw [if_neg e]
    by_cases q : lo < j ∧ j ≤ hi
    · rw [if_pos (by omega), if_pos q]
    · rw [if_neg (by omega), if_neg q]
/-- the letters with x put into slip t at place q -/
def inR (f : Nat → Int32) (t q L : Nat) (x : Int32) : Nat → Int32 := upd (shR f (40 * t + q) (40 * t + L)) (40 * t + q) x
set_option maxRecDepth 4000 in
theorem l_insert (G : GG) (hh0 : HH) {k : Nat} {a : AA} {v : VV} {i q L : Nat} (hi : i < 3) (hqL : q ≤ L) (hL : L < 40) (hs : a 9 i = nI L) (x : Int32) : ∀ (d kk : Nat) (hh : HH), kk = q + d ∧ kk ≤ L → MdAt G hh k (va_up a 10 (shR (a 10) (40 * i + kk) (40 * i + L))) v → Fr k (k + 11) hh0 hh → RR G mX5_insert 86 [(0, .ref (ad G k)), (1, .int (nI i)), (2, .int (nI q)), (3, .int x), (4, .int (nI kk))] [] hh (fun r h1 => ∃ w, r = some (.int w) ∧ (w = nI (L + 1) ∧ MdAt G h1 k (va_up (va_up a 10 (inR (a 10) i q L x)) 9 (upd (a 9) i (nI (L + 1)))) v ∧ Fr k (k + 11) hh0 h1)) := by
  intro d
  induction d with
  | zero =>
    intro kk hh hkk h hF
    obtain ⟨hk, hkL⟩ := hkk
    refine R_iload dX5_insert_86 rfl ?_
    refine R_iload_n dX5_insert_88 rfl ?_
    refine R_icmp_le (tgt := 124) dX5_insert_89 (by decide) (fun c89 => ?_) (fun c89 => absurd (by (have e : kk = q := by omega); (rw [e]); exact Int32.le_refl _) c89)
    have e : q = kk := by omega
    subst e
    refine R_aload_n dX5_insert_124 rfl ?_
    refine R_get dX5_insert_125 gf_X5_29 h.1 rfl ?_
    refine R_bipush (v := 40) dX5_insert_128 (by decide) ?_
    refine R_iload_n dX5_insert_130 rfl ?_
    refine R_imul dX5_insert_131 ?_
    refine RR.top (y := nI (40 * i)) (pk_mul (40) (i)) ?_
    refine R_iload_n dX5_insert_132 rfl ?_
    refine R_iadd dX5_insert_133 ?_
    refine RR.top (y := nI ((40 * i) + q)) (nI_add (40 * i) (q)) ?_
    refine R_iload_n dX5_insert_134 rfl ?_
    refine Md_ast10N dX5_insert_135 h (by first | omega | decide) (fun hh h hF1 => ?_)
    have hF := hF.tr hF1 (by omega) (by omega)
    refine R_aload_n dX5_insert_136 rfl ?_
    refine R_get dX5_insert_137 gf_X5_26 h.1 rfl ?_
    refine R_iload_n dX5_insert_140 rfl ?_
    refine R_dup2 dX5_insert_141 rfl rfl ?_
    refine R_ialdN dX5_insert_142 h.a9 (by first | omega | decide) (by decide) ?_
    refine RR.top (y := nI L) hs ?_
    refine R_iconst (v := 1) dX5_insert_143 (by decide) ?_
    refine R_iadd dX5_insert_144 ?_
    refine RR.top (y := nI (L + 1)) (nI_1 L) ?_
    refine Md_ast9N dX5_insert_145 h (by first | omega | decide) (fun hh h hF1 => ?_)
    have hF := hF.tr hF1 (by omega) (by omega)
    refine R_aload_n dX5_insert_146 rfl ?_
    refine R_get dX5_insert_147 gf_X5_26 h.1 rfl ?_
    refine R_iload_n dX5_insert_150 rfl ?_
    refine R_ialdN dX5_insert_151 h.a9 (by first | omega | decide) (by decide) ?_
    refine RR.top (y := nI (L + 1)) pk_us ?_
    exact R_iret dX5_insert_152 rfl (⟨_, rfl, rfl, h.cg (by rw [bx_uu]; rfl) rfl, hF⟩)
  | succ d ih =>
    intro kk hh hkk h hF
    obtain ⟨hk, hkL⟩ := hkk
    refine R_iload dX5_insert_86 rfl ?_
    refine R_iload_n dX5_insert_88 rfl ?_
    refine R_icmp_le (tgt := 124) dX5_insert_89 (by decide) (fun c89 => absurd c89 (fun q9 => absurd ((nI_leI (by omega) (by omega)).mp q9) (by omega))) (fun c89 => ?_)
    refine R_aload_n dX5_insert_92 rfl ?_
    refine R_get dX5_insert_93 gf_X5_29 h.1 rfl ?_
    refine R_bipush (v := 40) dX5_insert_96 (by decide) ?_
    refine R_iload_n dX5_insert_98 rfl ?_
    refine R_imul dX5_insert_99 ?_
    refine RR.top (y := nI (40 * i)) (pk_mul (40) (i)) ?_
    refine R_iload dX5_insert_100 rfl ?_
    refine R_iadd dX5_insert_102 ?_
    refine RR.top (y := nI ((40 * i) + kk)) (nI_add (40 * i) (kk)) ?_
    refine R_aload_n dX5_insert_103 rfl ?_
    refine R_get dX5_insert_104 gf_X5_29 h.1 rfl ?_
    refine R_bipush (v := 40) dX5_insert_107 (by decide) ?_
    refine R_iload_n dX5_insert_109 rfl ?_
    refine R_imul dX5_insert_110 ?_
    refine RR.top (y := nI (40 * i)) (pk_mul (40) (i)) ?_
    refine R_iload dX5_insert_111 rfl ?_
    refine R_iadd dX5_insert_113 ?_
    refine RR.top (y := nI ((40 * i) + kk)) (nI_add (40 * i) (kk)) ?_
    refine R_iconst (v := 1) dX5_insert_114 (by decide) ?_
    refine R_isub dX5_insert_115 ?_
    refine RR.top (y := nI (((40 * i) + kk) - 1)) (pk_sub (a := (40 * i) + kk) (b := 1) (by omega)) ?_
    refine R_ialdN dX5_insert_116 h.a10 (by first | omega | decide) (by decide) ?_
    refine Md_ast10N dX5_insert_117 h (by first | omega | decide) (fun hh h hF1 => ?_)
    have hF := hF.tr hF1 (by omega) (by omega)
    refine R_iinc (y := nI (kk - 1)) dX5_insert_118 rfl (by decide) (nI_m1 (by omega)) ?_
    refine R_goto (tgt := 86) dX5_insert_121 (by decide) ?_
    have h := h.cg (a' := va_up a 10 (shR (a 10) (40 * i + (q + d)) (40 * i + L))) (by rw [bx_uu, ← shR_s (show 40 * i + (q + d) < 40 * i + L by omega)]; subst hk; rfl) rfl
    exact RR.pick [1, 2, 3, 4, 0] rfl (ih (kk - 1) hh (by omega) (by rw [show kk - 1 = q + d by omega]; exact h) hF)
set_option maxRecDepth 4000 in
theorem m_insert (G : GG) (hh : HH) {k : Nat} {a : AA} {v : VV} (h : MdAt G hh k a v) {b : Nat → Bool} {lL : Nat → Nat} (hS : ∀ t, t < 3 → a 9 t = szI (b t) (lL t)) (hlL : ∀ t, t < 3 → lL t ≤ 40) (t y x : Int32) : EVi G mX5_insert [.ref (ad G k), .int t, .int y, .int x] hh (fun w h1 => match erIns b lL t y x with | some e => w = e ∧ h1 = hh | none => w = nI (lL t.toNatClampNeg + 1) ∧ MdAt G h1 k (va_up (va_up a 10 (inR (a 10) t.toNatClampNeg y.toNatClampNeg (lL t.toNatClampNeg) x)) 9 (upd (a 9) t.toNatClampNeg (nI (lL t.toNatClampNeg + 1)))) v ∧ Fr k (k + 11) hh h1) := by
  refine EV.of [(0, .ref (ad G k)), (1, .int t), (2, .int y), (3, .int x)] (by decide +kernel) (Nat.le_of_ble_eq_true rfl) rfl ?_
  refine R_iload_n dX5_insert_0 rfl ?_
  refine R_callSp dX5_insert_1 cs_X5_210 ⟨by decide, by decide⟩ (d_isSlip G hh t) rfl rfl (Nat.le_of_ble_eq_true rfl) ?_
  refine R_if_ne (tgt := 10) dX5_insert_4 (by decide) (fun c4 => ?_) (fun c4 => ?_)
  · have hj : 0 ≤ t ∧ t < 3 := dt c4
    obtain ⟨i, hi, rfl⟩ := ix_in (n := 3) (by omega) (Int32.not_lt.mpr hj.1) hj.2
    have ec : (nI i).toNatClampNeg = i := nI_clamp (by omega)
    have hSi := hS i hi
    have hLi := hlL i hi
    refine R_iload_n dX5_insert_10 rfl ?_
    refine R_callSp dX5_insert_11 cs_X5_78 ⟨by decide, by decide⟩ (d_isSmall G hh x) rfl rfl (Nat.le_of_ble_eq_true rfl) ?_
    refine R_if_ne (tgt := 33) dX5_insert_14 (by decide) (fun c14 => ?_) (fun c14 => ?_)
    · have hx : (smB x || dgB x || decide (x = 46)) = true := by rw [bl_t c14]; rfl
      refine R_aload_n dX5_insert_33 rfl ?_
      refine R_get dX5_insert_34 gf_X5_26 h.1 rfl ?_
      refine R_iload_n dX5_insert_37 rfl ?_
      refine R_ialdN dX5_insert_38 h.a9 (by first | omega | decide) (by decide) ?_
      refine R_if_ge (tgt := 45) dX5_insert_39 (by decide) (fun c39 => ?_) (fun c39 => ?_)
      · have hbt := sz_t hSi c39
        have es := sz_e hSi hbt
        refine R_iload_n dX5_insert_45 rfl ?_
        refine R_i2l dX5_insert_46 ?_
        refine R_lconst (v := 0) dX5_insert_47 (by decide) ?_
        refine R_aload_n dX5_insert_48 rfl ?_
        refine R_get dX5_insert_49 gf_X5_26 h.1 rfl ?_
        refine R_iload_n dX5_insert_52 rfl ?_
        refine R_ialdN dX5_insert_53 h.a9 (by first | omega | decide) (by decide) ?_
        refine RR.top (y := nI (lL i)) es ?_
        refine R_i2l dX5_insert_54 ?_
        refine R_callSp dX5_insert_55 cs_X5_57 ⟨by decide, by decide⟩ (d_in0n G hh y (L := lL i) (by omega)) rfl rfl (Nat.le_of_ble_eq_true rfl) ?_
        refine R_if_ne (tgt := 64) dX5_insert_58 (by decide) (fun c58 => ?_) (fun c58 => ?_)
        · refine R_aload_n dX5_insert_64 rfl ?_
          refine R_get dX5_insert_65 gf_X5_26 h.1 rfl ?_
          refine R_iload_n dX5_insert_68 rfl ?_
          refine R_ialdN dX5_insert_69 h.a9 (by first | omega | decide) (by decide) ?_
          refine RR.top (y := nI (lL i)) es ?_
          refine R_bipush (v := 40) dX5_insert_70 (by decide) ?_
          refine R_icmp_ne (tgt := 78) dX5_insert_72 (by decide) (fun c72 => ?_) (fun c72 => ?_)
          · have hq := dt c58
            obtain ⟨q, hq2, rfl⟩ := ix_in (n := lL i + 1) (by omega) hq.1 (Int32.lt_of_le_of_lt hq.2 ((nI_ltI (by omega) (by omega)).mpr (Nat.lt_succ_self _)))
            have hL40 : lL i < 40 := by
              rcases Nat.lt_or_ge (lL i) 40 with r | r
              · exact r
              · exact absurd (by rw [show lL i = 40 by omega]; rfl) c72
            have eq : (nI q).toNatClampNeg = q := nI_clamp (by omega)
            refine R_aload_n dX5_insert_78 rfl ?_
            refine R_get dX5_insert_79 gf_X5_26 h.1 rfl ?_
            refine R_iload_n dX5_insert_82 rfl ?_
            refine R_ialdN dX5_insert_83 h.a9 (by first | omega | decide) (by decide) ?_
            refine RR.top (y := nI (lL i)) es ?_
            refine R_istore dX5_insert_84 (by decide) ?_
            have hE : erIns b lL (nI i) (nI q) x = none := by (unfold erIns; simp only [ec]; rw [if_pos hj, if_pos hx, if_pos hbt, if_pos (dt c58), if_pos (by omega)])
            refine RR.pick [1, 2, 3, 4, 0] rfl ?_
            refine RR.post (l_insert G hh hi (by omega) hL40 es x (lL i - q) (lL i) hh ⟨by omega, Nat.le_refl _⟩ (h.cg (by rw [shR_0]; exact va_up_idX a 10) rfl) Fr.rf) (fun r h1 hq => ?_)
            obtain ⟨w, e1, e2, e3, e4⟩ := hq
            exact ⟨w, e1, by (rw [hE, ec, eq]); exact ⟨e2, e3, e4⟩⟩
          · refine R_bipush (v := (-13)) dX5_insert_75 (by decide) ?_
            exact R_iret dX5_insert_77 rfl (⟨_, rfl, by (have hE : erIns b lL (nI i) y x = some (-13) := by (unfold erIns; simp only [ec]; rw [if_pos hj, if_pos hx, if_pos hbt, if_pos (dt c58), if_neg (by have := (nI_eq (b := 40) (by omega) (by decide)).mp (Classical.not_not.mp c72); omega)])); (rw [hE]); exact ⟨rfl, rfl⟩⟩)
        · refine R_bipush (v := (-12)) dX5_insert_61 (by decide) ?_
          exact R_iret dX5_insert_63 rfl (⟨_, rfl, by (have hE : erIns b lL (nI i) y x = some (-12) := by (unfold erIns; simp only [ec]; rw [if_pos hj, if_pos hx, if_pos hbt, if_neg (dfn c58)])); (rw [hE]); exact ⟨rfl, rfl⟩⟩)
      · refine R_bipush (v := (-11)) dX5_insert_42 (by decide) ?_
        exact R_iret dX5_insert_44 rfl (⟨_, rfl, by (have hE : erIns b lL (nI i) y x = some (-11) := by (unfold erIns; simp only [ec]; rw [if_pos hj, if_pos hx, if_neg (sz_f hSi hLi c39)])); (rw [hE]); exact ⟨rfl, rfl⟩⟩)
    · refine R_iload_n dX5_insert_17 rfl ?_
      refine R_callSp dX5_insert_18 cs_X5_82 ⟨by decide, by decide⟩ (d_isDigit G hh x) rfl rfl (Nat.le_of_ble_eq_true rfl) ?_
      refine R_if_ne (tgt := 33) dX5_insert_21 (by decide) (fun c21 => ?_) (fun c21 => ?_)
      · have hx : (smB x || dgB x || decide (x = 46)) = true := by rw [bl_t c21, Bool.or_true]; rfl
        refine R_aload_n dX5_insert_33 rfl ?_
        refine R_get dX5_insert_34 gf_X5_26 h.1 rfl ?_
        refine R_iload_n dX5_insert_37 rfl ?_
        refine R_ialdN dX5_insert_38 h.a9 (by first | omega | decide) (by decide) ?_
        refine R_if_ge (tgt := 45) dX5_insert_39 (by decide) (fun c39 => ?_) (fun c39 => ?_)
        · have hbt := sz_t hSi c39
          have es := sz_e hSi hbt
          refine R_iload_n dX5_insert_45 rfl ?_
          refine R_i2l dX5_insert_46 ?_
          refine R_lconst (v := 0) dX5_insert_47 (by decide) ?_
          refine R_aload_n dX5_insert_48 rfl ?_
          refine R_get dX5_insert_49 gf_X5_26 h.1 rfl ?_
          refine R_iload_n dX5_insert_52 rfl ?_
          refine R_ialdN dX5_insert_53 h.a9 (by first | omega | decide) (by decide) ?_
          refine RR.top (y := nI (lL i)) es ?_
          refine R_i2l dX5_insert_54 ?_
          refine R_callSp dX5_insert_55 cs_X5_57 ⟨by decide, by decide⟩ (d_in0n G hh y (L := lL i) (by omega)) rfl rfl (Nat.le_of_ble_eq_true rfl) ?_
          refine R_if_ne (tgt := 64) dX5_insert_58 (by decide) (fun c58 => ?_) (fun c58 => ?_)
          · refine R_aload_n dX5_insert_64 rfl ?_
            refine R_get dX5_insert_65 gf_X5_26 h.1 rfl ?_
            refine R_iload_n dX5_insert_68 rfl ?_
            refine R_ialdN dX5_insert_69 h.a9 (by first | omega | decide) (by decide) ?_
            refine RR.top (y := nI (lL i)) es ?_
            refine R_bipush (v := 40) dX5_insert_70 (by decide) ?_
            refine R_icmp_ne (tgt := 78) dX5_insert_72 (by decide) (fun c72 => ?_) (fun c72 => ?_)
            · have hq := dt c58
              obtain ⟨q, hq2, rfl⟩ := ix_in (n := lL i + 1) (by omega) hq.1 (Int32.lt_of_le_of_lt hq.2 ((nI_ltI (by omega) (by omega)).mpr (Nat.lt_succ_self _)))
              have hL40 : lL i < 40 := by
                rcases Nat.lt_or_ge (lL i) 40 with r | r
                · exact r
                · exact absurd (by rw [show lL i = 40 by omega]; rfl) c72
              have eq : (nI q).toNatClampNeg = q := nI_clamp (by omega)
              refine R_aload_n dX5_insert_78 rfl ?_
              refine R_get dX5_insert_79 gf_X5_26 h.1 rfl ?_
              refine R_iload_n dX5_insert_82 rfl ?_
              refine R_ialdN dX5_insert_83 h.a9 (by first | omega | decide) (by decide) ?_
              refine RR.top (y := nI (lL i)) es ?_
              refine R_istore dX5_insert_84 (by decide) ?_
              have hE : erIns b lL (nI i) (nI q) x = none := by (unfold erIns; simp only [ec]; rw [if_pos hj, if_pos hx, if_pos hbt, if_pos (dt c58), if_pos (by omega)])
              refine RR.pick [1, 2, 3, 4, 0] rfl ?_
              refine RR.post (l_insert G hh hi (by omega) hL40 es x (lL i - q) (lL i) hh ⟨by omega, Nat.le_refl _⟩ (h.cg (by rw [shR_0]; exact va_up_idX a 10) rfl) Fr.rf) (fun r h1 hq => ?_)
              obtain ⟨w, e1, e2, e3, e4⟩ := hq
              exact ⟨w, e1, by (rw [hE, ec, eq]); exact ⟨e2, e3, e4⟩⟩
            · refine R_bipush (v := (-13)) dX5_insert_75 (by decide) ?_
              exact R_iret dX5_insert_77 rfl (⟨_, rfl, by (have hE : erIns b lL (nI i) y x = some (-13) := by (unfold erIns; simp only [ec]; rw [if_pos hj, if_pos hx, if_pos hbt, if_pos (dt c58), if_neg (by have := (nI_eq (b := 40) (by omega) (by decide)).mp (Classical.not_not.mp c72); omega)])); (rw [hE]); exact ⟨rfl, rfl⟩⟩)
          · refine R_bipush (v := (-12)) dX5_insert_61 (by decide) ?_
            exact R_iret dX5_insert_63 rfl (⟨_, rfl, by (have hE : erIns b lL (nI i) y x = some (-12) := by (unfold erIns; simp only [ec]; rw [if_pos hj, if_pos hx, if_pos hbt, if_neg (dfn c58)])); (rw [hE]); exact ⟨rfl, rfl⟩⟩)
        · refine R_bipush (v := (-11)) dX5_insert_42 (by decide) ?_
          exact R_iret dX5_insert_44 rfl (⟨_, rfl, by (have hE : erIns b lL (nI i) y x = some (-11) := by (unfold erIns; simp only [ec]; rw [if_pos hj, if_pos hx, if_neg (sz_f hSi hLi c39)])); (rw [hE]); exact ⟨rfl, rfl⟩⟩)
      · refine R_iload_n dX5_insert_24 rfl ?_
        refine R_bipush (v := 46) dX5_insert_25 (by decide) ?_
        refine R_icmp_eq (tgt := 33) dX5_insert_27 (by decide) (fun c27 => ?_) (fun c27 => ?_)
        · have hx : (smB x || dgB x || decide (x = 46)) = true := by rw [decide_eq_true c27, Bool.or_true]
          refine R_aload_n dX5_insert_33 rfl ?_
          refine R_get dX5_insert_34 gf_X5_26 h.1 rfl ?_
          refine R_iload_n dX5_insert_37 rfl ?_
          refine R_ialdN dX5_insert_38 h.a9 (by first | omega | decide) (by decide) ?_
          refine R_if_ge (tgt := 45) dX5_insert_39 (by decide) (fun c39 => ?_) (fun c39 => ?_)
          · have hbt := sz_t hSi c39
            have es := sz_e hSi hbt
            refine R_iload_n dX5_insert_45 rfl ?_
            refine R_i2l dX5_insert_46 ?_
            refine R_lconst (v := 0) dX5_insert_47 (by decide) ?_
            refine R_aload_n dX5_insert_48 rfl ?_
            refine R_get dX5_insert_49 gf_X5_26 h.1 rfl ?_
            refine R_iload_n dX5_insert_52 rfl ?_
            refine R_ialdN dX5_insert_53 h.a9 (by first | omega | decide) (by decide) ?_
            refine RR.top (y := nI (lL i)) es ?_
            refine R_i2l dX5_insert_54 ?_
            refine R_callSp dX5_insert_55 cs_X5_57 ⟨by decide, by decide⟩ (d_in0n G hh y (L := lL i) (by omega)) rfl rfl (Nat.le_of_ble_eq_true rfl) ?_
            refine R_if_ne (tgt := 64) dX5_insert_58 (by decide) (fun c58 => ?_) (fun c58 => ?_)
            · refine R_aload_n dX5_insert_64 rfl ?_
              refine R_get dX5_insert_65 gf_X5_26 h.1 rfl ?_
              refine R_iload_n dX5_insert_68 rfl ?_
              refine R_ialdN dX5_insert_69 h.a9 (by first | omega | decide) (by decide) ?_
              refine RR.top (y := nI (lL i)) es ?_
              refine R_bipush (v := 40) dX5_insert_70 (by decide) ?_
              refine R_icmp_ne (tgt := 78) dX5_insert_72 (by decide) (fun c72 => ?_) (fun c72 => ?_)
              · have hq := dt c58
                obtain ⟨q, hq2, rfl⟩ := ix_in (n := lL i + 1) (by omega) hq.1 (Int32.lt_of_le_of_lt hq.2 ((nI_ltI (by omega) (by omega)).mpr (Nat.lt_succ_self _)))
                have hL40 : lL i < 40 := by
                  rcases Nat.lt_or_ge (lL i) 40 with r | r
                  · exact r
                  · exact absurd (by rw [show lL i = 40 by omega]; rfl) c72
                have eq : (nI q).toNatClampNeg = q := nI_clamp (by omega)
                refine R_aload_n dX5_insert_78 rfl ?_
                refine R_get dX5_insert_79 gf_X5_26 h.1 rfl ?_
                refine R_iload_n dX5_insert_82 rfl ?_
                refine R_ialdN dX5_insert_83 h.a9 (by first | omega | decide) (by decide) ?_
                refine RR.top (y := nI (lL i)) es ?_
                refine R_istore dX5_insert_84 (by decide) ?_
                have hE : erIns b lL (nI i) (nI q) x = none := by (unfold erIns; simp only [ec]; rw [if_pos hj, if_pos hx, if_pos hbt, if_pos (dt c58), if_pos (by omega)])
                refine RR.pick [1, 2, 3, 4, 0] rfl ?_
                refine RR.post (l_insert G hh hi (by omega) hL40 es x (lL i - q) (lL i) hh ⟨by omega, Nat.le_refl _⟩ (h.cg (by rw [shR_0]; exact va_up_idX a 10) rfl) Fr.rf) (fun r h1 hq => ?_)
                obtain ⟨w, e1, e2, e3, e4⟩ := hq
                exact ⟨w, e1, by (rw [hE, ec, eq]); exact ⟨e2, e3, e4⟩⟩
              · refine R_bipush (v := (-13)) dX5_insert_75 (by decide) ?_
                exact R_iret dX5_insert_77 rfl (⟨_, rfl, by (have hE : erIns b lL (nI i) y x = some (-13) := by (unfold erIns; simp only [ec]; rw [if_pos hj, if_pos hx, if_pos hbt, if_pos (dt c58), if_neg (by have := (nI_eq (b := 40) (by omega) (by decide)).mp (Classical.not_not.mp c72); omega)])); (rw [hE]); exact ⟨rfl, rfl⟩⟩)
            · refine R_bipush (v := (-12)) dX5_insert_61 (by decide) ?_
              exact R_iret dX5_insert_63 rfl (⟨_, rfl, by (have hE : erIns b lL (nI i) y x = some (-12) := by (unfold erIns; simp only [ec]; rw [if_pos hj, if_pos hx, if_pos hbt, if_neg (dfn c58)])); (rw [hE]); exact ⟨rfl, rfl⟩⟩)
          · refine R_bipush (v := (-11)) dX5_insert_42 (by decide) ?_
            exact R_iret dX5_insert_44 rfl (⟨_, rfl, by (have hE : erIns b lL (nI i) y x = some (-11) := by (unfold erIns; simp only [ec]; rw [if_pos hj, if_pos hx, if_neg (sz_f hSi hLi c39)])); (rw [hE]); exact ⟨rfl, rfl⟩⟩)
        · refine R_bipush (v := (-3)) dX5_insert_30 (by decide) ?_
          exact R_iret dX5_insert_32 rfl (⟨_, rfl, by (have hE : erIns b lL (nI i) y x = some (-3) := by (unfold erIns; simp only [ec]; rw [if_pos hj, if_neg (by rw [Bool.or_eq_true, Bool.or_eq_true]; rintro ((q | q) | q); exact (bl_n (not_not_intro (Classical.not_not.mp c14))) q; exact (bl_n (not_not_intro (Classical.not_not.mp c21))) q; exact c27 (of_decide_eq_true q))])); (rw [hE]); exact ⟨rfl, rfl⟩⟩)
  · refine R_bipush (v := (-2)) dX5_insert_7 (by decide) ?_
    exact R_iret dX5_insert_9 rfl (⟨_, rfl, by (have hE : erIns b lL t y x = some (-2) := by (unfold erIns; rw [if_neg (dfn c4)])); (rw [hE]); exact ⟨rfl, rfl⟩⟩)
