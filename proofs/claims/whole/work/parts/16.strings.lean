/-! String constants: length(), charAt() -/
theorem fl_J0_9 : (.fieldLink RJ0 9 "java/lang/String" "value" "[B" : Cond) ∈ XW := (List.mem_filter.mpr ⟨List.mem_of_getElem? (i := 1035) (by decide +kernel), by decide +kernel⟩)
theorem fl_J0_15 : (.fieldLink RJ0 15 "java/lang/String" "coder" "B" : Cond) ∈ XW := (List.mem_filter.mpr ⟨List.mem_of_getElem? (i := 1036) (by decide +kernel), by decide +kernel⟩)
theorem fl_J0_38 : (.fieldLink RJ0 38 "java/lang/String" "COMPACT_STRINGS" "Z" : Cond) ∈ XW := (List.mem_filter.mpr ⟨List.mem_of_getElem? (i := 313) (by decide +kernel), by decide +kernel⟩)
theorem fl_J0_1053 : (.fieldLink RJ0 1053 "jdk/internal/util/Preconditions" "SIOOBE_FORMATTER" "Ljava/util/function/BiFunction;" : Cond) ∈ XW := (List.mem_filter.mpr ⟨List.mem_of_getElem? (i := 329) (by decide +kernel), by decide +kernel⟩)
section Str
variable {G : GG} {μ : MI} {pc : Nat} {lv : List (Nat × Value)} {st : List Value} {hh : HH} {Q : QQ}
theorem R_ldcSW {index i : Nat} {tx : String} (hd : decode μ.2.1 pc = .ok (.ldc_w index, 3)) (hw : strW[i]? = some (μ.1.cls, index, tx)) (k : RR G μ (pc + 3) lv (.ref (kK G i) :: st) hh Q) : RR G μ pc lv st hh Q := by
  intro p e s m args below meth c C H locs ls hP hS hl T hT X
  obtain ⟨t, a1, b1⟩ := k p e s m args below meth c C H locs ls hP hS hl T hT X
  have hZ := C.2.2.2.2.2.2.2.2.2.2.1 i _ hw
  exact ⟨t, X.ldcStringW C.1 C.2.2.2.2.1 (text := tx) (a := kK G i) hZ.1 hZ.2 (g := F0 m pc ls st) rfl (by rw [C.2.1]; exact hd) t a1, b1⟩
theorem R_strVal {i : Nat} (hi : i < 9) (hcls : μ.1.cls = RJ0) (hd : decode μ.2.1 pc = .ok (.getfield 9, 3)) (k : RR G μ (pc + 3) lv (.ref (kV G i) :: st) hh Q) : RR G μ pc lv (.ref (kK G i) :: st) hh Q := fun p e s m args below meth c C H locs ls hP hS hl =>
  vk_getf C.1 C.2.1 (C.2.2.2.2.2.2.2.2.2.2.2.1.1 i hi).2.2.1 hS C.2.2.2.2.1 (by rw [hcls]; exact C.2.2.2.2.2.2.1 _ (List.mem_cons_of_mem _ fl_J0_9)) (fun _ h => h) hd (k p e s m args below meth c C H locs ls hP hS hl)
theorem R_strCoder {i : Nat} (hi : i < 9) (hcls : μ.1.cls = RJ0) (hd : decode μ.2.1 pc = .ok (.getfield 15, 3)) (k : RR G μ (pc + 3) lv (.int 0 :: st) hh Q) : RR G μ pc lv (.ref (kK G i) :: st) hh Q := fun p e s m args below meth c C H locs ls hP hS hl =>
  vk_getf C.1 C.2.1 (C.2.2.2.2.2.2.2.2.2.2.2.1.1 i hi).2.1 hS C.2.2.2.2.1 (by rw [hcls]; exact C.2.2.2.2.2.2.1 _ (List.mem_cons_of_mem _ fl_J0_15)) (fun _ h => h) hd (k p e s m args below meth c C H locs ls hP hS hl)
theorem R_getsCS (hcls : μ.1.cls = RJ0) (hd : decode μ.2.1 pc = .ok (.getstatic 38, 3)) (k : RR G μ (pc + 3) lv (.int 1 :: st) hh Q) : RR G μ pc lv st hh Q := fun p e s m args below meth c C H locs ls hP hS hl =>
  va_gets C.1 C.2.1 C.2.2.2.2.2.2.2.2.2.2.2.2.1 hS C.2.2.2.2.1 (by rw [hcls]; exact C.2.2.2.2.2.2.1 _ (List.mem_cons_of_mem _ fl_J0_38)) (fun _ h => h) hd (k p e s m args below meth c C H locs ls hP hS hl)
theorem R_getsSF (hcls : μ.1.cls = RJ0) (hd : decode μ.2.1 pc = .ok (.getstatic 1053, 3)) (k : ∀ z : Value, (z = .null ∨ ∃ t, z = .ref t) → RR G μ (pc + 3) lv (z :: st) hh Q) : RR G μ pc lv st hh Q := fun p e s m args below meth c C H locs ls hP hS hl => by
  rcases C.2.2.2.2.2.2.2.2.2.2.2.2.2 with hz | ⟨t, hz⟩
  · exact va_gets C.1 C.2.1 hz hS C.2.2.2.2.1 (by rw [hcls]; exact C.2.2.2.2.2.2.1 _ (List.mem_cons_of_mem _ fl_J0_1053)) (fun _ h => h) hd (k _ (Or.inl rfl) p e s m args below meth c C H locs ls hP hS hl)
  · exact va_gets C.1 C.2.1 hz hS C.2.2.2.2.1 (by rw [hcls]; exact C.2.2.2.2.2.2.1 _ (List.mem_cons_of_mem _ fl_J0_1053)) (fun _ h => h) hd (k _ (Or.inr ⟨t, rfl⟩) p e s m args below meth c C H locs ls hP hS hl)
theorem R_blen {i : Nat} (hi : i < 9) (hd : decode μ.2.1 pc = .ok (.arraylength, 1)) (k : RR G μ (pc + 1) lv (.int (nI (lenS.getD i 0)) :: st) hh Q) : RR G μ pc lv (.ref (kV G i) :: st) hh Q := fun p e s m args below meth c C H locs ls hP hS hl =>
  va_tlen C.1 C.2.1 (C.2.2.2.2.2.2.2.2.2.2.2.1.1 i hi).2.2.2 hS rfl hd (k p e s m args below meth c C H locs ls hP hS hl)
theorem R_bald {i j : Nat} (hi : i < 9) (hj : j < lenS.getD i 0) (hj2 : j < 2 ^ 31) (hd : decode μ.2.1 pc = .ok (.baload, 1)) (k : RR G μ (pc + 1) lv (.int ((bytS.getD i []).getD j 0) :: st) hh Q) : RR G μ pc lv (.int (nI j) :: .ref (kV G i) :: st) hh Q := fun p e s m args below meth c C H locs ls hP hS hl =>
  va_tb C.1 C.2.1 (C.2.2.2.2.2.2.2.2.2.2.2.1.1 i hi).2.2.2 hS (by rw [vp_in_iff, nI_toInt hj2]; omega) (by rw [nI_clamp hj2]) hd (k p e s m args below meth c C H locs ls hP hS hl)
theorem R_i2c {x : Int32} (hd : decode μ.2.1 pc = .ok (.i2c, 1)) (k : RR G μ (pc + 1) lv (.int ((x.toUInt32 % 65536).toInt32) :: st) hh Q) : RR G μ pc lv (.int x :: st) hh Q := fun p e s m args below meth c C H locs ls hP hS hl =>
  lv_i2c C.1 C.2.1 hd rfl (k p e s m args below meth c C H locs ls hP hS hl)
theorem R_nret {v : Int32} {ty : FieldType} (hd : decode μ.2.1 pc = .ok (.ireturn, 1)) (hr : μ.2.2.2.1 = some ty) (hv : narrow ty (.int v) = .int v) (h : Q (some (.int v)) hh) : RR G μ pc lv [.int v] hh Q := fun p e s m args below meth c C H locs ls hP hS hl =>
  W.zret C.1 C.2.1 (C.2.2.1.trans hr) hv (fun t ht hW => ⟨⟨_, _, rfl, h, by rw [ht]; exact hP⟩, hS.F ht⟩) hS.2.2 hd C.2.2.2.2.2.1
theorem R_callStr {μ' : MI} {idx n i : Nat} {As rest st0 : List Value} {Q1 : QQ} (hi : i < 9) (hd : decode μ.2.1 pc = .ok (.invokevirtual idx, 3)) (hw : cvOK μ.1.cls μ' idx n) (hrm : rmOK μ μ') (hE : EV G μ' (.ref (kK G i) :: As) hh Q1) (hc : μ'.1.cls = "java/lang/String") (hn : As.length = n) (hst : st0 = As.reverse ++ .ref (kK G i) :: rest) (hcat : (rest.map fun v => v.category).sum ≤ 8) (k1 : ∀ r1 hh1, Q1 r1 hh1 → RR G μ (pc + 3) lv (r1.toList ++ rest) hh1 Q) : RR G μ pc lv st0 hh Q := fun p e s m args below meth c C H locs ls hP hS hl => by
  subst hst
  obtain ⟨hx, hb, hr, hml, hown, hlocks, hts, hG⟩ := id C
  obtain ⟨w1, w2, w3, w4, w5, w6⟩ := hw
  have hT : GoodIn (mcd μ :: XW) (wsV μ.1.cls idx μ'.1.cls μ'.1 (mcd μ' :: XW)) := by
    intro w h
    rcases List.mem_append.mp h with h | h
    · simp only [List.mem_cons, List.not_mem_nil, or_false] at h
      rcases h with rfl | rfl | rfl | rfl
      · exact XW_w w1
      · exact XW_w w2
      · exact XW_w w3
      · exact XW_w w4
    · exact XW_good w5 w h
  have hrecv := vk_recv hG.2.2.2.2.1 hi hS
  rw [← hc] at hrecv
  refine q_call (va_runV (C := μ'.1.cls) (bytes := μ'.2.1) (maxL := μ'.2.2.1) (ret := μ'.2.2.2.1) (As := As) (rest := rest) ⟨hx, hb, hml, hown, hts⟩ hE (cwV n hts hT rfl rfl rfl ⟨rfl, w6⟩ hrm.use) ⟨PV.blind, hrecv, (fun U hU hW => ⟨rfl, by rw [hU]; exact hP, hG.warm hU hW hS⟩)⟩ rfl hn hl.1 rfl (lv_room hcat) hd ⟨Nat.le_refl 0, Nat.le_refl 0⟩) hS (fun r1 hh1 H1 locs1 hq hP1 hS1 => k1 r1 hh1 hq p e s m args below meth c C H1 locs1 ls hP1 hS1 hl)
theorem R_callStrp {μ' : MI} {idx n i : Nat} {As rest st0 : List Value} {w : Int32} (hi : i < 9) (hd : decode μ.2.1 pc = .ok (.invokevirtual idx, 3)) (hw : cvOK μ.1.cls μ' idx n) (hrm : rmOK μ μ') (hE : EVp G μ' (.ref (kK G i) :: As) hh w) (hc : μ'.1.cls = "java/lang/String") (hn : As.length = n) (hst : st0 = As.reverse ++ .ref (kK G i) :: rest) (hcat : (rest.map fun v => v.category).sum ≤ 8) (k1 : RR G μ (pc + 3) lv (.int w :: rest) hh Q) : RR G μ pc lv st0 hh Q :=
  R_callStr hi hd hw hrm hE hc hn hst hcat (fun r1 h ⟨v, e, e1, e2⟩ => by subst e; subst e1; subst e2; exact k1)
end Str
theorem e_coder (G : GG) (hh : HH) (i : Nat) (hi : i < 9) : EVp G mJ0_coder_7d493 [.ref (kK G i)] hh 0 := by
  refine EV.of [(0, .ref (kK G i))] (by decide +kernel) (Nat.le_of_ble_eq_true rfl) rfl ?_
  refine R_getsCS rfl dJ0_coder_7d493_0 ?_
  refine R_if_eq (tgt := 13) dJ0_coder_7d493_3 (by decide) (fun c => absurd c (by decide)) (fun c => ?_)
  refine R_aload_n dJ0_coder_7d493_6 rfl ?_
  refine R_strCoder hi rfl dJ0_coder_7d493_7 ?_
  refine R_goto (tgt := 14) dJ0_coder_7d493_10 (by decide) ?_
  exact R_nret dJ0_coder_7d493_14 rfl rfl ⟨_, rfl, rfl, rfl⟩
theorem lenS_lt : ∀ i, i < 9 → lenS.getD i 0 < 7 := by decide +kernel
theorem shr0 {n : Nat} (h : n < 7) : nI n >>> ((0 : Int32) &&& 31) = nI n := by
  rcases (show n = 0 ∨ n = 1 ∨ n = 2 ∨ n = 3 ∨ n = 4 ∨ n = 5 ∨ n = 6 by omega) with rfl | rfl | rfl | rfl | rfl | rfl | rfl <;> decide
theorem e_strLen (G : GG) (hh : HH) (i : Nat) (hi : i < 9) : EVp G mJ0_length_8abf5 [.ref (kK G i)] hh (nI (lenS.getD i 0)) := by
  refine EV.of [(0, .ref (kK G i))] (by decide +kernel) (Nat.le_of_ble_eq_true rfl) rfl ?_
  refine R_aload_n dJ0_length_8abf5_0 rfl ?_
  refine R_strVal hi rfl dJ0_length_8abf5_1 ?_
  refine R_blen hi dJ0_length_8abf5_4 ?_
  refine R_aload_n dJ0_length_8abf5_5 rfl ?_
  refine R_callStrp hi dJ0_length_8abf5_6 cv_J0_335 ⟨by decide, by decide⟩ (e_coder G hh i hi) rfl rfl rfl (Nat.le_of_ble_eq_true rfl) ?_
  refine R_ishr dJ0_length_8abf5_9 ?_
  exact R_iret dJ0_length_8abf5_10 rfl ⟨_, rfl, shr0 (lenS_lt i hi), rfl⟩
theorem e_isLatin1 (G : GG) (hh : HH) (i : Nat) (hi : i < 9) : EVp G mJ0_isLatin1_aae02 [.ref (kK G i)] hh 1 := by
  refine EV.of [(0, .ref (kK G i))] (by decide +kernel) (Nat.le_of_ble_eq_true rfl) rfl ?_
  refine R_getsCS rfl dJ0_isLatin1_aae02_0 ?_
  refine R_if_eq (tgt := 17) dJ0_isLatin1_aae02_3 (by decide) (fun c => absurd c (by decide)) (fun c => ?_)
  refine R_aload_n dJ0_isLatin1_aae02_6 rfl ?_
  refine R_strCoder hi rfl dJ0_isLatin1_aae02_7 ?_
  refine R_if_ne (tgt := 17) dJ0_isLatin1_aae02_10 (by decide) (fun c => absurd rfl c) (fun c => ?_)
  refine R_iconst (v := 1) dJ0_isLatin1_aae02_13 (by decide) ?_
  refine R_goto (tgt := 18) dJ0_isLatin1_aae02_14 (by decide) ?_
  exact R_zret dJ0_isLatin1_aae02_18 rfl (Or.inr rfl) ⟨_, rfl, rfl, rfl⟩
theorem e_preCheck (G : GG) (hh : HH) (j n : Nat) (hj : j < n) (hn : n < 2 ^ 31) (z : Value) (hz : z = .null ∨ ∃ t, z = .ref t) : EVp G mJ3_checkIndex_8e157 [.int (nI j), .int (nI n), z] hh (nI j) := by
  have key : ∀ w : Value, (lg_sl [.int (nI j), .int (nI n), w]).length ≤ 3 → lv_args 0 [.int (nI j), .int (nI n), w] = [(0, .int (nI j)), (1, .int (nI n)), (2, w)] → EVp G mJ3_checkIndex_8e157 [.int (nI j), .int (nI n), w] hh (nI j) := by
    intro w hw1 hw2
    refine EV.of [(0, .int (nI j)), (1, .int (nI n)), (2, w)] (by decide +kernel) hw1 hw2 ?_
    refine R_iload_n dJ3_checkIndex_8e157_0 rfl ?_
    refine R_if_lt (tgt := 9) dJ3_checkIndex_8e157_1 (by decide) (fun c => absurd c (nI_pos (by omega))) (fun c => ?_)
    refine R_iload_n dJ3_checkIndex_8e157_4 rfl ?_
    refine R_iload_n dJ3_checkIndex_8e157_5 rfl ?_
    refine R_icmp_lt (tgt := 16) dJ3_checkIndex_8e157_6 (by decide) (fun c => ?_) (fun c => absurd (nI_lt hj hn) c)
    refine R_iload_n dJ3_checkIndex_8e157_16 rfl ?_
    exact R_iret dJ3_checkIndex_8e157_17 rfl ⟨_, rfl, rfl, rfl⟩
  rcases hz with rfl | ⟨t, rfl⟩
  · exact key _ (Nat.le_of_ble_eq_true rfl) rfl
  · exact key _ (Nat.le_of_ble_eq_true rfl) rfl
theorem e_strCheck (G : GG) (hh : HH) (j n : Nat) (hj : j < n) (hn : n < 2 ^ 31) : EVv G mJ0_checkIndex_df160 [.int (nI j), .int (nI n)] hh (fun h1 => h1 = hh) := by
  refine EV.of [(0, .int (nI j)), (1, .int (nI n))] (by decide +kernel) (Nat.le_of_ble_eq_true rfl) rfl ?_
  refine R_iload_n dJ0_checkIndex_df160_0 rfl ?_
  refine R_iload_n dJ0_checkIndex_df160_1 rfl ?_
  refine R_getsSF rfl dJ0_checkIndex_df160_2 (fun z hz => ?_)
  refine R_callSp dJ0_checkIndex_df160_5 cs_J0_1059 ⟨by decide, by decide⟩ (e_preCheck G hh j n hj hn z hz) rfl rfl (Nat.le_of_ble_eq_true rfl) ?_
  refine R_pop dJ0_checkIndex_df160_8 rfl ?_
  exact R_vret dJ0_checkIndex_df160_9 rfl ⟨rfl, rfl⟩
def chS (i j : Nat) : Int32 := (bytS.getD i []).getD j 0
theorem chS_ok : ∀ i, i < 9 → ∀ j, j < lenS.getD i 0 → (((chS i j &&& 255).toUInt32 % 65536).toInt32 = chS i j ∧ narrow .char (.int (chS i j)) = .int (chS i j)) := by decide +kernel
theorem e_latAt (G : GG) (hh : HH) (i j : Nat) (hi : i < 9) (hj : j < lenS.getD i 0) : EVp G mJ1_charAt_3b067 [.ref (kV G i), .int (nI j)] hh (chS i j) := by
  have hl := lenS_lt i hi
  obtain ⟨e1, e2⟩ := chS_ok i hi j hj
  refine EV.of [(0, .ref (kV G i)), (1, .int (nI j))] (by decide +kernel) (Nat.le_of_ble_eq_true rfl) rfl ?_
  refine R_iload_n dJ1_charAt_3b067_0 rfl ?_
  refine R_aload_n dJ1_charAt_3b067_1 rfl ?_
  refine R_blen hi dJ1_charAt_3b067_2 ?_
  refine R_callSv dJ1_charAt_3b067_3 cs_J1_9 ⟨by decide, by decide⟩ (e_strCheck G hh j _ hj (by omega)) rfl rfl (Nat.le_of_ble_eq_true rfl) (fun h e => ?_)
  subst e
  refine R_aload_n dJ1_charAt_3b067_6 rfl ?_
  refine R_iload_n dJ1_charAt_3b067_7 rfl ?_
  refine R_bald hi hj (by omega) dJ1_charAt_3b067_8 ?_
  refine R_sipush (v := 255) dJ1_charAt_3b067_9 (by decide) ?_
  refine R_iand dJ1_charAt_3b067_12 ?_
  refine R_i2c dJ1_charAt_3b067_13 ?_
  refine RR.top (y := chS i j) e1 ?_
  exact R_nret dJ1_charAt_3b067_14 rfl e2 ⟨_, rfl, rfl, rfl⟩
theorem e_charAt (G : GG) (hh : HH) (i j : Nat) (hi : i < 9) (hj : j < lenS.getD i 0) : EVp G mJ0_charAt_5068e [.ref (kK G i), .int (nI j)] hh (chS i j) := by
  refine EV.of [(0, .ref (kK G i)), (1, .int (nI j))] (by decide +kernel) (Nat.le_of_ble_eq_true rfl) rfl ?_
  refine R_aload_n dJ0_charAt_5068e_0 rfl ?_
  refine R_callStrp hi dJ0_charAt_5068e_1 cv_J0_492 ⟨by decide, by decide⟩ (e_isLatin1 G hh i hi) rfl rfl rfl (Nat.le_of_ble_eq_true rfl) ?_
  refine R_if_eq (tgt := 16) dJ0_charAt_5068e_4 (by decide) (fun c => absurd c (by decide)) (fun c => ?_)
  refine R_aload_n dJ0_charAt_5068e_7 rfl ?_
  refine R_strVal hi rfl dJ0_charAt_5068e_8 ?_
  refine R_iload_n dJ0_charAt_5068e_11 rfl ?_
  refine R_callSp dJ0_charAt_5068e_12 cs_J0_495 ⟨by decide, by decide⟩ (e_latAt G hh i j hi hj) rfl rfl (Nat.le_of_ble_eq_true rfl) ?_
  exact R_nret dJ0_charAt_5068e_15 rfl (chS_ok i hi j hj).2 ⟨_, rfl, rfl, rfl⟩
/-- the name of a rule is the text 5 + r -/
theorem e_ruleName (G : GG) (hh : HH) (r : Nat) (hr : r < 4) : EVr G mX4_ruleName [.int (nI r)] hh (fun v h => v = kK G (5 + r) ∧ h = hh) := by
  refine EV.of [(0, .int (nI r))] (by decide +kernel) (Nat.le_of_ble_eq_true rfl) rfl ?_
  refine R_iload_n dX4_ruleName_0 rfl ?_
  rcases (show r = 0 ∨ r = 1 ∨ r = 2 ∨ r = 3 by omega) with rfl | rfl | rfl | rfl
  · refine R_tabIn (tgt := 28) (off := 27) dX4_ruleName_1 (by decide) (by decide) (by rfl) (by decide) ?_
    refine R_ldcS (i := 5) (tx := "plain") dX4_ruleName_28 rfl ?_
    exact R_aret dX4_ruleName_30 rfl ⟨_, rfl, rfl, rfl⟩
  · refine R_tabIn (tgt := 31) (off := 30) dX4_ruleName_1 (by decide) (by decide) (by rfl) (by decide) ?_
    refine R_ldcS (i := 6) (tx := "versed") dX4_ruleName_31 rfl ?_
    exact R_aret dX4_ruleName_33 rfl ⟨_, rfl, rfl, rfl⟩
  · refine R_tabIn (tgt := 34) (off := 33) dX4_ruleName_1 (by decide) (by decide) (by rfl) (by decide) ?_
    refine R_ldcS (i := 7) (tx := "owing") dX4_ruleName_34 rfl ?_
    exact R_aret dX4_ruleName_36 rfl ⟨_, rfl, rfl, rfl⟩
  · refine R_tabOut (tgt := 37) dX4_ruleName_1 (by decide) (by decide) ?_
    refine R_ldcSW (i := 8) (tx := "both") dX4_ruleName_37 rfl ?_
    exact R_aret dX4_ruleName_40 rfl ⟨_, rfl, rfl, rfl⟩
