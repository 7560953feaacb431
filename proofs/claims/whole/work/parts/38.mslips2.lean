set_option maxRecDepth 4000 in
theorem l_cut (G : GG) (hh0 : HH) {k : Nat} {a : AA} {v : VV} {i q u L : Nat} (hi : i < 3) (hqu : q ≤ u) (huL : u ≤ L) (hL : L ≤ 40) (hs : a 9 i = nI L) : ∀ (d c : Nat) (hh : HH), u + c + d = L → MdAt G hh k (va_up a 10 (cpR (a 10) (40 * i + u) (40 * i + q) c)) v → Fr k (k + 11) hh0 hh → RR G mX5_cut 47 [(0, .ref (ad G k)), (1, .int (nI i)), (2, .int (nI q)), (3, .int (nI u)), (4, .int (nI (u + c)))] [] hh (fun r h1 => ∃ w, r = some (.int w) ∧ (w = nI (L - (u - q)) ∧ MdAt G h1 k (va_up (va_up a 10 (cpR (a 10) (40 * i + u) (40 * i + q) (L - u))) 9 (upd (a 9) i (nI (L - (u - q))))) v ∧ Fr k (k + 11) hh0 h1)) := by
  intro d
  induction d with
  | zero =>
    intro c hh hd h hF
    refine R_iload dX5_cut_47 rfl ?_
    refine R_aload_n dX5_cut_49 rfl ?_
    refine R_get dX5_cut_50 gf_X5_26 h.1 rfl ?_
    refine R_iload_n dX5_cut_53 rfl ?_
    refine R_ialdN dX5_cut_54 h.a9 (by first | omega | decide) (by decide) ?_
    refine RR.top (y := nI (L)) (hs) ?_
    refine R_icmp_ge (tgt := 92) dX5_cut_55 (by decide) (fun c55 => ?_) (fun c55 => absurd (nI_le (by omega) (by omega)) c55)
    have e : c = L - u := by omega
    subst e
    refine R_aload_n dX5_cut_92 rfl ?_
    refine R_get dX5_cut_93 gf_X5_26 h.1 rfl ?_
    refine R_iload_n dX5_cut_96 rfl ?_
    refine R_dup2 dX5_cut_97 rfl rfl ?_
    refine R_ialdN dX5_cut_98 h.a9 (by first | omega | decide) (by decide) ?_
    refine RR.top (y := nI (L)) (hs) ?_
    refine R_iload_n dX5_cut_99 rfl ?_
    refine R_iload_n dX5_cut_100 rfl ?_
    refine R_isub dX5_cut_101 ?_
    refine RR.top (y := nI (u - q)) (pk_sub (a := u) (b := q) (by omega)) ?_
    refine R_isub dX5_cut_102 ?_
    refine RR.top (y := nI (L - (u - q))) (pk_sub (a := L) (b := u - q) (by omega)) ?_
    refine Md_ast9N dX5_cut_103 h (by first | omega | decide) (fun hh h hF1 => ?_)
    have hF := hF.tr hF1 (by omega) (by omega)
    refine R_aload_n dX5_cut_104 rfl ?_
    refine R_get dX5_cut_105 gf_X5_26 h.1 rfl ?_
    refine R_iload_n dX5_cut_108 rfl ?_
    refine R_ialdN dX5_cut_109 h.a9 (by first | omega | decide) (by decide) ?_
    refine RR.top (y := nI (L - (u - q))) pk_us ?_
    exact R_iret dX5_cut_110 rfl (⟨_, rfl, rfl, h, hF⟩)
  | succ d ih =>
    intro c hh hd h hF
    refine R_iload dX5_cut_47 rfl ?_
    refine R_aload_n dX5_cut_49 rfl ?_
    refine R_get dX5_cut_50 gf_X5_26 h.1 rfl ?_
    refine R_iload_n dX5_cut_53 rfl ?_
    refine R_ialdN dX5_cut_54 h.a9 (by first | omega | decide) (by decide) ?_
    refine RR.top (y := nI (L)) (hs) ?_
    refine R_icmp_ge (tgt := 92) dX5_cut_55 (by decide) (fun c55 => absurd c55 (nI_ge (by omega) (by omega))) (fun c55 => ?_)
    refine R_aload_n dX5_cut_58 rfl ?_
    refine R_get dX5_cut_59 gf_X5_29 h.1 rfl ?_
    refine R_bipush (v := 40) dX5_cut_62 (by decide) ?_
    refine R_iload_n dX5_cut_64 rfl ?_
    refine R_imul dX5_cut_65 ?_
    refine RR.top (y := nI (40 * i)) (pk_mul (40) (i)) ?_
    refine R_iload_n dX5_cut_66 rfl ?_
    refine R_iadd dX5_cut_67 ?_
    refine RR.top (y := nI ((40 * i) + q)) (nI_add (40 * i) (q)) ?_
    refine R_iload dX5_cut_68 rfl ?_
    refine R_iadd dX5_cut_70 ?_
    refine RR.top (y := nI (((40 * i) + q) + ((u + c)))) (nI_add ((40 * i) + q) ((u + c))) ?_
    refine R_iload_n dX5_cut_71 rfl ?_
    refine R_isub dX5_cut_72 ?_
    refine RR.top (y := nI ((((40 * i) + q) + ((u + c))) - u)) (pk_sub (a := ((40 * i) + q) + ((u + c))) (b := u) (by omega)) ?_
    refine RR.top (y := nI (40 * i + q + c)) (by rw [show 40 * i + q + (u + c) - u = 40 * i + q + c by omega]) ?_
    refine R_aload_n dX5_cut_73 rfl ?_
    refine R_get dX5_cut_74 gf_X5_29 h.1 rfl ?_
    refine R_bipush (v := 40) dX5_cut_77 (by decide) ?_
    refine R_iload_n dX5_cut_79 rfl ?_
    refine R_imul dX5_cut_80 ?_
    refine RR.top (y := nI (40 * i)) (pk_mul (40) (i)) ?_
    refine R_iload dX5_cut_81 rfl ?_
    refine R_iadd dX5_cut_83 ?_
    refine RR.top (y := nI ((40 * i) + ((u + c)))) (nI_add (40 * i) ((u + c))) ?_
    refine RR.top (y := nI (40 * i + u + c)) (by rw [show 40 * i + (u + c) = 40 * i + u + c by omega]) ?_
    refine R_ialdN dX5_cut_84 h.a10 (by first | omega | decide) (by decide) ?_
    refine Md_ast10N dX5_cut_85 h (by first | omega | decide) (fun hh h hF1 => ?_)
    have hF := hF.tr hF1 (by omega) (by omega)
    refine R_iinc (y := nI ((u + c) + 1)) dX5_cut_86 rfl (by decide) (nI_s ((u + c))) ?_
    refine R_goto (tgt := 47) dX5_cut_89 (by decide) ?_
    have h := h.cg (a' := va_up a 10 (cpR (a 10) (40 * i + u) (40 * i + q) (c + 1))) (by rw [bx_uu, ← cpR_d (show 40 * i + q ≤ 40 * i + u by omega)]; rfl) rfl
    exact RR.pick [1, 2, 3, 4, 0] rfl (ih (c + 1) hh (by omega) h hF)
set_option maxRecDepth 4000 in
theorem m_cut (G : GG) (hh : HH) {k : Nat} {a : AA} {v : VV} (h : MdAt G hh k a v) {b : Nat → Bool} {lL : Nat → Nat} (hS : ∀ t, t < 3 → a 9 t = szI (b t) (lL t)) (hlL : ∀ t, t < 3 → lL t ≤ 40) (t y x : Int32) : EVi G mX5_cut [.ref (ad G k), .int t, .int y, .int x] hh (fun w h1 => match erCut b lL t y x with | some e => w = e ∧ h1 = hh | none => w = nI (lL t.toNatClampNeg - (x.toNatClampNeg - y.toNatClampNeg)) ∧ MdAt G h1 k (va_up (va_up a 10 (cpR (a 10) (40 * t.toNatClampNeg + x.toNatClampNeg) (40 * t.toNatClampNeg + y.toNatClampNeg) (lL t.toNatClampNeg - x.toNatClampNeg))) 9 (upd (a 9) t.toNatClampNeg (nI (lL t.toNatClampNeg - (x.toNatClampNeg - y.toNatClampNeg))))) v ∧ Fr k (k + 11) hh h1) := by
  refine EV.of [(0, .ref (ad G k)), (1, .int t), (2, .int y), (3, .int x)] (by decide +kernel) (Nat.le_of_ble_eq_true rfl) rfl ?_
  refine R_iload_n dX5_cut_0 rfl ?_
  refine R_callSp dX5_cut_1 cs_X5_210 ⟨by decide, by decide⟩ (d_isSlip G hh t) rfl rfl (Nat.le_of_ble_eq_true rfl) ?_
  refine R_if_ne (tgt := 10) dX5_cut_4 (by decide) (fun c4 => ?_) (fun c4 => ?_)
  · have hj : 0 ≤ t ∧ t < 3 := dt c4
    obtain ⟨i, hi, rfl⟩ := ix_in (n := 3) (by omega) (Int32.not_lt.mpr hj.1) hj.2
    have ec : (nI i).toNatClampNeg = i := nI_clamp (by omega)
    have hSi := hS i hi
    have hLi := hlL i hi
    refine R_aload_n dX5_cut_10 rfl ?_
    refine R_get dX5_cut_11 gf_X5_26 h.1 rfl ?_
    refine R_iload_n dX5_cut_14 rfl ?_
    refine R_ialdN dX5_cut_15 h.a9 (by first | omega | decide) (by decide) ?_
    refine R_if_ge (tgt := 22) dX5_cut_16 (by decide) (fun c16 => ?_) (fun c16 => ?_)
    · have hbt := sz_t hSi c16
      have es := sz_e hSi hbt
      refine R_iload_n dX5_cut_22 rfl ?_
      refine R_if_lt (tgt := 41) dX5_cut_23 (by decide) (fun c23 => ?_) (fun c23 => ?_)
      · refine R_bipush (v := (-12)) dX5_cut_41 (by decide) ?_
        exact R_iret dX5_cut_43 rfl (⟨_, rfl, by (have hE : erCut b lL (nI i) y x = some (-12) := by (unfold erCut; simp only [ec]; rw [if_pos hj, if_pos hbt, if_neg (fun q9 => q9.1 c23)])); (rw [hE]); exact ⟨rfl, rfl⟩⟩)
      · refine R_iload_n dX5_cut_26 rfl ?_
        refine R_iload_n dX5_cut_27 rfl ?_
        refine R_icmp_lt (tgt := 41) dX5_cut_28 (by decide) (fun c28 => ?_) (fun c28 => ?_)
        · refine R_bipush (v := (-12)) dX5_cut_41 (by decide) ?_
          exact R_iret dX5_cut_43 rfl (⟨_, rfl, by (have hE : erCut b lL (nI i) y x = some (-12) := by (unfold erCut; simp only [ec]; rw [if_pos hj, if_pos hbt, if_neg (fun q9 => q9.2.1 c28)])); (rw [hE]); exact ⟨rfl, rfl⟩⟩)
        · refine R_iload_n dX5_cut_31 rfl ?_
          refine R_aload_n dX5_cut_32 rfl ?_
          refine R_get dX5_cut_33 gf_X5_26 h.1 rfl ?_
          refine R_iload_n dX5_cut_36 rfl ?_
          refine R_ialdN dX5_cut_37 h.a9 (by first | omega | decide) (by decide) ?_
          refine RR.top (y := nI (lL i)) (es) ?_
          refine R_icmp_le (tgt := 44) dX5_cut_38 (by decide) (fun c38 => ?_) (fun c38 => ?_)
          · obtain ⟨u, hu2, rfl⟩ := ix_in (n := lL i + 1) (by omega) (fun r => c23 (Int32.lt_of_le_of_lt (Int32.not_lt.mp c28) r)) (Int32.lt_of_le_of_lt c38 ((nI_ltI (by omega) (by omega)).mpr (Nat.lt_succ_self _)))
            obtain ⟨q, hq2, rfl⟩ := ix_in (n := lL i + 1) (by omega) c23 (Int32.lt_of_le_of_lt (Int32.le_trans (Int32.not_lt.mp c28) c38) ((nI_ltI (by omega) (by omega)).mpr (Nat.lt_succ_self _)))
            have hqu : q ≤ u := (nI_leI (by omega) (by omega)).mp (Int32.not_lt.mp c28)
            have eq : (nI q).toNatClampNeg = q := nI_clamp (by omega)
            have eu : (nI u).toNatClampNeg = u := nI_clamp (by omega)
            refine R_iload_n dX5_cut_44 rfl ?_
            refine R_istore dX5_cut_45 (by decide) ?_
            have hE : erCut b lL (nI i) (nI q) (nI u) = none := by (unfold erCut; simp only [ec]; rw [if_pos hj, if_pos hbt, if_pos ⟨c23, c28, c38⟩])
            refine RR.pick [1, 2, 3, 4, 0] rfl ?_
            refine RR.post (l_cut G hh hi hqu (by omega) hLi es (lL i - u) 0 hh (by omega) (h.cg (by rw [cpR_0]; exact va_up_idX a 10) rfl) Fr.rf) (fun r h1 hq => ?_)
            obtain ⟨w, e1, e2, e3, e4⟩ := hq
            exact ⟨w, e1, by (rw [hE, ec, eq, eu]); exact ⟨e2, e3, e4⟩⟩
          · refine R_bipush (v := (-12)) dX5_cut_41 (by decide) ?_
            exact R_iret dX5_cut_43 rfl (⟨_, rfl, by (have hE : erCut b lL (nI i) y x = some (-12) := by (unfold erCut; simp only [ec]; rw [if_pos hj, if_pos hbt, if_neg (fun q9 => c38 q9.2.2)])); (rw [hE]); exact ⟨rfl, rfl⟩⟩)
    · refine R_bipush (v := (-11)) dX5_cut_19 (by decide) ?_
      exact R_iret dX5_cut_21 rfl (⟨_, rfl, by (have hE : erCut b lL (nI i) y x = some (-11) := by (unfold erCut; simp only [ec]; rw [if_pos hj, if_neg (sz_f hSi hLi c16)])); (rw [hE]); exact ⟨rfl, rfl⟩⟩)
  · refine R_bipush (v := (-2)) dX5_cut_7 (by decide) ?_
    exact R_iret dX5_cut_9 rfl (⟨_, rfl, by (have hE : erCut b lL t y x = some (-2) := by (unfold erCut; rw [if_neg (dfn c4)])); (rw [hE]); exact ⟨rfl, rfl⟩⟩)
set_option maxRecDepth 4000 in
theorem l_join (G : GG) (hh0 : HH) {k : Nat} {a : AA} {v : VV} {i u L M : Nat} (hi : i < 3) (hu : u < 3) (hLM : L + M ≤ 40) (hiu : i = u → M ≤ L) : ∀ (d c : Nat) (hh : HH), c + d = M → MdAt G hh k (va_up (va_up a 10 (cpR (a 10) (40 * u) (40 * i + L) c)) 9 (upd (a 9) i (nI (L + c)))) v → Fr k (k + 11) hh0 hh → RR G mX5_join 64 [(0, .ref (ad G k)), (1, .int (nI i)), (2, .int (nI u)), (3, .int (nI M)), (4, .int (nI c))] [] hh (fun r h1 => ∃ w, r = some (.int w) ∧ (w = nI (L + M) ∧ MdAt G h1 k (va_up (va_up a 10 (cpR (a 10) (40 * u) (40 * i + L) M)) 9 (upd (a 9) i (nI (L + M)))) v ∧ Fr k (k + 11) hh0 h1)) := by
  intro d
  induction d with
  | zero =>
    intro c hh hd h hF
    refine R_iload dX5_join_64 rfl ?_
    refine R_iload_n dX5_join_66 rfl ?_
    refine R_icmp_ge (tgt := 114) dX5_join_67 (by decide) (fun c67 => ?_) (fun c67 => absurd (nI_le (by omega) (by omega)) c67)
    have e : M = c := by omega
    subst e
    refine R_aload_n dX5_join_114 rfl ?_
    refine R_get dX5_join_115 gf_X5_26 h.1 rfl ?_
    refine R_iload_n dX5_join_118 rfl ?_
    refine R_ialdN dX5_join_119 h.a9 (by first | omega | decide) (by decide) ?_
    refine RR.top (y := nI (L + M)) pk_us ?_
    exact R_iret dX5_join_120 rfl (⟨_, rfl, rfl, h, hF⟩)
  | succ d ih =>
    intro c hh hd h hF
    refine R_iload dX5_join_64 rfl ?_
    refine R_iload_n dX5_join_66 rfl ?_
    refine R_icmp_ge (tgt := 114) dX5_join_67 (by decide) (fun c67 => absurd c67 (nI_ge (by omega) (by omega))) (fun c67 => ?_)
    refine R_aload_n dX5_join_70 rfl ?_
    refine R_get dX5_join_71 gf_X5_29 h.1 rfl ?_
    refine R_bipush (v := 40) dX5_join_74 (by decide) ?_
    refine R_iload_n dX5_join_76 rfl ?_
    refine R_imul dX5_join_77 ?_
    refine RR.top (y := nI (40 * i)) (pk_mul (40) (i)) ?_
    refine R_aload_n dX5_join_78 rfl ?_
    refine R_get dX5_join_79 gf_X5_26 h.1 rfl ?_
    refine R_iload_n dX5_join_82 rfl ?_
    refine R_ialdN dX5_join_83 h.a9 (by first | omega | decide) (by decide) ?_
    refine RR.top (y := nI (L + c)) (pk_us) ?_
    refine R_iadd dX5_join_84 ?_
    refine RR.top (y := nI ((40 * i) + (L + c))) (nI_add (40 * i) (L + c)) ?_
    refine RR.top (y := nI (40 * i + L + c)) (by rw [show 40 * i + (L + c) = 40 * i + L + c by omega]) ?_
    refine R_aload_n dX5_join_85 rfl ?_
    refine R_get dX5_join_86 gf_X5_29 h.1 rfl ?_
    refine R_bipush (v := 40) dX5_join_89 (by decide) ?_
    refine R_iload_n dX5_join_91 rfl ?_
    refine R_imul dX5_join_92 ?_
    refine RR.top (y := nI (40 * u)) (pk_mul (40) (u)) ?_
    refine R_iload dX5_join_93 rfl ?_
    refine R_iadd dX5_join_95 ?_
    refine RR.top (y := nI ((40 * u) + c)) (nI_add (40 * u) (c)) ?_
    refine R_ialdN dX5_join_96 h.a10 (by first | omega | decide) (by decide) ?_
    refine RR.top (y := a 10 (40 * u + c)) (cpR_out (by omega)) ?_
    refine Md_ast10N dX5_join_97 h (by first | omega | decide) (fun hh h hF1 => ?_)
    have hF := hF.tr hF1 (by omega) (by omega)
    refine R_aload_n dX5_join_98 rfl ?_
    refine R_get dX5_join_99 gf_X5_26 h.1 rfl ?_
    refine R_iload_n dX5_join_102 rfl ?_
    refine R_dup2 dX5_join_103 rfl rfl ?_
    refine R_ialdN dX5_join_104 h.a9 (by first | omega | decide) (by decide) ?_
    refine RR.top (y := nI (L + c)) (pk_us) ?_
    refine R_iconst (v := 1) dX5_join_105 (by decide) ?_
    refine R_iadd dX5_join_106 ?_
    refine RR.top (y := nI ((L + c) + 1)) (nI_add (L + c) (1)) ?_
    refine Md_ast9N dX5_join_107 h (by first | omega | decide) (fun hh h hF1 => ?_)
    have hF := hF.tr hF1 (by omega) (by omega)
    refine R_iinc (y := nI (c + 1)) dX5_join_108 rfl (by decide) (nI_s (c)) ?_
    refine R_goto (tgt := 64) dX5_join_111 (by decide) ?_
    have h := h.cg (a' := (va_up (va_up a 10 (cpR (a 10) (40 * u) (40 * i + L) (c + 1))) 9 (upd (a 9) i (nI (L + (c + 1)))))) (by
      funext f
      simp only [va_up]
      by_cases e9 : f = 9
      · subst e9
        rw [if_pos rfl, if_pos rfl]
        funext j
        unfold upd
        by_cases ej : j = i
        · rw [if_pos ej, if_pos ej]; rfl
        · rw [if_neg ej, if_neg ej, if_neg (by decide), if_pos trivial]
          exact if_neg ej
      · rw [if_neg e9, if_neg e9]
        by_cases e10 : f = 10
        · subst e10
          rw [if_pos rfl, if_pos rfl]
          exact cpR_u (a 10) (40 * u) (40 * i + L) c
        · rw [if_neg e10, if_neg e10, if_neg e9, if_neg e10]) rfl
    exact RR.pick [1, 2, 3, 4, 0] rfl (ih (c + 1) hh (by omega) h hF)
set_option maxRecDepth 4000 in
theorem m_join (G : GG) (hh : HH) {k : Nat} {a : AA} {v : VV} (h : MdAt G hh k a v) {b : Nat → Bool} {lL : Nat → Nat} (hS : ∀ t, t < 3 → a 9 t = szI (b t) (lL t)) (hlL : ∀ t, t < 3 → lL t ≤ 40) (t s : Int32) : EVi G mX5_join [.ref (ad G k), .int t, .int s] hh (fun w h1 => match erJoin b lL t s with | some e => w = e ∧ h1 = hh | none => w = nI (lL t.toNatClampNeg + lL s.toNatClampNeg) ∧ MdAt G h1 k (va_up (va_up a 10 (cpR (a 10) (40 * s.toNatClampNeg) (40 * t.toNatClampNeg + lL t.toNatClampNeg) (lL s.toNatClampNeg))) 9 (upd (a 9) t.toNatClampNeg (nI (lL t.toNatClampNeg + lL s.toNatClampNeg)))) v ∧ Fr k (k + 11) hh h1) := by
  refine EV.of [(0, .ref (ad G k)), (1, .int t), (2, .int s)] (by decide +kernel) (Nat.le_of_ble_eq_true rfl) rfl ?_
  refine R_iload_n dX5_join_0 rfl ?_
  refine R_callSp dX5_join_1 cs_X5_210 ⟨by decide, by decide⟩ (d_isSlip G hh t) rfl rfl (Nat.le_of_ble_eq_true rfl) ?_
  refine R_if_eq (tgt := 14) dX5_join_4 (by decide) (fun c4 => ?_) (fun c4 => ?_)
  · refine R_bipush (v := (-2)) dX5_join_14 (by decide) ?_
    exact R_iret dX5_join_16 rfl (⟨_, rfl, by (have hE : erJoin b lL t s = some (-2) := by (unfold erJoin; rw [if_neg (fun q9 => df c4 q9.1)])); (rw [hE]); exact ⟨rfl, rfl⟩⟩)
  · refine R_iload_n dX5_join_7 rfl ?_
    refine R_callSp dX5_join_8 cs_X5_210 ⟨by decide, by decide⟩ (d_isSlip G hh s) rfl rfl (Nat.le_of_ble_eq_true rfl) ?_
    refine R_if_ne (tgt := 17) dX5_join_11 (by decide) (fun c11 => ?_) (fun c11 => ?_)
    · have hj : 0 ≤ t ∧ t < 3 := dt c4
      obtain ⟨i, hi, rfl⟩ := ix_in (n := 3) (by omega) (Int32.not_lt.mpr hj.1) hj.2
      have ec : (nI i).toNatClampNeg = i := nI_clamp (by omega)
      have hSi := hS i hi
      have hLi := hlL i hi
      have hju : 0 ≤ s ∧ s < 3 := dt c11
      obtain ⟨u, hu, rfl⟩ := ix_in (n := 3) (by omega) (Int32.not_lt.mpr hju.1) hju.2
      have eu : (nI u).toNatClampNeg = u := nI_clamp (by omega)
      have hSu := hS u hu
      have hLu := hlL u hu
      refine R_aload_n dX5_join_17 rfl ?_
      refine R_get dX5_join_18 gf_X5_26 h.1 rfl ?_
      refine R_iload_n dX5_join_21 rfl ?_
      refine R_ialdN dX5_join_22 h.a9 (by first | omega | decide) (by decide) ?_
      refine R_if_lt (tgt := 35) dX5_join_23 (by decide) (fun c23 => ?_) (fun c23 => ?_)
      · refine R_bipush (v := (-11)) dX5_join_35 (by decide) ?_
        exact R_iret dX5_join_37 rfl (⟨_, rfl, by (have hE : erJoin b lL (nI i) (nI u) = some (-11) := by (unfold erJoin; simp only [ec, eu]; rw [if_pos ⟨hj, hju⟩, if_neg (fun q9 => sz_f hSi hLi (Int32.not_le.mpr c23) q9.1)])); (rw [hE]); exact ⟨rfl, rfl⟩⟩)
      · refine R_aload_n dX5_join_26 rfl ?_
        refine R_get dX5_join_27 gf_X5_26 h.1 rfl ?_
        refine R_iload_n dX5_join_30 rfl ?_
        refine R_ialdN dX5_join_31 h.a9 (by first | omega | decide) (by decide) ?_
        refine R_if_ge (tgt := 38) dX5_join_32 (by decide) (fun c32 => ?_) (fun c32 => ?_)
        · have hbt := sz_t hSi (Int32.not_lt.mp c23)
          have es := sz_e hSi hbt
          have hbu := sz_t hSu c32
          have esu := sz_e hSu hbu
          refine R_aload_n dX5_join_38 rfl ?_
          refine R_get dX5_join_39 gf_X5_26 h.1 rfl ?_
          refine R_iload_n dX5_join_42 rfl ?_
          refine R_ialdN dX5_join_43 h.a9 (by first | omega | decide) (by decide) ?_
          refine RR.top (y := nI (lL u)) (esu) ?_
          refine R_istore_n dX5_join_44 (by decide) ?_
          refine R_aload_n dX5_join_45 rfl ?_
          refine R_get dX5_join_46 gf_X5_26 h.1 rfl ?_
          refine R_iload_n dX5_join_49 rfl ?_
          refine R_ialdN dX5_join_50 h.a9 (by first | omega | decide) (by decide) ?_
          refine RR.top (y := nI (lL i)) (es) ?_
          refine R_iload_n dX5_join_51 rfl ?_
          refine R_iadd dX5_join_52 ?_
          refine RR.top (y := nI ((lL i) + (lL u))) (nI_add (lL i) (lL u)) ?_
          refine R_bipush (v := 40) dX5_join_53 (by decide) ?_
          refine R_icmp_le (tgt := 61) dX5_join_55 (by decide) (fun c55 => ?_) (fun c55 => ?_)
          · refine R_iconst (v := 0) dX5_join_61 (by decide) ?_
            refine R_istore dX5_join_62 (by decide) ?_
            have hLM : lL i + lL u ≤ 40 := (nI_leI (by omega) (by decide)).mp c55
            have hE : erJoin b lL (nI i) (nI u) = none := by (unfold erJoin; simp only [ec, eu]; rw [if_pos ⟨hj, hju⟩, if_pos ⟨hbt, hbu⟩, if_pos hLM])
            refine RR.pick [2, 3, 4, 1, 0] rfl ?_
            refine RR.post (l_join G hh hi hu hLM (fun e9 => by rw [e9]; exact Nat.le_refl _) (lL u) 0 hh (by omega) (h.cg (by
              rw [cpR_0, Nat.add_zero, ← es]
              funext f
              simp only [va_up]
              by_cases e9 : f = 9
              · subst e9
                rw [if_pos rfl]
                funext j
                unfold upd
                by_cases ej : j = i
                · rw [if_pos ej, ej]
                · rw [if_neg ej]
              · rw [if_neg e9]
                by_cases e10 : f = 10
                · subst e10; rw [if_pos rfl]
                · rw [if_neg e10]) rfl) Fr.rf) (fun r h1 hq => ?_)
            obtain ⟨w, e1, e2, e3, e4⟩ := hq
            exact ⟨w, e1, by (rw [hE, ec, eu]); exact ⟨e2, e3, e4⟩⟩
          · refine R_bipush (v := (-13)) dX5_join_58 (by decide) ?_
            exact R_iret dX5_join_60 rfl (⟨_, rfl, by (have hE : erJoin b lL (nI i) (nI u) = some (-13) := by (unfold erJoin; simp only [ec, eu]; rw [if_pos ⟨hj, hju⟩, if_pos ⟨hbt, hbu⟩, if_neg (fun q9 => c55 ((nI_leI (by omega) (by decide)).mpr q9))])); (rw [hE]); exact ⟨rfl, rfl⟩⟩)
        · refine R_bipush (v := (-11)) dX5_join_35 (by decide) ?_
          exact R_iret dX5_join_37 rfl (⟨_, rfl, by (have hE : erJoin b lL (nI i) (nI u) = some (-11) := by (unfold erJoin; simp only [ec, eu]; rw [if_pos ⟨hj, hju⟩, if_neg (fun q9 => sz_f hSu hLu c32 q9.2)])); (rw [hE]); exact ⟨rfl, rfl⟩⟩)
    · refine R_bipush (v := (-2)) dX5_join_14 (by decide) ?_
      exact R_iret dX5_join_16 rfl (⟨_, rfl, by (have hE : erJoin b lL t s = some (-2) := by (unfold erJoin; rw [if_neg (fun q9 => dfn c11 q9.2)])); (rw [hE]); exact ⟨rfl, rfl⟩⟩)
theorem d_in14 (G : GG) (hh : HH) {L : Nat} (hL : L ≤ 1000) (x : Nat) {y : Int64} (hy : y.toInt = (x : Int)) : EVp G mX5_in [.long (nI L).toInt64, .long 1, .long y] hh (bl (decide (1 ≤ L ∧ L ≤ x))) := by
  have e := e_inI G hh (nI L) (lo := 1) (hi := y) (l := 1) (r := (x : Int)) rfl hy
  rw [show inB (nI L).toInt 1 (x : Int) = decide (1 ≤ L ∧ L ≤ x) from by
    unfold inB
    rw [nI_toInt (by omega), decide_eq_decide]
    omega] at e
  exact e
/-- the reference's number: whether all digits so far, and the number -/
def vlF (f : Nat → Int32) : Nat → Nat → Bool → Int32 → Int32
  | _, 0, is, x => if is = true then x else -14
  | i, d + 1, is, x => if is = true then vlF f (i + 1) d (dgB (f i)) (10 * x + f i - 48) else -14
theorem vlF_f (f : Nat → Int32) : ∀ (d i : Nat) (x : Int32), vlF f i d false x = -14
  | 0, _, _ => rfl
  | _ + 1, _, _ => rfl
theorem dg_dif {y : Int32} : dgB y = true ↔ ¬ (y - 48 < 0 ∨ 9 < y - 48) := by
  unfold dgB
  rw [decide_eq_true_iff]
  rw [Int32.le_iff_toInt_le, Int32.le_iff_toInt_le, Int32.lt_iff_toInt_lt, Int32.lt_iff_toInt_lt, Int32.toInt_sub]
  have h1 := y.toInt_lt
  have h2 := y.le_toInt
  have e48 : (48 : Int32).toInt = 48 := rfl
  have e57 : (57 : Int32).toInt = 57 := rfl
  have e0 : (0 : Int32).toInt = 0 := rfl
  have e9 : (9 : Int32).toInt = 9 := rfl
  rw [e48, e57, e0, e9]
  rw [Int.bmod_def]
  split <;> omega
theorem vlF_num (f : Nat → Int32) : ∀ (d i : Nat) (x : Int32), (∀ j, i ≤ j → j < i + d → dgB (f j) = true) → vlF f i d true x = numF f i d x := by
  intro d
  induction d with
  | zero => intro i x _; rfl
  | succ d ih =>
    intro i x hA
    show vlF f (i + 1) d (dgB (f i)) (10 * x + f i - 48) = _
    have ex : 10 * x + f i - 48 = 10 * x + (f i - 48) := by rw [Int32.sub_eq_add_neg, Int32.sub_eq_add_neg, Int32.add_assoc]
    have hd := hA i (Nat.le_refl _) (by omega)
    rw [hd, ih (i + 1) _ (fun j h1 h2 => hA j (by omega) (by omega)), ex]
    exact (if_neg (dg_dif.mp hd)).symm
theorem vlF_bad (f : Nat → Int32) : ∀ (d i : Nat) (x : Int32), (∃ j, i ≤ j ∧ j < i + d ∧ ¬ dgB (f j) = true) → vlF f i d true x = -14 := by
  intro d
  induction d with
  | zero => rintro i x ⟨j, h1, h2, _⟩; omega
  | succ d ih =>
    rintro i x ⟨j, h1, h2, h3⟩
    show vlF f (i + 1) d (dgB (f i)) (10 * x + f i - 48) = _
    cases hd : dgB (f i)
    · exact vlF_f _ _ _ _
    · refine ih (i + 1) _ ⟨j, ?_, by omega, h3⟩
      rcases Nat.eq_or_lt_of_le h1 with e | e
      · subst e; exact absurd hd h3
      · exact e
theorem numF_bad {f : Nat → Int32} : ∀ (d i : Nat) (x : Int32), (∃ j, i ≤ j ∧ j < i + d ∧ ¬ dgB (f j) = true) → numF f i d x = -1
  | 0, _, _, ⟨j, h1, h2, _⟩ => by omega
  | d + 1, i, x, ⟨j, h1, h2, h3⟩ => by
    show (if f i - 48 < 0 ∨ 9 < f i - 48 then -1 else numF f (i + 1) d (10 * x + (f i - 48))) = -1
    by_cases q : f i - 48 < 0 ∨ 9 < f i - 48
    · rw [if_pos q]
    · rw [if_neg q]
      refine numF_bad d (i + 1) _ ⟨j, ?_, by omega, h3⟩
      rcases Nat.eq_or_lt_of_le h1 with e | e
      · subst e; exact absurd (dg_dif.mpr q) h3
      · exact e
theorem nI_nm1 {X : Nat} (h : X < 10 ^ 4) : ¬ nI X = -1 := fun e => by
  have e2 : (nI X).toInt = (-1 : Int32).toInt := by rw [e]
  rw [nI_toInt (by omega)] at e2
  have e3 : (-1 : Int32).toInt = -1 := rfl
  omega
theorem numF_ok {f : Nat → Int32} : ∀ (d i : Nat) (x : Int32), d ≤ 4 → (∃ X : Nat, x = nI X ∧ (X + 1) * 10 ^ d ≤ 10 ^ 4) → numF f i d x = -1 → ∃ j, i ≤ j ∧ j < i + d ∧ ¬ dgB (f j) = true
  | 0, _, _, _, ⟨X, e, h⟩, hn => absurd (e.symm.trans hn) (nI_nm1 (by omega))
  | d + 1, i, x, hd, ⟨X, e, h⟩, hn => by
    have hn : (if f i - 48 < 0 ∨ 9 < f i - 48 then -1 else numF f (i + 1) d (10 * x + (f i - 48))) = -1 := hn
    by_cases q : f i - 48 < 0 ∨ 9 < f i - 48
    · exact ⟨i, by omega, by omega, fun r => dg_dif.mp r q⟩
    · rw [if_neg q] at hn
      obtain ⟨D, hD, eD⟩ := nI_of2 (M := 9) (n := 9) rfl (fun r => q (Or.inl r)) (Int32.not_lt.mp (fun r => q (Or.inr r)))
      obtain ⟨j, h1, h2, h3⟩ := numF_ok d (i + 1) _ (by omega) ⟨10 * X + D, by rw [e, eD, show (10 : Int32) = nI 10 from rfl, pk_mul, nI_add], by
        have e10 : 10 ^ (d + 1) = 10 ^ d * 10 := Nat.pow_succ ..
        calc (10 * X + D + 1) * 10 ^ d ≤ (10 * (X + 1)) * 10 ^ d := Nat.mul_le_mul_right _ (by omega)
          _ = (X + 1) * 10 ^ (d + 1) := by rw [e10, Nat.mul_comm 10 (X + 1), Nat.mul_assoc, Nat.mul_comm 10]
          _ ≤ 10 ^ 4 := h⟩ hn
      exact ⟨j, by omega, by omega, h3⟩
theorem val_eq (f : Nat → Int32) (L : Nat) : vlF f 0 L (decide (1 ≤ L ∧ L ≤ 4)) 0 = if numOf f 0 L 4 = -1 then -14 else numOf f 0 L 4 := by
  by_cases q : 1 ≤ L ∧ L ≤ 4
  · rw [decide_eq_true q, show numOf f 0 L 4 = numF f 0 L 0 from (by unfold numOf; rw [if_neg (by omega), Nat.sub_zero])]
    by_cases r : ∃ j, 0 ≤ j ∧ j < 0 + L ∧ ¬ dgB (f j) = true
    · rw [vlF_bad f L 0 0 r, numF_bad L 0 0 r, if_pos rfl]
    · rw [vlF_num f L 0 0 (fun j h1 h2 => Classical.byContradiction (fun h3 => r ⟨j, h1, h2, h3⟩))]
      by_cases e : numF f 0 L 0 = -1
      · exfalso
        exact r (numF_ok L 0 0 q.2 ⟨0, rfl, by have := Nat.pow_le_pow_right (show 0 < 10 by decide) q.2; omega⟩ e)
      · rw [if_neg e]
  · rw [decide_eq_false q, vlF_f, show numOf f 0 L 4 = -1 from (by unfold numOf; rw [if_pos (by omega)]), if_pos rfl]
set_option maxRecDepth 4000 in
theorem l_mvalue (G : GG) (hh : HH) {k : Nat} {a : AA} {v : VV} (h : MdAt G hh k a v) {i L : Nat} (hi : i < 3) (hL : L ≤ 40) (hs : a 9 i = nI L) : ∀ (d c : Nat) (is : Bool) (x : Int32), c + d = L → RR G mX5_value 42 [(0, .ref (ad G k)), (1, .int (nI i)), (2, .int (bl is)), (3, .int x), (4, .int (nI c))] [] hh (fun r h1 => ∃ w, r = some (.int w) ∧ (w = vlF (mL a i) c d is x ∧ h1 = hh)) := by
  intro d
  induction d with
  | zero =>
    intro c is x hd
    refine R_iload dX5_value_42 rfl ?_
    refine R_aload_n dX5_value_44 rfl ?_
    refine R_get dX5_value_45 gf_X5_26 h.1 rfl ?_
    refine R_iload_n dX5_value_48 rfl ?_
    refine R_ialdN dX5_value_49 h.a9 (by first | omega | decide) (by decide) ?_
    refine RR.top (y := nI (L)) (hs) ?_
    refine R_icmp_ge (tgt := 100) dX5_value_50 (by decide) (fun c50 => ?_) (fun c50 => absurd (nI_le (by omega) (by omega)) c50)
    refine R_iload_n dX5_value_100 rfl ?_
    refine R_if_eq (tgt := 108) dX5_value_101 (by decide) (fun c101 => ?_) (fun c101 => ?_)
    · refine R_bipush (v := (-14)) dX5_value_108 (by decide) ?_
      exact R_iret dX5_value_110 rfl (⟨_, rfl, (if_neg (bl_f c101)).symm, rfl⟩)
    · refine R_iload_n dX5_value_104 rfl ?_
      refine R_goto (tgt := 110) dX5_value_105 (by decide) ?_
      exact R_iret dX5_value_110 rfl (⟨_, rfl, (if_pos (bl_t c101)).symm, rfl⟩)
  | succ d ih =>
    intro c is x hd
    refine R_iload dX5_value_42 rfl ?_
    refine R_aload_n dX5_value_44 rfl ?_
    refine R_get dX5_value_45 gf_X5_26 h.1 rfl ?_
    refine R_iload_n dX5_value_48 rfl ?_
    refine R_ialdN dX5_value_49 h.a9 (by first | omega | decide) (by decide) ?_
    refine RR.top (y := nI (L)) (hs) ?_
    refine R_icmp_ge (tgt := 100) dX5_value_50 (by decide) (fun c50 => absurd c50 (nI_ge (by omega) (by omega))) (fun c50 => ?_)
    refine R_iload_n dX5_value_53 rfl ?_
    refine R_if_eq (tgt := 100) dX5_value_54 (by decide) (fun c54 => ?_) (fun c54 => ?_)
    · refine R_iload_n dX5_value_100 rfl ?_
      refine R_if_eq (tgt := 108) dX5_value_101 (by decide) (fun c101 => ?_) (fun c101 => absurd c54 c101)
      refine R_bipush (v := (-14)) dX5_value_108 (by decide) ?_
      exact R_iret dX5_value_110 rfl (⟨_, rfl, by rw [show is = false from Bool.eq_false_iff.mpr (bl_f c54)]; rfl, rfl⟩)
    · refine R_aload_n dX5_value_57 rfl ?_
      refine R_get dX5_value_58 gf_X5_29 h.1 rfl ?_
      refine R_bipush (v := 40) dX5_value_61 (by decide) ?_
      refine R_iload_n dX5_value_63 rfl ?_
      refine R_imul dX5_value_64 ?_
      refine RR.top (y := nI (40 * i)) (pk_mul (40) (i)) ?_
      refine R_iload dX5_value_65 rfl ?_
      refine R_iadd dX5_value_67 ?_
      refine RR.top (y := nI ((40 * i) + c)) (nI_add (40 * i) (c)) ?_
      refine R_ialdN dX5_value_68 h.a10 (by first | omega | decide) (by decide) ?_
      refine R_callSp dX5_value_69 cs_X5_82 ⟨by decide, by decide⟩ (d_isDigit G hh (a 10 (40 * i + c))) rfl rfl (Nat.le_of_ble_eq_true rfl) ?_
      refine R_istore_n dX5_value_72 (by decide) ?_
      refine R_bipush (v := 10) dX5_value_73 (by decide) ?_
      refine R_iload_n dX5_value_75 rfl ?_
      refine R_imul dX5_value_76 ?_
      refine R_aload_n dX5_value_77 rfl ?_
      refine R_get dX5_value_78 gf_X5_29 h.1 rfl ?_
      refine R_bipush (v := 40) dX5_value_81 (by decide) ?_
      refine R_iload_n dX5_value_83 rfl ?_
      refine R_imul dX5_value_84 ?_
      refine RR.top (y := nI (40 * i)) (pk_mul (40) (i)) ?_
      refine R_iload dX5_value_85 rfl ?_
      refine R_iadd dX5_value_87 ?_
      refine RR.top (y := nI ((40 * i) + c)) (nI_add (40 * i) (c)) ?_
      refine R_ialdN dX5_value_88 h.a10 (by first | omega | decide) (by decide) ?_
      refine R_iadd dX5_value_89 ?_
      refine R_bipush (v := 48) dX5_value_90 (by decide) ?_
      refine R_isub dX5_value_92 ?_
      refine R_istore_n dX5_value_93 (by decide) ?_
      refine R_iinc (y := nI (c + 1)) dX5_value_94 rfl (by decide) (nI_s (c)) ?_
      refine R_goto (tgt := 42) dX5_value_97 (by decide) ?_
      have e9 : vlF (mL a i) c (d + 1) is x = vlF (mL a i) (c + 1) d (dgB (a 10 (40 * i + c))) (10 * x + a 10 (40 * i + c) - 48) := if_pos (bl_t c54)
      rw [e9]
      exact RR.pick [3, 4, 2, 1, 0] rfl (ih (c + 1) _ _ (by omega))
set_option maxRecDepth 4000 in
theorem m_value (G : GG) (hh : HH) {k : Nat} {a : AA} {v : VV} (h : MdAt G hh k a v) {b : Nat → Bool} {lL : Nat → Nat} (hS : ∀ t, t < 3 → a 9 t = szI (b t) (lL t)) (hlL : ∀ t, t < 3 → lL t ≤ 40) (t : Int32) : EVp G mX5_value [.ref (ad G k), .int t] hh (anValue b (mL a) lL t) := by
  refine EV.of [(0, .ref (ad G k)), (1, .int t)] (by decide +kernel) (Nat.le_of_ble_eq_true rfl) rfl ?_
  refine R_iload_n dX5_value_0 rfl ?_
  refine R_callSp dX5_value_1 cs_X5_210 ⟨by decide, by decide⟩ (d_isSlip G hh t) rfl rfl (Nat.le_of_ble_eq_true rfl) ?_
  refine R_if_ne (tgt := 10) dX5_value_4 (by decide) (fun c4 => ?_) (fun c4 => ?_)
  · have hj : 0 ≤ t ∧ t < 3 := dt c4
    obtain ⟨i, hi, rfl⟩ := ix_in (n := 3) (by omega) (Int32.not_lt.mpr hj.1) hj.2
    have ec : (nI i).toNatClampNeg = i := nI_clamp (by omega)
    have hSi := hS i hi
    have hLi := hlL i hi
    refine R_aload_n dX5_value_10 rfl ?_
    refine R_get dX5_value_11 gf_X5_26 h.1 rfl ?_
    refine R_iload_n dX5_value_14 rfl ?_
    refine R_ialdN dX5_value_15 h.a9 (by first | omega | decide) (by decide) ?_
    refine R_if_ge (tgt := 22) dX5_value_16 (by decide) (fun c16 => ?_) (fun c16 => ?_)
    · have hbt := sz_t hSi c16
      have es := sz_e hSi hbt
      refine R_aload_n dX5_value_22 rfl ?_
      refine R_get dX5_value_23 gf_X5_26 h.1 rfl ?_
      refine R_iload_n dX5_value_26 rfl ?_
      refine R_ialdN dX5_value_27 h.a9 (by first | omega | decide) (by decide) ?_
      refine RR.top (y := nI (lL i)) (es) ?_
      refine R_i2l dX5_value_28 ?_
      refine R_lconst (v := 1) dX5_value_29 (by decide) ?_
      refine R_ldc2 dX5_value_30 kc_X5_91 ?_
      refine R_callSp dX5_value_33 cs_X5_57 ⟨by decide, by decide⟩ (d_in14 G hh (L := lL i) (by omega) 4 rfl) rfl rfl (Nat.le_of_ble_eq_true rfl) ?_
      refine R_istore_n dX5_value_36 (by decide) ?_
      refine R_iconst (v := 0) dX5_value_37 (by decide) ?_
      refine R_istore_n dX5_value_38 (by decide) ?_
      refine R_iconst (v := 0) dX5_value_39 (by decide) ?_
      refine R_istore dX5_value_40 (by decide) ?_
      refine RR.pick [3, 4, 2, 1, 0] rfl ?_
      unfold anValue
      simp only [ec]
      rw [if_pos hj, if_pos hbt, ← val_eq]
      exact l_mvalue G hh h hi hLi es (lL i) 0 _ _ (by omega)
    · refine R_bipush (v := (-11)) dX5_value_19 (by decide) ?_
      exact R_iret dX5_value_21 rfl (⟨_, rfl, by (unfold anValue; simp only [ec]; rw [if_pos hj, if_neg (sz_f hSi hLi c16)]), rfl⟩)
  · refine R_bipush (v := (-2)) dX5_value_7 (by decide) ?_
    exact R_iret dX5_value_9 rfl (⟨_, rfl, by rw [anValue, if_neg (dfn c4)], rfl⟩)
