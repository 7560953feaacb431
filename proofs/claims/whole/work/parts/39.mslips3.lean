/-- the reference's words -/
def wdA : Nat → Int32 := fun j => ([112, 108, 97, 105, 110, 0, 118, 101, 114, 115, 101, 100, 111, 119, 105, 110, 103, 0, 98, 111, 116, 104, 0, 0, 119, 104, 101, 101, 108, 0, 106, 117, 100, 103, 101, 0, 98, 97, 114, 0, 0, 0, 97, 119, 97, 121, 0, 0, 114, 117, 108, 101, 0, 0] : List Int32).getD j 0
/-- the class's number of the reference's word w -/
def wix (w : Nat) : Nat := if w < 4 then 5 + w else w - 4
theorem wd_tab : ∀ w, w < 9 → 1 ≤ lenS.getD (wix w) 0 ∧ lenS.getD (wix w) 0 ≤ 6 ∧ (∀ c, c < 6 → (c < lenS.getD (wix w) 0 → wdA (6 * w + c) = chS (wix w) c ∧ ¬ wdA (6 * w + c) = 0 ∧ smB (wdA (6 * w + c)) = true) ∧ (lenS.getD (wix w) 0 ≤ c → wdA (6 * w + c) = 0)) := by decide +kernel
/-- the letters f, L of them, against the reference's word w, from letter c on -/
def nmL (f : Nat → Int32) (L w : Nat) : Nat → Nat → Bool → Bool
  | _, 0, is => is
  | c, d + 1, is => if is = true then nmL f L w (c + 1) d (decide (wdA (6 * w + c) = if c < L then f c else 0)) else false
theorem nmL_f {f : Nat → Int32} {L w : Nat} : ∀ (d c : Nat), nmL f L w c d false = false
  | 0, _ => rfl
  | _ + 1, _ => rfl
theorem nmL_iff {f : Nat → Int32} {L w : Nat} : ∀ (d c : Nat), nmL f L w c d true = true ↔ ∀ x, c ≤ x → x < c + d → wdA (6 * w + x) = if x < L then f x else 0
  | 0, c => ⟨fun _ x h1 h2 => by omega, fun _ => rfl⟩
  | d + 1, c => by
    show nmL f L w (c + 1) d (decide (wdA (6 * w + c) = if c < L then f c else 0)) = true ↔ _
    by_cases q : wdA (6 * w + c) = if c < L then f c else 0
    · rw [decide_eq_true q, nmL_iff d (c + 1)]
      constructor
      · intro h x h1 h2
        rcases Nat.eq_or_lt_of_le h1 with e | e
        · subst e; exact q
        · exact h x e (by omega)
      · intro h x h1 h2
        exact h x (by omega) (by omega)
    · rw [decide_eq_false q, nmL_f]
      constructor
      · intro h; cases h
      · intro h; exact absurd (h c (Nat.le_refl _) (by omega)) q
theorem nm_iff {f : Nat → Int32} {L w : Nat} : nmL f L w 0 6 (decide (1 ≤ L ∧ L ≤ 6)) = true ↔ (1 ≤ L ∧ L ≤ 6) ∧ ∀ x, x < 6 → wdA (6 * w + x) = if x < L then f x else 0 := by
  by_cases q : 1 ≤ L ∧ L ≤ 6
  · rw [decide_eq_true q, nmL_iff]
    exact ⟨fun h => ⟨q, fun x hx => h x (Nat.zero_le _) (by omega)⟩, fun h x _ hx => h.2 x (by omega)⟩
  · rw [decide_eq_false q, nmL_f]
    exact ⟨fun h => (Bool.noConfusion h), fun h => absurd h.1 q⟩
theorem isW_iff {f : Nat → Int32} {s e w : Nat} : isW f s e w = true ↔ e - s = lenS.getD w 0 ∧ ∀ j, j < lenS.getD w 0 → f (s + j) = chS w j := by
  unfold isW isWl
  rw [Bool.and_eq_true, decide_eq_true_iff, List.all_eq_true]
  constructor
  · intro h
    refine ⟨h.1, fun j hj => of_decide_eq_true (h.2 j (List.mem_range'_1.mpr ⟨Nat.zero_le _, by omega⟩))⟩
  · intro h
    refine ⟨h.1, fun j hj => decide_eq_true (h.2 j ?_)⟩
    have := (List.mem_range'_1.mp hj).2
    omega
theorem nm_isW {f : Nat → Int32} {s e w : Nat} (hw : w < 9) (hnz : ∀ j, j < e - s → ¬ f (s + j) = 0) : nmL (fun j => f (s + j)) (e - s) w 0 6 (decide (1 ≤ e - s ∧ e - s ≤ 6)) = isW f s e (wix w) := by
  rw [Bool.eq_iff_iff, nm_iff, isW_iff]
  obtain ⟨t1, t2, t3⟩ := wd_tab w hw
  generalize hl : lenS.getD (wix w) 0 = l at t1 t2 t3 ⊢
  constructor
  · rintro ⟨⟨h1, h2⟩, h3⟩
    have hle : e - s = l := by
      rcases Nat.lt_trichotomy (e - s) l with q | q | q
      · have a1 := h3 (e - s) (by omega)
        rw [if_neg (by omega)] at a1
        exact absurd a1 ((t3 (e - s) (by omega)).1 q).2.1
      · exact q
      · have a1 := h3 l (by omega)
        rw [if_pos q, (t3 l (by omega)).2 (Nat.le_refl _)] at a1
        exact absurd a1.symm (hnz l q)
    refine ⟨hle, fun j hj => ?_⟩
    have a1 := h3 j (by omega)
    rw [if_pos (by omega), ((t3 j (by omega)).1 hj).1] at a1
    exact a1.symm
  · rintro ⟨h1, h2⟩
    refine ⟨⟨by omega, by omega⟩, fun x hx => ?_⟩
    by_cases q : x < l
    · rw [if_pos (by omega), ((t3 x hx).1 q).1]; exact (h2 x q).symm
    · rw [if_neg (by omega)]; exact (t3 x hx).2 (by omega)
def nmF (f : Nat → Int32) (L : Nat) : Nat → Nat → Int32
  | _, 0 => -1
  | r, d + 1 => if nmL f L r 0 6 (decide (1 ≤ L ∧ L ≤ 6)) = true then nI r else nmF f L (r + 1) d
theorem nmF_rul {f : Nat → Int32} {L : Nat} (hnz : ∀ j, j < L → ¬ f j = 0) : ∀ (d r : Nat), r + d = 4 → nmF f L r d = rulL f 0 L r d
  | 0, _, _ => rfl
  | d + 1, r, h => by
    show (if nmL f L r 0 6 (decide (1 ≤ L ∧ L ≤ 6)) = true then nI r else nmF f L (r + 1) d) = (if isW f 0 L (5 + r) = true then nI r else rulL f 0 L (r + 1) d)
    have e := nm_isW (f := f) (s := 0) (e := L) (w := r) (by omega) (fun j hj => by rw [Nat.zero_add]; exact hnz j (by omega))
    simp only [Nat.zero_add, Nat.sub_zero] at e
    rw [e, nmF_rul hnz d (r + 1) (by omega), show wix r = 5 + r from if_pos (by omega)]
set_option maxRecDepth 4000 in
theorem l_named1 (G : GG) (hh : HH) {k : Nat} {a : AA} {v : VV} (h : MdAt G hh k a v) (hW : ∀ j, j < 54 → a 17 j = wdA j) {i r L : Nat} (hi : i < 3) (hr : r < 4) (hL : L ≤ 40) (hs : a 9 i = nI L) {Q : QQ} : ∀ (d c : Nat) (is : Bool), c + d = 6 → RR G mX5_named 112 [(0, .ref (ad G k)), (1, .int (nI i)), (2, .int (nI r)), (3, .int (bl (nmL (mL a i) L r c d is)))] [] hh Q → RR G mX5_named 47 [(0, .ref (ad G k)), (1, .int (nI i)), (2, .int (nI r)), (3, .int (bl is)), (4, .int (nI c))] [] hh (Q) := by
  intro d
  induction d with
  | zero =>
    intro c is hd K
    refine R_iload dX5_named_47 rfl ?_
    refine R_bipush (v := 6) dX5_named_49 (by decide) ?_
    refine R_icmp_ge (tgt := 112) dX5_named_51 (by decide) (fun c51 => ?_) (fun c51 => absurd (nI_le (a := 6) (by omega) (by omega)) c51)
    exact RR.pick [0, 1, 2, 3] rfl K
  | succ d ih =>
    intro c is hd K
    refine R_iload dX5_named_47 rfl ?_
    refine R_bipush (v := 6) dX5_named_49 (by decide) ?_
    refine R_icmp_ge (tgt := 112) dX5_named_51 (by decide) (fun c51 => absurd c51 (nI_ge (b := 6) (by omega) (by decide))) (fun c51 => ?_)
    refine R_iload_n dX5_named_54 rfl ?_
    refine R_if_eq (tgt := 112) dX5_named_55 (by decide) (fun c55 => ?_) (fun c55 => ?_)
    · have e9 : nmL (mL a i) L r c (d + 1) is = false := if_neg (bl_f c55)
      rw [e9] at K
      have eis : is = false := Bool.eq_false_iff.mpr (bl_f c55)
      subst eis
      exact RR.pick [0, 1, 2, 3] rfl K
    · refine R_aload_n dX5_named_58 rfl ?_
      refine R_get dX5_named_59 gf_X5_35 h.1 rfl ?_
      refine R_bipush (v := 6) dX5_named_62 (by decide) ?_
      refine R_iload_n dX5_named_64 rfl ?_
      refine R_imul dX5_named_65 ?_
      refine RR.top (y := nI (6 * r)) (pk_mul (6) (r)) ?_
      refine R_iload dX5_named_66 rfl ?_
      refine R_iadd dX5_named_68 ?_
      refine RR.top (y := nI ((6 * r) + c)) (nI_add (6 * r) (c)) ?_
      refine R_ialdN dX5_named_69 h.a17 (by first | omega | decide) (by decide) ?_
      refine RR.top (y := wdA (6 * r + c)) (hW _ (by omega)) ?_
      refine R_iload dX5_named_70 rfl ?_
      refine R_aload_n dX5_named_72 rfl ?_
      refine R_get dX5_named_73 gf_X5_26 h.1 rfl ?_
      refine R_iload_n dX5_named_76 rfl ?_
      refine R_ialdN dX5_named_77 h.a9 (by first | omega | decide) (by decide) ?_
      refine RR.top (y := nI (L)) (hs) ?_
      refine R_icmp_ge (tgt := 96) dX5_named_78 (by decide) (fun c78 => ?_) (fun c78 => ?_)
      · refine R_iconst (v := 0) dX5_named_96 (by decide) ?_
        refine R_icmp_ne (tgt := 104) dX5_named_97 (by decide) (fun c97 => ?_) (fun c97 => ?_)
        · refine R_iconst (v := 0) dX5_named_104 (by decide) ?_
          refine R_istore_n dX5_named_105 (by decide) ?_
          refine R_iinc (y := nI (c + 1)) dX5_named_106 rfl (by decide) (nI_s (c)) ?_
          refine R_goto (tgt := 47) dX5_named_109 (by decide) ?_
          have e9 : nmL (mL a i) L r c (d + 1) is = nmL (mL a i) L r (c + 1) d false := (if_pos (bl_t c55)).trans (by rw [decide_eq_false (by rw [if_neg (by have := (nI_leI (by omega) (by omega)).mp c78; omega)]; exact c97)])
          rw [e9] at K
          exact RR.pick [2, 3, 4, 1, 0] rfl (ih (c + 1) false (by omega) K)
        · refine R_iconst (v := 1) dX5_named_100 (by decide) ?_
          refine R_goto (tgt := 105) dX5_named_101 (by decide) ?_
          refine R_istore_n dX5_named_105 (by decide) ?_
          refine R_iinc (y := nI (c + 1)) dX5_named_106 rfl (by decide) (nI_s (c)) ?_
          refine R_goto (tgt := 47) dX5_named_109 (by decide) ?_
          have e9 : nmL (mL a i) L r c (d + 1) is = nmL (mL a i) L r (c + 1) d true := (if_pos (bl_t c55)).trans (by rw [decide_eq_true (by rw [if_neg (by have := (nI_leI (by omega) (by omega)).mp c78; omega)]; exact Classical.not_not.mp c97)])
          rw [e9] at K
          exact RR.pick [2, 3, 4, 1, 0] rfl (ih (c + 1) true (by omega) K)
      · refine R_aload_n dX5_named_81 rfl ?_
        refine R_get dX5_named_82 gf_X5_29 h.1 rfl ?_
        refine R_bipush (v := 40) dX5_named_85 (by decide) ?_
        refine R_iload_n dX5_named_87 rfl ?_
        refine R_imul dX5_named_88 ?_
        refine RR.top (y := nI (40 * i)) (pk_mul (40) (i)) ?_
        refine R_iload dX5_named_89 rfl ?_
        refine R_iadd dX5_named_91 ?_
        refine RR.top (y := nI ((40 * i) + c)) (nI_add (40 * i) (c)) ?_
        refine R_ialdN dX5_named_92 h.a10 (by first | omega | decide) (by decide) ?_
        refine R_goto (tgt := 97) dX5_named_93 (by decide) ?_
        refine R_icmp_ne (tgt := 104) dX5_named_97 (by decide) (fun c97 => ?_) (fun c97 => ?_)
        · refine R_iconst (v := 0) dX5_named_104 (by decide) ?_
          refine R_istore_n dX5_named_105 (by decide) ?_
          refine R_iinc (y := nI (c + 1)) dX5_named_106 rfl (by decide) (nI_s (c)) ?_
          refine R_goto (tgt := 47) dX5_named_109 (by decide) ?_
          have e9 : nmL (mL a i) L r c (d + 1) is = nmL (mL a i) L r (c + 1) d false := (if_pos (bl_t c55)).trans (by rw [decide_eq_false (by rw [if_pos (Nat.lt_of_not_ge (fun q9 => c78 (nI_le q9 (by omega))))]; exact c97)])
          rw [e9] at K
          exact RR.pick [2, 3, 4, 1, 0] rfl (ih (c + 1) false (by omega) K)
        · refine R_iconst (v := 1) dX5_named_100 (by decide) ?_
          refine R_goto (tgt := 105) dX5_named_101 (by decide) ?_
          refine R_istore_n dX5_named_105 (by decide) ?_
          refine R_iinc (y := nI (c + 1)) dX5_named_106 rfl (by decide) (nI_s (c)) ?_
          refine R_goto (tgt := 47) dX5_named_109 (by decide) ?_
          have e9 : nmL (mL a i) L r c (d + 1) is = nmL (mL a i) L r (c + 1) d true := (if_pos (bl_t c55)).trans (by rw [decide_eq_true (by rw [if_pos (Nat.lt_of_not_ge (fun q9 => c78 (nI_le q9 (by omega))))]; exact Classical.not_not.mp c97)])
          rw [e9] at K
          exact RR.pick [2, 3, 4, 1, 0] rfl (ih (c + 1) true (by omega) K)
set_option maxRecDepth 4000 in
theorem l_named2 (G : GG) (hh : HH) {k : Nat} {a : AA} {v : VV} (h : MdAt G hh k a v) (hW : ∀ j, j < 54 → a 17 j = wdA j) {i L : Nat} (hi : i < 3) (hL : L ≤ 40) (hs : a 9 i = nI L) : ∀ (d r : Nat), r + d = 4 → RR G mX5_named 24 [(0, .ref (ad G k)), (1, .int (nI i)), (2, .int (nI r))] [] hh (fun r9 h1 => ∃ w, r9 = some (.int w) ∧ (w = nmF (mL a i) L r d ∧ h1 = hh)) := by
  intro d
  induction d with
  | zero =>
    intro r hd
    refine R_iload_n dX5_named_24 rfl ?_
    refine R_iconst (v := 3) dX5_named_25 (by decide) ?_
    refine R_icmp_gt (tgt := 124) dX5_named_26 (by decide) (fun c26 => ?_) (fun c26 => absurd (nI_lt (a := 3) (by omega) (by omega)) c26)
    refine R_iconst (v := (-1)) dX5_named_124 (by decide) ?_
    exact R_iret dX5_named_125 rfl (⟨_, rfl, rfl, rfl⟩)
  | succ d ih =>
    intro r hd
    refine R_iload_n dX5_named_24 rfl ?_
    refine R_iconst (v := 3) dX5_named_25 (by decide) ?_
    refine R_icmp_gt (tgt := 124) dX5_named_26 (by decide) (fun c26 => absurd c26 (nI_nlt (a := 3) (by omega) (by decide))) (fun c26 => ?_)
    refine R_aload_n dX5_named_29 rfl ?_
    refine R_get dX5_named_30 gf_X5_26 h.1 rfl ?_
    refine R_iload_n dX5_named_33 rfl ?_
    refine R_ialdN dX5_named_34 h.a9 (by first | omega | decide) (by decide) ?_
    refine RR.top (y := nI (L)) (hs) ?_
    refine R_i2l dX5_named_35 ?_
    refine R_lconst (v := 1) dX5_named_36 (by decide) ?_
    refine R_ldc2 dX5_named_37 kc_X5_218 ?_
    refine R_callSp dX5_named_40 cs_X5_57 ⟨by decide, by decide⟩ (d_in14 G hh (L := L) (by omega) 6 rfl) rfl rfl (Nat.le_of_ble_eq_true rfl) ?_
    refine R_istore_n dX5_named_43 (by decide) ?_
    refine R_iconst (v := 0) dX5_named_44 (by decide) ?_
    refine R_istore dX5_named_45 (by decide) ?_
    refine RR.pick [2, 3, 4, 1, 0] rfl (l_named1 G hh h hW hi (by omega) hL hs 6 0 _ (by omega) ?_)
    refine R_iload_n dX5_named_112 rfl ?_
    refine R_if_eq (tgt := 118) dX5_named_113 (by decide) (fun c113 => ?_) (fun c113 => ?_)
    · refine R_iinc (y := nI (r + 1)) dX5_named_118 rfl (by decide) (nI_s (r)) ?_
      refine R_goto (tgt := 24) dX5_named_121 (by decide) ?_
      have e9 : nmF (mL a i) L r (d + 1) = nmF (mL a i) L (r + 1) d := if_neg (bl_f c113)
      rw [e9]
      exact RR.pick [1, 2, 0] rfl (ih (r + 1) (by omega))
    · refine R_iload_n dX5_named_116 rfl ?_
      exact R_iret dX5_named_117 rfl (⟨_, rfl, (if_pos (bl_t c113)).symm, rfl⟩)
set_option maxRecDepth 4000 in
theorem m_named (G : GG) (hh : HH) {k : Nat} {a : AA} {v : VV} (h : MdAt G hh k a v) (hW : ∀ j, j < 54 → a 17 j = wdA j) {b : Nat → Bool} {lL : Nat → Nat} (hS : ∀ t, t < 3 → a 9 t = szI (b t) (lL t)) (hlL : ∀ t, t < 3 → lL t ≤ 40) (hnz : ∀ t, t < 3 → b t = true → ∀ j, j < lL t → ¬ mL a t j = 0) (t : Int32) : EVp G mX5_named [.ref (ad G k), .int t] hh (anNamed b (mL a) lL t) := by
  refine EV.of [(0, .ref (ad G k)), (1, .int t)] (by decide +kernel) (Nat.le_of_ble_eq_true rfl) rfl ?_
  refine R_iload_n dX5_named_0 rfl ?_
  refine R_callSp dX5_named_1 cs_X5_210 ⟨by decide, by decide⟩ (d_isSlip G hh t) rfl rfl (Nat.le_of_ble_eq_true rfl) ?_
  refine R_if_ne (tgt := 10) dX5_named_4 (by decide) (fun c4 => ?_) (fun c4 => ?_)
  · have hj : 0 ≤ t ∧ t < 3 := dt c4
    obtain ⟨i, hi, rfl⟩ := ix_in (n := 3) (by omega) (Int32.not_lt.mpr hj.1) hj.2
    have ec : (nI i).toNatClampNeg = i := nI_clamp (by omega)
    have hSi := hS i hi
    have hLi := hlL i hi
    refine R_aload_n dX5_named_10 rfl ?_
    refine R_get dX5_named_11 gf_X5_26 h.1 rfl ?_
    refine R_iload_n dX5_named_14 rfl ?_
    refine R_ialdN dX5_named_15 h.a9 (by first | omega | decide) (by decide) ?_
    refine R_if_ge (tgt := 22) dX5_named_16 (by decide) (fun c16 => ?_) (fun c16 => ?_)
    · have hbt := sz_t hSi c16
      have es := sz_e hSi hbt
      refine R_iconst (v := 0) dX5_named_22 (by decide) ?_
      refine R_istore_n dX5_named_23 (by decide) ?_
      refine RR.pick [1, 2, 0] rfl ?_
      unfold anNamed
      simp only [ec]
      rw [if_pos hj, if_pos hbt, ← nmF_rul (hnz i hi hbt) 4 0 (by omega)]
      exact l_named2 G hh h hW hi hLi es 4 0 (by omega)
    · refine R_bipush (v := (-11)) dX5_named_19 (by decide) ?_
      exact R_iret dX5_named_21 rfl (⟨_, rfl, by (unfold anNamed; simp only [ec]; rw [if_pos hj, if_neg (sz_f hSi hLi c16)]), rfl⟩)
  · refine R_bipush (v := (-2)) dX5_named_7 (by decide) ?_
    exact R_iret dX5_named_9 rfl (⟨_, rfl, by rw [anNamed, if_neg (dfn c4)], rfl⟩)
def stL (F g : Nat → Int32) (p : Nat) : Nat → Nat → Bool → Bool
  | _, 0, is => is
  | c, d + 1, is => if is = true then stL F g p (c + 1) d (decide (g c = F (p + c))) else false
theorem stL_f {F g : Nat → Int32} {p : Nat} : ∀ (d c : Nat), stL F g p c d false = false
  | 0, _ => rfl
  | _ + 1, _ => rfl
theorem stL_eq {F g : Nat → Int32} {p : Nat} : ∀ (d c : Nat), stL F g p c d true = stnd F g p c d
  | 0, _ => rfl
  | d + 1, c => by
    show stL F g p (c + 1) d (decide (g c = F (p + c))) = (List.range' c (d + 1)).all (fun j => decide (F (p + j) = g j))
    rw [List.range'_succ, List.all_cons]
    by_cases q : g c = F (p + c)
    · rw [decide_eq_true q, decide_eq_true q.symm, stL_eq d (c + 1), Bool.true_and]; rfl
    · rw [decide_eq_false q, decide_eq_false (fun r => q r.symm), stL_f, Bool.false_and]
theorem d_in03 (G : GG) (hh : HH) (x : Int32) : EVp G mX5_in [.long x.toInt64, .long 0, .long 3] hh (bl (decide (¬ x < 0 ∧ x ≤ 3))) := by
  have e := e_inI G hh x (lo := 0) (hi := 3) (l := 0) (r := 3) rfl rfl
  rw [inB_n (hi := 3) (h := 3) rfl] at e
  exact e
theorem u1_clamp {u : Nat} (hu : u < 3) : (nI (u + 1) - 1).toNatClampNeg = u := by rw [nI_pred, nI_clamp (by omega)]
set_option maxRecDepth 4000 in
theorem l_stands0 (G : GG) (hh : HH) {k : Nat} {a : AA} {v : VV} (h : MdAt G hh k a v) {i L : Nat} (hi : i < 3) {p : Nat} (hL : L ≤ 40) (hb : p + L ≤ 140) (hs : a 9 i = nI L) : ∀ (d c : Nat) (is : Bool), c + d = L → RR G mX5_standsAt 6 [(0, .ref (ad G k)), (1, .int (nI i)), (2, .int 0), (3, .int (nI p)), (4, .int (bl is)), (5, .int (nI c))] [] hh (fun r9 h1 => ∃ w, r9 = some (.int w) ∧ (w = bl (stL (a 18) (mL a i) p c d is) ∧ h1 = hh)) := by
  intro d
  induction d with
  | zero =>
    intro c is hd
    refine R_iload dX5_standsAt_6 rfl ?_
    refine R_aload_n dX5_standsAt_8 rfl ?_
    refine R_get dX5_standsAt_9 gf_X5_26 h.1 rfl ?_
    refine R_iload_n dX5_standsAt_12 rfl ?_
    refine R_ialdN dX5_standsAt_13 h.a9 (by first | omega | decide) (by decide) ?_
    refine RR.top (y := nI (L)) (hs) ?_
    refine R_icmp_ge (tgt := 82) dX5_standsAt_14 (by decide) (fun c14 => ?_) (fun c14 => absurd (nI_le (by omega) (by omega)) c14)
    refine R_iload dX5_standsAt_82 rfl ?_
    exact R_zret dX5_standsAt_84 rfl (by first | exact Or.inl rfl | exact Or.inr rfl | assumption | exact bl01 _ | omega) (⟨_, rfl, rfl, rfl⟩)
  | succ d ih =>
    intro c is hd
    refine R_iload dX5_standsAt_6 rfl ?_
    refine R_aload_n dX5_standsAt_8 rfl ?_
    refine R_get dX5_standsAt_9 gf_X5_26 h.1 rfl ?_
    refine R_iload_n dX5_standsAt_12 rfl ?_
    refine R_ialdN dX5_standsAt_13 h.a9 (by first | omega | decide) (by decide) ?_
    refine RR.top (y := nI (L)) (hs) ?_
    refine R_icmp_ge (tgt := 82) dX5_standsAt_14 (by decide) (fun c14 => absurd c14 (nI_ge (by omega) (by omega))) (fun c14 => ?_)
    refine R_iload dX5_standsAt_17 rfl ?_
    refine R_if_eq (tgt := 82) dX5_standsAt_19 (by decide) (fun c19 => ?_) (fun c19 => ?_)
    · refine R_iload dX5_standsAt_82 rfl ?_
      exact R_zret dX5_standsAt_84 rfl (by first | exact Or.inl rfl | exact Or.inr rfl | assumption | exact bl01 _ | omega) (⟨_, rfl, by rw [show stL (a 18) (mL a i) p c (d + 1) is = false from if_neg (bl_f c19), show is = false from Bool.eq_false_iff.mpr (bl_f c19)], rfl⟩)
    · refine R_aload_n dX5_standsAt_22 rfl ?_
      refine R_get dX5_standsAt_23 gf_X5_29 h.1 rfl ?_
      refine R_bipush (v := 40) dX5_standsAt_26 (by decide) ?_
      refine R_iload_n dX5_standsAt_28 rfl ?_
      refine R_imul dX5_standsAt_29 ?_
      refine RR.top (y := nI (40 * i)) (pk_mul (40) (i)) ?_
      refine R_iload dX5_standsAt_30 rfl ?_
      refine R_iadd dX5_standsAt_32 ?_
      refine RR.top (y := nI ((40 * i) + c)) (nI_add (40 * i) (c)) ?_
      refine R_ialdN dX5_standsAt_33 h.a10 (by first | omega | decide) (by decide) ?_
      refine R_iload_n dX5_standsAt_34 rfl ?_
      refine R_if_ne (tgt := 50) dX5_standsAt_35 (by decide) (fun c35 => absurd c35 (fun q9 => q9 rfl)) (fun c35 => ?_)
      refine R_aload_n dX5_standsAt_38 rfl ?_
      refine R_get dX5_standsAt_39 gf_X5_38 h.1 rfl ?_
      refine R_iload_n dX5_standsAt_42 rfl ?_
      refine R_iload dX5_standsAt_43 rfl ?_
      refine R_iadd dX5_standsAt_45 ?_
      refine RR.top (y := nI (p + c)) (nI_add (p) (c)) ?_
      refine R_ialdN dX5_standsAt_46 h.a18 (by first | omega | decide) (by decide) ?_
      refine R_goto (tgt := 66) dX5_standsAt_47 (by decide) ?_
      refine R_icmp_ne (tgt := 73) dX5_standsAt_66 (by decide) (fun c66 => ?_) (fun c66 => ?_)
      · refine R_iconst (v := 0) dX5_standsAt_73 (by decide) ?_
        refine R_istore dX5_standsAt_74 (by decide) ?_
        refine R_iinc (y := nI (c + 1)) dX5_standsAt_76 rfl (by decide) (nI_s (c)) ?_
        refine R_goto (tgt := 6) dX5_standsAt_79 (by decide) ?_
        have e9 : stL (a 18) (mL a i) p c (d + 1) is = stL (a 18) (mL a i) p (c + 1) d false := (if_pos (bl_t c19)).trans (by rw [show decide (mL a i c = (a 18) (p + c)) = false from decide_eq_false c66])
        rw [e9]
        exact RR.pick [2, 3, 4, 5, 1, 0] rfl (ih (c + 1) false (by omega))
      · refine R_iconst (v := 1) dX5_standsAt_69 (by decide) ?_
        refine R_goto (tgt := 74) dX5_standsAt_70 (by decide) ?_
        refine R_istore dX5_standsAt_74 (by decide) ?_
        refine R_iinc (y := nI (c + 1)) dX5_standsAt_76 rfl (by decide) (nI_s (c)) ?_
        refine R_goto (tgt := 6) dX5_standsAt_79 (by decide) ?_
        have e9 : stL (a 18) (mL a i) p c (d + 1) is = stL (a 18) (mL a i) p (c + 1) d true := (if_pos (bl_t c19)).trans (by rw [show decide (mL a i c = (a 18) (p + c)) = true from decide_eq_true (Classical.not_not.mp c66)])
        rw [e9]
        exact RR.pick [2, 3, 4, 5, 1, 0] rfl (ih (c + 1) true (by omega))
set_option maxRecDepth 4000 in
theorem m_stands0 (G : GG) (hh : HH) {k : Nat} {a : AA} {v : VV} (h : MdAt G hh k a v) {i L : Nat} (hi : i < 3) {p : Nat} (hL : L ≤ 40) (hb : p + L ≤ 140) (hs : a 9 i = nI L) : EVp G mX5_standsAt [.ref (ad G k), .int (nI i), .int 0, .int (nI p)] hh (bl (stnd (a 18) (mL a i) p 0 L)) := by
  refine EV.of [(0, .ref (ad G k)), (1, .int (nI i)), (2, .int 0), (3, .int (nI p))] (by decide +kernel) (Nat.le_of_ble_eq_true rfl) rfl ?_
  refine R_iconst (v := 1) dX5_standsAt_0 (by decide) ?_
  refine R_istore dX5_standsAt_1 (by decide) ?_
  refine R_iconst (v := 0) dX5_standsAt_3 (by decide) ?_
  refine R_istore dX5_standsAt_4 (by decide) ?_
  rw [← stL_eq]
  exact RR.pick [2, 3, 4, 5, 1, 0] rfl (l_stands0 G hh h hi hL hb hs L 0 true (by omega))
set_option maxRecDepth 4000 in
theorem l_standsS (G : GG) (hh : HH) {k : Nat} {a : AA} {v : VV} (h : MdAt G hh k a v) {i L : Nat} (hi : i < 3) {u p : Nat} (hu : u < 3) (hL : L ≤ 40) (hb : p + L ≤ 40) (hs : a 9 i = nI L) : ∀ (d c : Nat) (is : Bool), c + d = L → RR G mX5_standsAt 6 [(0, .ref (ad G k)), (1, .int (nI i)), (2, .int (nI (u + 1))), (3, .int (nI p)), (4, .int (bl is)), (5, .int (nI c))] [] hh (fun r9 h1 => ∃ w, r9 = some (.int w) ∧ (w = bl (stL (mL a u) (mL a i) p c d is) ∧ h1 = hh)) := by
  intro d
  induction d with
  | zero =>
    intro c is hd
    refine R_iload dX5_standsAt_6 rfl ?_
    refine R_aload_n dX5_standsAt_8 rfl ?_
    refine R_get dX5_standsAt_9 gf_X5_26 h.1 rfl ?_
    refine R_iload_n dX5_standsAt_12 rfl ?_
    refine R_ialdN dX5_standsAt_13 h.a9 (by first | omega | decide) (by decide) ?_
    refine RR.top (y := nI (L)) (hs) ?_
    refine R_icmp_ge (tgt := 82) dX5_standsAt_14 (by decide) (fun c14 => ?_) (fun c14 => absurd (nI_le (by omega) (by omega)) c14)
    refine R_iload dX5_standsAt_82 rfl ?_
    exact R_zret dX5_standsAt_84 rfl (by first | exact Or.inl rfl | exact Or.inr rfl | assumption | exact bl01 _ | omega) (⟨_, rfl, rfl, rfl⟩)
  | succ d ih =>
    intro c is hd
    refine R_iload dX5_standsAt_6 rfl ?_
    refine R_aload_n dX5_standsAt_8 rfl ?_
    refine R_get dX5_standsAt_9 gf_X5_26 h.1 rfl ?_
    refine R_iload_n dX5_standsAt_12 rfl ?_
    refine R_ialdN dX5_standsAt_13 h.a9 (by first | omega | decide) (by decide) ?_
    refine RR.top (y := nI (L)) (hs) ?_
    refine R_icmp_ge (tgt := 82) dX5_standsAt_14 (by decide) (fun c14 => absurd c14 (nI_ge (by omega) (by omega))) (fun c14 => ?_)
    refine R_iload dX5_standsAt_17 rfl ?_
    refine R_if_eq (tgt := 82) dX5_standsAt_19 (by decide) (fun c19 => ?_) (fun c19 => ?_)
    · refine R_iload dX5_standsAt_82 rfl ?_
      exact R_zret dX5_standsAt_84 rfl (by first | exact Or.inl rfl | exact Or.inr rfl | assumption | exact bl01 _ | omega) (⟨_, rfl, by rw [show stL (mL a u) (mL a i) p c (d + 1) is = false from if_neg (bl_f c19), show is = false from Bool.eq_false_iff.mpr (bl_f c19)], rfl⟩)
    · refine R_aload_n dX5_standsAt_22 rfl ?_
      refine R_get dX5_standsAt_23 gf_X5_29 h.1 rfl ?_
      refine R_bipush (v := 40) dX5_standsAt_26 (by decide) ?_
      refine R_iload_n dX5_standsAt_28 rfl ?_
      refine R_imul dX5_standsAt_29 ?_
      refine RR.top (y := nI (40 * i)) (pk_mul (40) (i)) ?_
      refine R_iload dX5_standsAt_30 rfl ?_
      refine R_iadd dX5_standsAt_32 ?_
      refine RR.top (y := nI ((40 * i) + c)) (nI_add (40 * i) (c)) ?_
      refine R_ialdN dX5_standsAt_33 h.a10 (by first | omega | decide) (by decide) ?_
      refine R_iload_n dX5_standsAt_34 rfl ?_
      refine R_if_ne (tgt := 50) dX5_standsAt_35 (by decide) (fun c35 => ?_) (fun c35 => absurd (nI_ne0 (by omega) (by omega)) c35)
      refine R_aload_n dX5_standsAt_50 rfl ?_
      refine R_get dX5_standsAt_51 gf_X5_29 h.1 rfl ?_
      refine R_bipush (v := 40) dX5_standsAt_54 (by decide) ?_
      refine R_iload_n dX5_standsAt_56 rfl ?_
      refine R_iconst (v := 1) dX5_standsAt_57 (by decide) ?_
      refine R_isub dX5_standsAt_58 ?_
      refine RR.top (y := nI (((u + 1)) - 1)) (pk_sub (a := (u + 1)) (b := 1) (by omega)) ?_
      refine R_imul dX5_standsAt_59 ?_
      refine RR.top (y := nI (40 * (((u + 1)) - 1))) (pk_mul (40) (((u + 1)) - 1)) ?_
      refine R_iload_n dX5_standsAt_60 rfl ?_
      refine R_iadd dX5_standsAt_61 ?_
      refine RR.top (y := nI ((40 * (((u + 1)) - 1)) + p)) (nI_add (40 * (((u + 1)) - 1)) (p)) ?_
      refine R_iload dX5_standsAt_62 rfl ?_
      refine R_iadd dX5_standsAt_64 ?_
      refine RR.top (y := nI (((40 * (((u + 1)) - 1)) + p) + c)) (nI_add ((40 * (((u + 1)) - 1)) + p) (c)) ?_
      refine R_ialdN dX5_standsAt_65 h.a10 (by first | omega | decide) (by decide) ?_
      refine RR.top (y := mL a u (p + c)) (by show a 10 _ = a 10 (40 * u + (p + c)); rw [show 40 * ((u + 1) - 1) + p + c = 40 * u + (p + c) by omega]) ?_
      refine R_icmp_ne (tgt := 73) dX5_standsAt_66 (by decide) (fun c66 => ?_) (fun c66 => ?_)
      · refine R_iconst (v := 0) dX5_standsAt_73 (by decide) ?_
        refine R_istore dX5_standsAt_74 (by decide) ?_
        refine R_iinc (y := nI (c + 1)) dX5_standsAt_76 rfl (by decide) (nI_s (c)) ?_
        refine R_goto (tgt := 6) dX5_standsAt_79 (by decide) ?_
        have e9 : stL (mL a u) (mL a i) p c (d + 1) is = stL (mL a u) (mL a i) p (c + 1) d false := (if_pos (bl_t c19)).trans (by rw [show decide (mL a i c = (mL a u) (p + c)) = false from decide_eq_false c66])
        rw [e9]
        exact RR.pick [2, 3, 4, 5, 1, 0] rfl (ih (c + 1) false (by omega))
      · refine R_iconst (v := 1) dX5_standsAt_69 (by decide) ?_
        refine R_goto (tgt := 74) dX5_standsAt_70 (by decide) ?_
        refine R_istore dX5_standsAt_74 (by decide) ?_
        refine R_iinc (y := nI (c + 1)) dX5_standsAt_76 rfl (by decide) (nI_s (c)) ?_
        refine R_goto (tgt := 6) dX5_standsAt_79 (by decide) ?_
        have e9 : stL (mL a u) (mL a i) p c (d + 1) is = stL (mL a u) (mL a i) p (c + 1) d true := (if_pos (bl_t c19)).trans (by rw [show decide (mL a i c = (mL a u) (p + c)) = true from decide_eq_true (Classical.not_not.mp c66)])
        rw [e9]
        exact RR.pick [2, 3, 4, 5, 1, 0] rfl (ih (c + 1) true (by omega))
set_option maxRecDepth 4000 in
theorem m_standsS (G : GG) (hh : HH) {k : Nat} {a : AA} {v : VV} (h : MdAt G hh k a v) {i L : Nat} (hi : i < 3) {u p : Nat} (hu : u < 3) (hL : L ≤ 40) (hb : p + L ≤ 40) (hs : a 9 i = nI L) : EVp G mX5_standsAt [.ref (ad G k), .int (nI i), .int (nI (u + 1)), .int (nI p)] hh (bl (stnd (mL a u) (mL a i) p 0 L)) := by
  refine EV.of [(0, .ref (ad G k)), (1, .int (nI i)), (2, .int (nI (u + 1))), (3, .int (nI p))] (by decide +kernel) (Nat.le_of_ble_eq_true rfl) rfl ?_
  refine R_iconst (v := 1) dX5_standsAt_0 (by decide) ?_
  refine R_istore dX5_standsAt_1 (by decide) ?_
  refine R_iconst (v := 0) dX5_standsAt_3 (by decide) ?_
  refine R_istore dX5_standsAt_4 (by decide) ?_
  rw [← stL_eq]
  exact RR.pick [2, 3, 4, 5, 1, 0] rfl (l_standsS G hh h hi hu hL hb hs L 0 true (by omega))
set_option maxRecDepth 4000 in
theorem l_find0 (G : GG) (hh : HH) {k : Nat} {a : AA} {v : VV} (h : MdAt G hh k a v) {i L N : Nat} (hi : i < 3)  (hL : L ≤ 40) (hN : N ≤ 140) (hs : a 9 i = nI L) : ∀ (d p : Nat), p + d = N + 1 - L → RR G mX5_find 79 [(0, .ref (ad G k)), (1, .int (nI i)), (2, .int 0), (3, .int (nI N)), (4, .int (nI p))] [] hh (fun r9 h1 => ∃ w, r9 = some (.int w) ∧ (w = plc (a 18) (mL a i) L p d ∧ h1 = hh)) := by
  intro d
  induction d with
  | zero =>
    intro p hd
    refine R_iload dX5_find_79 rfl ?_
    refine R_aload_n dX5_find_81 rfl ?_
    refine R_get dX5_find_82 gf_X5_26 h.1 rfl ?_
    refine R_iload_n dX5_find_85 rfl ?_
    refine R_ialdN dX5_find_86 h.a9 (by first | omega | decide) (by decide) ?_
    refine RR.top (y := nI (L)) (hs) ?_
    refine R_iadd dX5_find_87 ?_
    refine RR.top (y := nI (p + L)) (nI_add (p) (L)) ?_
    refine R_iload_n dX5_find_88 rfl ?_
    refine R_icmp_gt (tgt := 112) dX5_find_89 (by decide) (fun c89 => ?_) (fun c89 => absurd (nI_lt (by omega) (by omega)) c89)
    refine R_iconst (v := (-1)) dX5_find_112 (by decide) ?_
    exact R_iret dX5_find_113 rfl (⟨_, rfl, rfl, rfl⟩)
  | succ d ih =>
    intro p hd
    refine R_iload dX5_find_79 rfl ?_
    refine R_aload_n dX5_find_81 rfl ?_
    refine R_get dX5_find_82 gf_X5_26 h.1 rfl ?_
    refine R_iload_n dX5_find_85 rfl ?_
    refine R_ialdN dX5_find_86 h.a9 (by first | omega | decide) (by decide) ?_
    refine RR.top (y := nI (L)) (hs) ?_
    refine R_iadd dX5_find_87 ?_
    refine RR.top (y := nI (p + L)) (nI_add (p) (L)) ?_
    refine R_iload_n dX5_find_88 rfl ?_
    refine R_icmp_gt (tgt := 112) dX5_find_89 (by decide) (fun c89 => absurd c89 (nI_nlt (by omega) (by omega))) (fun c89 => ?_)
    refine R_aload_n dX5_find_92 rfl ?_
    refine R_iload_n dX5_find_93 rfl ?_
    refine R_iload_n dX5_find_94 rfl ?_
    refine R_iload dX5_find_95 rfl ?_
    refine R_callVp dX5_find_97 cv_X5_215 ⟨by decide, by decide⟩ (m_stands0 G hh h hi hL (by omega) hs) h.1 rfl rfl rfl (Nat.le_of_ble_eq_true rfl) ?_
    refine R_if_eq (tgt := 106) dX5_find_100 (by decide) (fun c100 => ?_) (fun c100 => ?_)
    · refine R_iinc (y := nI (p + 1)) dX5_find_106 rfl (by decide) (nI_s (p)) ?_
      refine R_goto (tgt := 79) dX5_find_109 (by decide) ?_
      have e9 : plc (a 18) (mL a i) L p (d + 1) = plc (a 18) (mL a i) L (p + 1) d := if_neg (bl_f c100)
      rw [e9]
      exact RR.pick [1, 2, 3, 4, 0] rfl (ih (p + 1) (by omega))
    · refine R_iload dX5_find_103 rfl ?_
      exact R_iret dX5_find_105 rfl (⟨_, rfl, (if_pos (bl_t c100)).symm, rfl⟩)
set_option maxRecDepth 4000 in
theorem m_find0 (G : GG) (hh : HH) {k : Nat} {a : AA} {v : VV} (h : MdAt G hh k a v) {b : Nat → Bool} {lL : Nat → Nat} (hS : ∀ t, t < 3 → a 9 t = szI (b t) (lL t)) (hlL : ∀ t, t < 3 → lL t ≤ 40) {m : Nat} (hm : m ≤ 20) (hc : a 0 3 = nI m)  (t : Int32) : EVi G mX5_find [.ref (ad G k), .int t, .int 0] hh (fun y h1 => y = anFind b (mL a) lL (wrl (mA a 0) m) t 0 ∧ (h1 = hh ∨ ((∃ f, MdAt G h1 k (va_up a 18 f) (va_up v 19 (nI (wrl (mA a 0) m).length)) ∧ pref f (wrl (mA a 0) m)) ∧ Fr k (k + 11) hh h1))) := by
  refine EV.of [(0, .ref (ad G k)), (1, .int t), (2, .int 0)] (by decide +kernel) (Nat.le_of_ble_eq_true rfl) rfl ?_
  refine R_iload_n dX5_find_0 rfl ?_
  refine R_callSp dX5_find_1 cs_X5_210 ⟨by decide, by decide⟩ (d_isSlip G hh t) rfl rfl (Nat.le_of_ble_eq_true rfl) ?_
  refine R_if_ne (tgt := 10) dX5_find_4 (by decide) (fun c4 => ?_) (fun c4 => ?_)
  · refine R_iload_n dX5_find_10 rfl ?_
    refine R_i2l dX5_find_11 ?_
    refine R_lconst (v := 0) dX5_find_12 (by decide) ?_
    refine R_ldc2 dX5_find_13 kc_X5_213 ?_
    refine R_callSp dX5_find_16 cs_X5_57 ⟨by decide, by decide⟩ (d_in03 G hh 0) rfl rfl (Nat.le_of_ble_eq_true rfl) ?_
    refine R_if_ne (tgt := 25) dX5_find_19 (by decide) (fun c19 => ?_) (fun c19 => absurd (by rw [decide_eq_true (show ¬ (0 : Int32) < 0 ∧ (0 : Int32) ≤ 3 from by decide)]; decide) c19)
    have hj : 0 ≤ t ∧ t < 3 := dt c4
    obtain ⟨i, hi, rfl⟩ := ix_in (n := 3) (by omega) (Int32.not_lt.mpr hj.1) hj.2
    have ec : (nI i).toNatClampNeg = i := nI_clamp (by omega)
    have hSi := hS i hi
    have hLi := hlL i hi
    have hw3 : ¬ (0 : Int32) < 0 ∧ (0 : Int32) ≤ 3 := by decide
    refine R_aload_n dX5_find_25 rfl ?_
    refine R_get dX5_find_26 gf_X5_26 h.1 rfl ?_
    refine R_iload_n dX5_find_29 rfl ?_
    refine R_ialdN dX5_find_30 h.a9 (by first | omega | decide) (by decide) ?_
    refine R_if_lt (tgt := 49) dX5_find_31 (by decide) (fun c31 => ?_) (fun c31 => ?_)
    · refine R_bipush (v := (-11)) dX5_find_49 (by decide) ?_
      exact R_iret dX5_find_51 rfl (⟨_, rfl, by (unfold anFind; simp only [ec]; rw [if_pos hj, if_pos hw3, if_neg (sz_f hSi hLi (Int32.not_le.mpr c31))]), Or.inl rfl⟩)
    · refine R_iload_n dX5_find_34 rfl ?_
      refine R_if_le (tgt := 52) dX5_find_35 (by decide) (fun c35 => ?_) (fun c35 => absurd (show (0 : Int32) ≤ 0 by decide) c35)
      have hbt := sz_t hSi (Int32.not_lt.mp c31)
      have es := sz_e hSi hbt
      refine R_aload_n dX5_find_52 rfl ?_
      refine R_callVv dX5_find_53 cv_X5_194 ⟨by decide, by decide⟩ (m_layWriting G hh h hm hc) h.1 rfl rfl rfl (Nat.le_of_ble_eq_true rfl) (fun hh hw => ?_)
      obtain ⟨⟨f, h, hp⟩, hF1⟩ := hw
      refine R_iload_n dX5_find_56 rfl ?_
      refine R_if_ne (tgt := 67) dX5_find_57 (by decide) (fun c57 => absurd c57 (fun q9 => q9 rfl)) (fun c57 => ?_)
      refine R_aload_n dX5_find_60 rfl ?_
      refine R_get dX5_find_61 gf_X5_188 h.1 rfl ?_
      refine R_goto (tgt := 75) dX5_find_64 (by decide) ?_
      refine RR.top (y := nI (wrl (mA a 0) m).length) rfl ?_
      refine R_istore_n dX5_find_75 (by decide) ?_
      refine R_iconst (v := 0) dX5_find_76 (by decide) ?_
      refine R_istore dX5_find_77 (by decide) ?_
      have hlen := wrl_len (mA a 0) m
      refine RR.pick [2, 3, 4, 1, 0] rfl ?_
      refine RR.post (l_find0 G hh (N := (wrl (mA a 0) m).length) h hi hLi (by omega) es ((wrl (mA a 0) m).length + 1 - lL i) 0 (by omega)) (fun r h1 hq => ?_)
      obtain ⟨w9, e1, e2, e3⟩ := hq
      subst e3
      refine ⟨w9, e1, ?_, Or.inr ⟨⟨f, h, hp⟩, hF1⟩⟩
      unfold anFind
      simp only [ec]
      rw [if_pos hj, if_pos hw3, if_pos hbt, if_pos trivial, e2]
      rcases Nat.lt_or_ge (wrl (mA a 0) m).length (lL i) with q | q
      · rw [show (wrl (mA a 0) m).length + 1 - lL i = 0 by omega]; rfl
      · exact plc_cg (N := (wrl (mA a 0) m).length) hp _ 0 (by omega)
  · refine R_bipush (v := (-2)) dX5_find_7 (by decide) ?_
    exact R_iret dX5_find_9 rfl (⟨_, rfl, by (rw [anFind, if_neg (dfn c4)]), Or.inl rfl⟩)
set_option maxRecDepth 4000 in
theorem l_findS (G : GG) (hh : HH) {k : Nat} {a : AA} {v : VV} (h : MdAt G hh k a v) {i L N : Nat} (hi : i < 3) {u : Nat} (hu : u < 3) (hL : L ≤ 40) (hN : N ≤ 40) (hs : a 9 i = nI L) : ∀ (d p : Nat), p + d = N + 1 - L → RR G mX5_find 79 [(0, .ref (ad G k)), (1, .int (nI i)), (2, .int (nI (u + 1))), (3, .int (nI N)), (4, .int (nI p))] [] hh (fun r9 h1 => ∃ w, r9 = some (.int w) ∧ (w = plc (mL a u) (mL a i) L p d ∧ h1 = hh)) := by
  intro d
  induction d with
  | zero =>
    intro p hd
    refine R_iload dX5_find_79 rfl ?_
    refine R_aload_n dX5_find_81 rfl ?_
    refine R_get dX5_find_82 gf_X5_26 h.1 rfl ?_
    refine R_iload_n dX5_find_85 rfl ?_
    refine R_ialdN dX5_find_86 h.a9 (by first | omega | decide) (by decide) ?_
    refine RR.top (y := nI (L)) (hs) ?_
    refine R_iadd dX5_find_87 ?_
    refine RR.top (y := nI (p + L)) (nI_add (p) (L)) ?_
    refine R_iload_n dX5_find_88 rfl ?_
    refine R_icmp_gt (tgt := 112) dX5_find_89 (by decide) (fun c89 => ?_) (fun c89 => absurd (nI_lt (by omega) (by omega)) c89)
    refine R_iconst (v := (-1)) dX5_find_112 (by decide) ?_
    exact R_iret dX5_find_113 rfl (⟨_, rfl, rfl, rfl⟩)
  | succ d ih =>
    intro p hd
    refine R_iload dX5_find_79 rfl ?_
    refine R_aload_n dX5_find_81 rfl ?_
    refine R_get dX5_find_82 gf_X5_26 h.1 rfl ?_
    refine R_iload_n dX5_find_85 rfl ?_
    refine R_ialdN dX5_find_86 h.a9 (by first | omega | decide) (by decide) ?_
    refine RR.top (y := nI (L)) (hs) ?_
    refine R_iadd dX5_find_87 ?_
    refine RR.top (y := nI (p + L)) (nI_add (p) (L)) ?_
    refine R_iload_n dX5_find_88 rfl ?_
    refine R_icmp_gt (tgt := 112) dX5_find_89 (by decide) (fun c89 => absurd c89 (nI_nlt (by omega) (by omega))) (fun c89 => ?_)
    refine R_aload_n dX5_find_92 rfl ?_
    refine R_iload_n dX5_find_93 rfl ?_
    refine R_iload_n dX5_find_94 rfl ?_
    refine R_iload dX5_find_95 rfl ?_
    refine R_callVp dX5_find_97 cv_X5_215 ⟨by decide, by decide⟩ (m_standsS G hh h hi hu hL (by omega) hs) h.1 rfl rfl rfl (Nat.le_of_ble_eq_true rfl) ?_
    refine R_if_eq (tgt := 106) dX5_find_100 (by decide) (fun c100 => ?_) (fun c100 => ?_)
    · refine R_iinc (y := nI (p + 1)) dX5_find_106 rfl (by decide) (nI_s (p)) ?_
      refine R_goto (tgt := 79) dX5_find_109 (by decide) ?_
      have e9 : plc (mL a u) (mL a i) L p (d + 1) = plc (mL a u) (mL a i) L (p + 1) d := if_neg (bl_f c100)
      rw [e9]
      exact RR.pick [1, 2, 3, 4, 0] rfl (ih (p + 1) (by omega))
    · refine R_iload dX5_find_103 rfl ?_
      exact R_iret dX5_find_105 rfl (⟨_, rfl, (if_pos (bl_t c100)).symm, rfl⟩)
set_option maxRecDepth 4000 in
theorem m_findS (G : GG) (hh : HH) {k : Nat} {a : AA} {v : VV} (h : MdAt G hh k a v) {b : Nat → Bool} {lL : Nat → Nat} (hS : ∀ t, t < 3 → a 9 t = szI (b t) (lL t)) (hlL : ∀ t, t < 3 → lL t ≤ 40) {m : Nat} (hm : m ≤ 20) (hc : a 0 3 = nI m) {u : Nat} (hu : u < 3) (t : Int32) : EVi G mX5_find [.ref (ad G k), .int t, .int (nI (u + 1))] hh (fun y h1 => y = anFind b (mL a) lL (wrl (mA a 0) m) t (nI (u + 1)) ∧ (h1 = hh ∨ ((∃ f, MdAt G h1 k (va_up a 18 f) (va_up v 19 (nI (wrl (mA a 0) m).length)) ∧ pref f (wrl (mA a 0) m)) ∧ Fr k (k + 11) hh h1))) := by
  refine EV.of [(0, .ref (ad G k)), (1, .int t), (2, .int (nI (u + 1)))] (by decide +kernel) (Nat.le_of_ble_eq_true rfl) rfl ?_
  refine R_iload_n dX5_find_0 rfl ?_
  refine R_callSp dX5_find_1 cs_X5_210 ⟨by decide, by decide⟩ (d_isSlip G hh t) rfl rfl (Nat.le_of_ble_eq_true rfl) ?_
  refine R_if_ne (tgt := 10) dX5_find_4 (by decide) (fun c4 => ?_) (fun c4 => ?_)
  · refine R_iload_n dX5_find_10 rfl ?_
    refine R_i2l dX5_find_11 ?_
    refine R_lconst (v := 0) dX5_find_12 (by decide) ?_
    refine R_ldc2 dX5_find_13 kc_X5_213 ?_
    refine R_callSp dX5_find_16 cs_X5_57 ⟨by decide, by decide⟩ (d_in03 G hh (nI (u + 1))) rfl rfl (Nat.le_of_ble_eq_true rfl) ?_
    refine R_if_ne (tgt := 25) dX5_find_19 (by decide) (fun c19 => ?_) (fun c19 => absurd (by rw [decide_eq_true (show ¬ nI (u + 1) < 0 ∧ nI (u + 1) ≤ 3 from ⟨nI_pos (by omega), (nI_leI (b := 3) (by omega) (by decide)).mpr (by omega)⟩)]; decide) c19)
    have hj : 0 ≤ t ∧ t < 3 := dt c4
    obtain ⟨i, hi, rfl⟩ := ix_in (n := 3) (by omega) (Int32.not_lt.mpr hj.1) hj.2
    have ec : (nI i).toNatClampNeg = i := nI_clamp (by omega)
    have hSi := hS i hi
    have hLi := hlL i hi
    have hw3 : ¬ nI (u + 1) < 0 ∧ nI (u + 1) ≤ 3 := ⟨nI_pos (by omega), (nI_leI (b := 3) (by omega) (by decide)).mpr (by omega)⟩
    have hw0 : ¬ nI (u + 1) = 0 := nI_ne0 (by omega) (by omega)
    have hSu := hS u hu
    have hLu := hlL u hu
    refine R_aload_n dX5_find_25 rfl ?_
    refine R_get dX5_find_26 gf_X5_26 h.1 rfl ?_
    refine R_iload_n dX5_find_29 rfl ?_
    refine R_ialdN dX5_find_30 h.a9 (by first | omega | decide) (by decide) ?_
    refine R_if_lt (tgt := 49) dX5_find_31 (by decide) (fun c31 => ?_) (fun c31 => ?_)
    · refine R_bipush (v := (-11)) dX5_find_49 (by decide) ?_
      exact R_iret dX5_find_51 rfl (⟨_, rfl, by (unfold anFind; simp only [ec, u1_clamp hu]; rw [if_pos hj, if_pos hw3, if_neg (sz_f hSi hLi (Int32.not_le.mpr c31))]), Or.inl rfl⟩)
    · refine R_iload_n dX5_find_34 rfl ?_
      refine R_if_le (tgt := 52) dX5_find_35 (by decide) (fun c35 => absurd c35 (nI_nle (by omega) (by omega))) (fun c35 => ?_)
      refine R_aload_n dX5_find_38 rfl ?_
      refine R_get dX5_find_39 gf_X5_26 h.1 rfl ?_
      refine R_iload_n dX5_find_42 rfl ?_
      refine R_iconst (v := 1) dX5_find_43 (by decide) ?_
      refine R_isub dX5_find_44 ?_
      refine RR.top (y := nI (((u + 1)) - 1)) (pk_sub (a := (u + 1)) (b := 1) (by omega)) ?_
      refine R_ialdN dX5_find_45 h.a9 (by first | omega | decide) (by decide) ?_
      refine RR.top (y := a 9 u) (by rw [show (u + 1) - 1 = u by omega]) ?_
      refine R_if_ge (tgt := 52) dX5_find_46 (by decide) (fun c46 => ?_) (fun c46 => ?_)
      · have hbt := sz_t hSi (Int32.not_lt.mp c31)
        have es := sz_e hSi hbt
        have hbu := sz_t hSu c46
        have esu := sz_e hSu hbu
        refine R_aload_n dX5_find_52 rfl ?_
        refine R_callVv dX5_find_53 cv_X5_194 ⟨by decide, by decide⟩ (m_layWriting G hh h hm hc) h.1 rfl rfl rfl (Nat.le_of_ble_eq_true rfl) (fun hh hw => ?_)
        obtain ⟨⟨f, h, hp⟩, hF1⟩ := hw
        refine R_iload_n dX5_find_56 rfl ?_
        refine R_if_ne (tgt := 67) dX5_find_57 (by decide) (fun c57 => ?_) (fun c57 => absurd (nI_ne0 (by omega) (by omega)) c57)
        refine R_aload_n dX5_find_67 rfl ?_
        refine R_get dX5_find_68 gf_X5_26 h.1 rfl ?_
        refine R_iload_n dX5_find_71 rfl ?_
        refine R_iconst (v := 1) dX5_find_72 (by decide) ?_
        refine R_isub dX5_find_73 ?_
        refine RR.top (y := nI (((u + 1)) - 1)) (pk_sub (a := (u + 1)) (b := 1) (by omega)) ?_
        refine R_ialdN dX5_find_74 h.a9 (by first | omega | decide) (by decide) ?_
        refine RR.top (y := nI (lL u)) (by rw [show (u + 1) - 1 = u by omega]; exact esu) ?_
        refine R_istore_n dX5_find_75 (by decide) ?_
        refine R_iconst (v := 0) dX5_find_76 (by decide) ?_
        refine R_istore dX5_find_77 (by decide) ?_
        refine RR.pick [2, 3, 4, 1, 0] rfl ?_
        refine RR.post (l_findS G hh (N := lL u) h hi hu hLi (by omega) es (lL u + 1 - lL i) 0 (by omega)) (fun r h1 hq => ?_)
        obtain ⟨w9, e1, e2, e3⟩ := hq
        subst e3
        refine ⟨w9, e1, ?_, Or.inr ⟨⟨f, h, hp⟩, hF1⟩⟩
        unfold anFind
        simp only [ec, u1_clamp hu]
        rw [if_pos hj, if_pos hw3, if_pos hbt, if_neg hw0, if_pos hbu, e2]
        rfl
      · refine R_bipush (v := (-11)) dX5_find_49 (by decide) ?_
        exact R_iret dX5_find_51 rfl (⟨_, rfl, by (unfold anFind; simp only [ec, u1_clamp hu]; rw [if_pos hj, if_pos hw3, if_pos (sz_t hSi (Int32.not_lt.mp c31)), if_neg hw0, if_neg (sz_f hSu hLu c46)]), Or.inl rfl⟩)
  · refine R_bipush (v := (-2)) dX5_find_7 (by decide) ?_
    exact R_iret dX5_find_9 rfl (⟨_, rfl, by (rw [anFind, if_neg (dfn c4)]), Or.inl rfl⟩)
set_option maxRecDepth 4000 in
theorem m_findE (G : GG) (hh : HH) {k : Nat} {a : AA} {v : VV} (h : MdAt G hh k a v) {b : Nat → Bool} {lL : Nat → Nat} (hS : ∀ t, t < 3 → a 9 t = szI (b t) (lL t)) (hlL : ∀ t, t < 3 → lL t ≤ 40) {m : Nat} (hm : m ≤ 20) (hc : a 0 3 = nI m) (t w : Int32) (hw : ¬ (¬ w < 0 ∧ w ≤ 3)) : EVi G mX5_find [.ref (ad G k), .int t, .int w] hh (fun y h1 => y = anFind b (mL a) lL (wrl (mA a 0) m) t w ∧ (h1 = hh ∨ ((∃ f, MdAt G h1 k (va_up a 18 f) (va_up v 19 (nI (wrl (mA a 0) m).length)) ∧ pref f (wrl (mA a 0) m)) ∧ Fr k (k + 11) hh h1))) := by
  refine EV.of [(0, .ref (ad G k)), (1, .int t), (2, .int w)] (by decide +kernel) (Nat.le_of_ble_eq_true rfl) rfl ?_
  refine R_iload_n dX5_find_0 rfl ?_
  refine R_callSp dX5_find_1 cs_X5_210 ⟨by decide, by decide⟩ (d_isSlip G hh t) rfl rfl (Nat.le_of_ble_eq_true rfl) ?_
  refine R_if_ne (tgt := 10) dX5_find_4 (by decide) (fun c4 => ?_) (fun c4 => ?_)
  · refine R_iload_n dX5_find_10 rfl ?_
    refine R_i2l dX5_find_11 ?_
    refine R_lconst (v := 0) dX5_find_12 (by decide) ?_
    refine R_ldc2 dX5_find_13 kc_X5_213 ?_
    refine R_callSp dX5_find_16 cs_X5_57 ⟨by decide, by decide⟩ (d_in03 G hh w) rfl rfl (Nat.le_of_ble_eq_true rfl) ?_
    refine R_if_ne (tgt := 25) dX5_find_19 (by decide) (fun c19 => absurd c19 (by rw [decide_eq_false hw]; decide)) (fun c19 => ?_)
    refine R_bipush (v := (-3)) dX5_find_22 (by decide) ?_
    exact R_iret dX5_find_24 rfl (⟨_, rfl, by (rw [anFind, if_pos (dt c4), if_neg hw]), Or.inl rfl⟩)
  · refine R_bipush (v := (-2)) dX5_find_7 (by decide) ?_
    exact R_iret dX5_find_9 rfl (⟨_, rfl, by (rw [anFind, if_neg (dfn c4)]), Or.inl rfl⟩)
theorem m_find (G : GG) (hh : HH) {k : Nat} {a : AA} {v : VV} (h : MdAt G hh k a v) {b : Nat → Bool} {lL : Nat → Nat} (hS : ∀ t, t < 3 → a 9 t = szI (b t) (lL t)) (hlL : ∀ t, t < 3 → lL t ≤ 40) {m : Nat} (hm : m ≤ 20) (hc : a 0 3 = nI m) (t w : Int32) : EVi G mX5_find [.ref (ad G k), .int t, .int w] hh (fun y h1 => y = anFind b (mL a) lL (wrl (mA a 0) m) t w ∧ (h1 = hh ∨ ((∃ f, MdAt G h1 k (va_up a 18 f) (va_up v 19 (nI (wrl (mA a 0) m).length)) ∧ pref f (wrl (mA a 0) m)) ∧ Fr k (k + 11) hh h1))) := by
  by_cases hw : ¬ w < 0 ∧ w ≤ 3
  · obtain ⟨u, hu, rfl⟩ := nI_of2 (M := 3) (n := 3) rfl hw.1 hw.2
    cases u with
    | zero => exact m_find0 G hh h hS hlL hm hc t
    | succ u => exact m_findS G hh h hS hlL hm hc (u := u) (by omega) t
  · exact m_findE G hh h hS hlL hm hc t w hw
