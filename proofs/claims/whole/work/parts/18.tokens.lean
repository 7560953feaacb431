/-- the reader, at cell q, of the text at cell k -/
def RdAt (G : GG) (hh : HH) (q k : Nat) (kd s e c : Int32) : Prop := hAt G hh q (.inr (3, [.ref (ad G k), .int kd, .int s, .int e, .int c]))
theorem RdAt.fr {G : GG} {hh hh' : HH} {q k lo hi : Nat} {kd s e c : Int32} (h : RdAt G hh q k kd s e c) (hF : Fr lo hi hh hh') (hk : q < lo ∨ hi ≤ q) : RdAt G hh' q k kd s e c := hAt.fr h hF hk
theorem Rd_put1 {G : GG} {μ : MI} {pc : Nat} {lv : List (Nat × Value)} {st : List Value} {hh : HH} {Q : QQ} {q k idx : Nat} {kd s e c x : Int32} (hd : decode μ.2.1 pc = .ok (.putfield idx, 3)) (hw : pfOK μ.1.cls idx 3 1 .int) (h : RdAt G hh q k kd s e c) (k1 : ∀ hh1, RdAt G hh1 q k x s e c → Fr q (q + 1) hh hh1 → RR G μ (pc + 3) lv st hh1 Q) : RR G μ pc lv (.int x :: .ref (ad G q) :: st) hh Q := R_put hd hw h rfl rfl (show 1 < 5 by decide) (k1 _ (hAt.up h.1) (Fr.up _ Fr.rf (Nat.le_refl q) (Nat.lt_succ_self q)))
theorem Rd_put2 {G : GG} {μ : MI} {pc : Nat} {lv : List (Nat × Value)} {st : List Value} {hh : HH} {Q : QQ} {q k idx : Nat} {kd s e c x : Int32} (hd : decode μ.2.1 pc = .ok (.putfield idx, 3)) (hw : pfOK μ.1.cls idx 3 2 .int) (h : RdAt G hh q k kd s e c) (k1 : ∀ hh1, RdAt G hh1 q k kd x e c → Fr q (q + 1) hh hh1 → RR G μ (pc + 3) lv st hh1 Q) : RR G μ pc lv (.int x :: .ref (ad G q) :: st) hh Q := R_put hd hw h rfl rfl (show 2 < 5 by decide) (k1 _ (hAt.up h.1) (Fr.up _ Fr.rf (Nat.le_refl q) (Nat.lt_succ_self q)))
theorem Rd_put3 {G : GG} {μ : MI} {pc : Nat} {lv : List (Nat × Value)} {st : List Value} {hh : HH} {Q : QQ} {q k idx : Nat} {kd s e c x : Int32} (hd : decode μ.2.1 pc = .ok (.putfield idx, 3)) (hw : pfOK μ.1.cls idx 3 3 .int) (h : RdAt G hh q k kd s e c) (k1 : ∀ hh1, RdAt G hh1 q k kd s x c → Fr q (q + 1) hh hh1 → RR G μ (pc + 3) lv st hh1 Q) : RR G μ pc lv (.int x :: .ref (ad G q) :: st) hh Q := R_put hd hw h rfl rfl (show 3 < 5 by decide) (k1 _ (hAt.up h.1) (Fr.up _ Fr.rf (Nat.le_refl q) (Nat.lt_succ_self q)))
theorem Rd_put4 {G : GG} {μ : MI} {pc : Nat} {lv : List (Nat × Value)} {st : List Value} {hh : HH} {Q : QQ} {q k idx : Nat} {kd s e c x : Int32} (hd : decode μ.2.1 pc = .ok (.putfield idx, 3)) (hw : pfOK μ.1.cls idx 3 4 .int) (h : RdAt G hh q k kd s e c) (k1 : ∀ hh1, RdAt G hh1 q k kd s e x → Fr q (q + 1) hh hh1 → RR G μ (pc + 3) lv st hh1 Q) : RR G μ pc lv (.int x :: .ref (ad G q) :: st) hh Q := R_put hd hw h rfl rfl (show 4 < 5 by decide) (k1 _ (hAt.up h.1) (Fr.up _ Fr.rf (Nat.le_refl q) (Nat.lt_succ_self q)))
def spn (p : Nat → Bool) : Nat → Nat → Nat
  | i, 0 => i
  | i, d + 1 => if p i = true then spn p (i + 1) d else i
theorem spn_ge (p : Nat → Bool) : ∀ (d i : Nat), i ≤ spn p i d
  | 0, i => Nat.le_refl i
  | d + 1, i => by
    show i ≤ (if p i = true then spn p (i + 1) d else i)
    have := spn_ge p d (i + 1)
    split <;> omega
theorem spn_le (p : Nat → Bool) : ∀ (d i : Nat), spn p i d ≤ i + d
  | 0, i => Nat.le_refl i
  | d + 1, i => by
    show (if p i = true then spn p (i + 1) d else i) ≤ i + (d + 1)
    have := spn_le p d (i + 1)
    split <;> omega
def smB (x : Int32) : Bool := decide (97 ≤ x ∧ x ≤ 122)
def dgB (x : Int32) : Bool := decide (48 ≤ x ∧ x ≤ 57)
/-- the token behind place e: where it begins, of which kind it is, where it ends -/
def tkS (f : Nat → Int32) (L e : Nat) : Nat := spn (fun j => decide (f j = 32)) e (L - e)
def tkK (f : Nat → Int32) (L s : Nat) : Int32 := if L ≤ s then 0 else if smB (f s) = true then 1 else if dgB (f s) = true then 2 else 3
def tkE (f : Nat → Int32) (L s : Nat) : Nat := if L ≤ s then s else if smB (f s) = true then spn (fun j => smB (f j)) s (L - s) else if dgB (f s) = true then spn (fun j => dgB (f j)) s (L - s) else s + 1
theorem tkS_ge (f : Nat → Int32) (L e : Nat) : e ≤ tkS f L e := spn_ge _ _ _
theorem tkS_le (f : Nat → Int32) {L e : Nat} (h : e ≤ L) : tkS f L e ≤ L := by
  have := spn_le (fun j => decide (f j = 32)) (L - e) e
  unfold tkS; omega
theorem tkE_ge (f : Nat → Int32) (L s : Nat) : s ≤ tkE f L s := by
  unfold tkE
  have h1 := spn_ge (fun j => smB (f j)) (L - s) s
  have h2 := spn_ge (fun j => dgB (f j)) (L - s) s
  split
  · exact Nat.le_refl s
  · split
    · exact h1
    · split
      · exact h2
      · omega
theorem tkE_le (f : Nat → Int32) {L s : Nat} (h : s ≤ L) : tkE f L s ≤ L := by
  unfold tkE
  have h1 := spn_le (fun j => smB (f j)) (L - s) s
  have h2 := spn_le (fun j => dgB (f j)) (L - s) s
  split
  · omega
  · split
    · omega
    · split <;> omega
set_option maxRecDepth 4000 in
theorem l_skip (G : GG) (hh0 : HH) {q k n L : Nat} {f : Nat → Int32} (hL : L ≤ n) (hn : n ≤ 1000) (hap : q < k ∨ k + 2 ≤ q) {kd e0 c : Int32} {Q : QQ} : ∀ (d i : Nat) (hh : HH), i + d = L → RdAt G hh q k kd (nI i) e0 c → LeAt G hh k n f (nI L) → Fr q (q + 1) hh0 hh → (∀ hh, RdAt G hh q k kd (nI (spn (fun j => decide (f j = 32)) i d)) e0 c → LeAt G hh k n f (nI L) → Fr q (q + 1) hh0 hh → RR G mX3_step 52 [(0, .ref (ad G q))] [] hh Q) → RR G mX3_step 8 [(0, .ref (ad G q))] [] hh (Q) := by
  intro d
  induction d with
  | zero =>
    intro i hh hi h t hF K
    refine R_aload_n dX3_step_8 rfl ?_
    refine R_get dX3_step_9 gf_X3_29 h rfl ?_
    refine R_aload_n dX3_step_12 rfl ?_
    refine R_get dX3_step_13 gf_X3_9 h rfl ?_
    refine R_get dX3_step_16 gf_X3_39 t.1 rfl ?_
    refine R_icmp_ge (tgt := 52) dX3_step_19 (by decide) (fun c19 => ?_) (fun c19 => absurd (nI_le (by omega) (by omega)) c19)
    exact K hh h t hF
  | succ d ih =>
    intro i hh hi h t hF K
    refine R_aload_n dX3_step_8 rfl ?_
    refine R_get dX3_step_9 gf_X3_29 h rfl ?_
    refine R_aload_n dX3_step_12 rfl ?_
    refine R_get dX3_step_13 gf_X3_9 h rfl ?_
    refine R_get dX3_step_16 gf_X3_39 t.1 rfl ?_
    refine R_icmp_ge (tgt := 52) dX3_step_19 (by decide) (fun c19 => absurd c19 (nI_ge (by omega) (by omega))) (fun c19 => ?_)
    refine R_aload_n dX3_step_22 rfl ?_
    refine R_get dX3_step_23 gf_X3_9 h rfl ?_
    refine R_get dX3_step_26 gf_X3_44 t.1 rfl ?_
    refine R_aload_n dX3_step_29 rfl ?_
    refine R_get dX3_step_30 gf_X3_29 h rfl ?_
    refine R_ialdN dX3_step_33 t.2 (by omega) (by omega) ?_
    refine R_bipush (v := 32) dX3_step_34 (by decide) ?_
    refine R_icmp_ne (tgt := 52) dX3_step_36 (by decide) (fun c36 => ?_) (fun c36 => ?_)
    · refine K hh ?_ t hF
      rw [show spn (fun j => decide (f j = 32)) i (d + 1) = i from if_neg (by simpa [bl, smB, dgB] using c36)]
      exact h
    · refine R_aload_n dX3_step_39 rfl ?_
      refine R_dup dX3_step_40 rfl ?_
      refine R_get dX3_step_41 gf_X3_29 h rfl ?_
      refine R_iconst (v := 1) dX3_step_44 (by decide) ?_
      refine R_iadd dX3_step_45 ?_
      refine RR.top (y := nI (i + 1)) (nI_1 i) ?_
      refine Rd_put2 dX3_step_46 pf_X3_29 h (fun hh h hF1 => ?_)
      have hF := hF.tr hF1 (by omega) (by omega)
      have t := t.fr hF1 (by omega)
      refine R_goto (tgt := 8) dX3_step_49 (by decide) ?_
      refine RR.pick [0] rfl (ih (i + 1) hh (by omega) h t hF (fun hh h t hF => K hh ?_ t hF))
      rw [show spn (fun j => decide (f j = 32)) i (d + 1) = spn (fun j => decide (f j = 32)) (i + 1) d from if_pos (by simpa [bl, smB, dgB] using c36)]
      exact h
set_option maxRecDepth 4000 in
theorem l_sm (G : GG) (hh0 : HH) {q k n L : Nat} {f : Nat → Int32} (hL : L ≤ n) (hn : n ≤ 1000) (hap : q < k ∨ k + 2 ≤ q) {kd s0 c : Int32} {Q : QQ} : ∀ (d i : Nat) (hh : HH), i + d = L → RdAt G hh q k kd s0 (nI i) c → LeAt G hh k n f (nI L) → Fr q (q + 1) hh0 hh → (∀ hh, RdAt G hh q k kd s0 (nI (spn (fun j => smB (f j)) i d)) c → LeAt G hh k n f (nI L) → Fr q (q + 1) hh0 hh → RR G mX3_step 233 [(0, .ref (ad G q))] [] hh Q) → RR G mX3_step 105 [(0, .ref (ad G q))] [] hh (Q) := by
  intro d
  induction d with
  | zero =>
    intro i hh hi h t hF K
    refine R_aload_n dX3_step_105 rfl ?_
    refine R_get dX3_step_106 gf_X3_15 h rfl ?_
    refine R_aload_n dX3_step_109 rfl ?_
    refine R_get dX3_step_110 gf_X3_9 h rfl ?_
    refine R_get dX3_step_113 gf_X3_39 t.1 rfl ?_
    refine R_icmp_ge (tgt := 233) dX3_step_116 (by decide) (fun c116 => ?_) (fun c116 => absurd (nI_le (by omega) (by omega)) c116)
    exact K hh h t hF
  | succ d ih =>
    intro i hh hi h t hF K
    refine R_aload_n dX3_step_105 rfl ?_
    refine R_get dX3_step_106 gf_X3_15 h rfl ?_
    refine R_aload_n dX3_step_109 rfl ?_
    refine R_get dX3_step_110 gf_X3_9 h rfl ?_
    refine R_get dX3_step_113 gf_X3_39 t.1 rfl ?_
    refine R_icmp_ge (tgt := 233) dX3_step_116 (by decide) (fun c116 => absurd c116 (nI_ge (by omega) (by omega))) (fun c116 => ?_)
    refine R_aload_n dX3_step_119 rfl ?_
    refine R_get dX3_step_120 gf_X3_9 h rfl ?_
    refine R_get dX3_step_123 gf_X3_44 t.1 rfl ?_
    refine R_aload_n dX3_step_126 rfl ?_
    refine R_get dX3_step_127 gf_X3_15 h rfl ?_
    refine R_ialdN dX3_step_130 t.2 (by omega) (by omega) ?_
    refine R_callSNp dX3_step_131 cn_X3_48 ⟨by decide, by decide⟩ (e_isSmallLetter G hh (f i)) rfl rfl (Nat.le_of_ble_eq_true rfl) ?_
    refine R_if_eq (tgt := 233) dX3_step_134 (by decide) (fun c134 => ?_) (fun c134 => ?_)
    · refine K hh ?_ t hF
      rw [show spn (fun j => smB (f j)) i (d + 1) = i from if_neg (by simpa [bl, smB, dgB] using c134)]
      exact h
    · refine R_aload_n dX3_step_137 rfl ?_
      refine R_dup dX3_step_138 rfl ?_
      refine R_get dX3_step_139 gf_X3_15 h rfl ?_
      refine R_iconst (v := 1) dX3_step_142 (by decide) ?_
      refine R_iadd dX3_step_143 ?_
      refine RR.top (y := nI (i + 1)) (nI_1 i) ?_
      refine Rd_put3 dX3_step_144 pf_X3_15 h (fun hh h hF1 => ?_)
      have hF := hF.tr hF1 (by omega) (by omega)
      have t := t.fr hF1 (by omega)
      refine R_goto (tgt := 105) dX3_step_147 (by decide) ?_
      refine RR.pick [0] rfl (ih (i + 1) hh (by omega) h t hF (fun hh h t hF => K hh ?_ t hF))
      rw [show spn (fun j => smB (f j)) i (d + 1) = spn (fun j => smB (f j)) (i + 1) d from if_pos (by simpa [bl, smB, dgB] using c134)]
      exact h
set_option maxRecDepth 4000 in
theorem l_dg (G : GG) (hh0 : HH) {q k n L : Nat} {f : Nat → Int32} (hL : L ≤ n) (hn : n ≤ 1000) (hap : q < k ∨ k + 2 ≤ q) {kd s0 c : Int32} {Q : QQ} : ∀ (d i : Nat) (hh : HH), i + d = L → RdAt G hh q k kd s0 (nI i) c → LeAt G hh k n f (nI L) → Fr q (q + 1) hh0 hh → (∀ hh, RdAt G hh q k kd s0 (nI (spn (fun j => dgB (f j)) i d)) c → LeAt G hh k n f (nI L) → Fr q (q + 1) hh0 hh → RR G mX3_step 233 [(0, .ref (ad G q))] [] hh Q) → RR G mX3_step 173 [(0, .ref (ad G q))] [] hh (Q) := by
  intro d
  induction d with
  | zero =>
    intro i hh hi h t hF K
    refine R_aload_n dX3_step_173 rfl ?_
    refine R_get dX3_step_174 gf_X3_15 h rfl ?_
    refine R_aload_n dX3_step_177 rfl ?_
    refine R_get dX3_step_178 gf_X3_9 h rfl ?_
    refine R_get dX3_step_181 gf_X3_39 t.1 rfl ?_
    refine R_icmp_ge (tgt := 233) dX3_step_184 (by decide) (fun c184 => ?_) (fun c184 => absurd (nI_le (by omega) (by omega)) c184)
    exact K hh h t hF
  | succ d ih =>
    intro i hh hi h t hF K
    refine R_aload_n dX3_step_173 rfl ?_
    refine R_get dX3_step_174 gf_X3_15 h rfl ?_
    refine R_aload_n dX3_step_177 rfl ?_
    refine R_get dX3_step_178 gf_X3_9 h rfl ?_
    refine R_get dX3_step_181 gf_X3_39 t.1 rfl ?_
    refine R_icmp_ge (tgt := 233) dX3_step_184 (by decide) (fun c184 => absurd c184 (nI_ge (by omega) (by omega))) (fun c184 => ?_)
    refine R_aload_n dX3_step_187 rfl ?_
    refine R_get dX3_step_188 gf_X3_9 h rfl ?_
    refine R_get dX3_step_191 gf_X3_44 t.1 rfl ?_
    refine R_aload_n dX3_step_194 rfl ?_
    refine R_get dX3_step_195 gf_X3_15 h rfl ?_
    refine R_ialdN dX3_step_198 t.2 (by omega) (by omega) ?_
    refine R_callSNp dX3_step_199 cn_X3_51 ⟨by decide, by decide⟩ (e_isDigit G hh (f i)) rfl rfl (Nat.le_of_ble_eq_true rfl) ?_
    refine R_if_eq (tgt := 233) dX3_step_202 (by decide) (fun c202 => ?_) (fun c202 => ?_)
    · refine K hh ?_ t hF
      rw [show spn (fun j => dgB (f j)) i (d + 1) = i from if_neg (by simpa [bl, smB, dgB] using c202)]
      exact h
    · refine R_aload_n dX3_step_205 rfl ?_
      refine R_dup dX3_step_206 rfl ?_
      refine R_get dX3_step_207 gf_X3_15 h rfl ?_
      refine R_iconst (v := 1) dX3_step_210 (by decide) ?_
      refine R_iadd dX3_step_211 ?_
      refine RR.top (y := nI (i + 1)) (nI_1 i) ?_
      refine Rd_put3 dX3_step_212 pf_X3_15 h (fun hh h hF1 => ?_)
      have hF := hF.tr hF1 (by omega) (by omega)
      have t := t.fr hF1 (by omega)
      refine R_goto (tgt := 173) dX3_step_215 (by decide) ?_
      refine RR.pick [0] rfl (ih (i + 1) hh (by omega) h t hF (fun hh h t hF => K hh ?_ t hF))
      rw [show spn (fun j => dgB (f j)) i (d + 1) = spn (fun j => dgB (f j)) (i + 1) d from if_pos (by simpa [bl, smB, dgB] using c202)]
      exact h
set_option maxRecDepth 4000 in
theorem e_step (G : GG) (hh : HH) {q k n L e : Nat} {f : Nat → Int32} {kd s0 c : Int32} (h : RdAt G hh q k kd s0 (nI e) c) (t : LeAt G hh k n f (nI L)) (hL : L ≤ n) (hn : n ≤ 1000) (hap : q < k ∨ k + 2 ≤ q) (he : e ≤ L) : EVv G mX3_step [.ref (ad G q)] hh (fun h1 => RdAt G h1 q k (tkK f L (tkS f L e)) (nI (tkS f L e)) (nI (tkE f L (tkS f L e))) c ∧ Fr q (q + 1) hh h1) := by
  refine EV.of [(0, .ref (ad G q))] (by decide +kernel) (Nat.le_of_ble_eq_true rfl) rfl ?_
  have hF : Fr q (q + 1) hh hh := Fr.rf
  refine R_aload_n dX3_step_0 rfl ?_
  refine R_aload_n dX3_step_1 rfl ?_
  refine R_get dX3_step_2 gf_X3_15 h rfl ?_
  refine Rd_put2 dX3_step_5 pf_X3_29 h (fun hh h hF1 => ?_)
  have hF := hF.tr hF1 (by omega) (by omega)
  have t := t.fr hF1 (by omega)
  have hs1 := tkS_ge f L e
  have hs2 := tkS_le f he
  refine RR.pick [0] rfl (l_skip G _ hL hn hap (L - e) e hh (by omega) h t hF (fun hh h t hF => ?_))
  have h : RdAt G hh q k kd (nI (tkS f L e)) (nI e) c := h
  refine R_aload_n dX3_step_52 rfl ?_
  refine R_aload_n dX3_step_53 rfl ?_
  refine R_get dX3_step_54 gf_X3_29 h rfl ?_
  refine Rd_put3 dX3_step_57 pf_X3_15 h (fun hh h hF1 => ?_)
  have hF := hF.tr hF1 (by omega) (by omega)
  have t := t.fr hF1 (by omega)
  refine R_aload_n dX3_step_60 rfl ?_
  refine R_get dX3_step_61 gf_X3_29 h rfl ?_
  refine R_aload_n dX3_step_64 rfl ?_
  refine R_get dX3_step_65 gf_X3_9 h rfl ?_
  refine R_get dX3_step_68 gf_X3_39 t.1 rfl ?_
  refine R_icmp_lt (tgt := 82) dX3_step_71 (by decide) (fun c71 => ?_) (fun c71 => ?_)
  · rw [nI_ltI (by omega) (by omega)] at c71
    refine R_aload_n dX3_step_82 rfl ?_
    refine R_get dX3_step_83 gf_X3_9 h rfl ?_
    refine R_get dX3_step_86 gf_X3_44 t.1 rfl ?_
    refine R_aload_n dX3_step_89 rfl ?_
    refine R_get dX3_step_90 gf_X3_29 h rfl ?_
    refine R_ialdN dX3_step_93 t.2 (by omega) (by omega) ?_
    refine R_callSNp dX3_step_94 cn_X3_48 ⟨by decide, by decide⟩ (e_isSmallLetter G hh (f (tkS f L e))) rfl rfl (Nat.le_of_ble_eq_true rfl) ?_
    refine R_if_eq (tgt := 150) dX3_step_97 (by decide) (fun c97 => ?_) (fun c97 => ?_)
    · refine R_aload_n dX3_step_150 rfl ?_
      refine R_get dX3_step_151 gf_X3_9 h rfl ?_
      refine R_get dX3_step_154 gf_X3_44 t.1 rfl ?_
      refine R_aload_n dX3_step_157 rfl ?_
      refine R_get dX3_step_158 gf_X3_29 h rfl ?_
      refine R_ialdN dX3_step_161 t.2 (by omega) (by omega) ?_
      refine R_callSNp dX3_step_162 cn_X3_51 ⟨by decide, by decide⟩ (e_isDigit G hh (f (tkS f L e))) rfl rfl (Nat.le_of_ble_eq_true rfl) ?_
      refine R_if_eq (tgt := 218) dX3_step_165 (by decide) (fun c165 => ?_) (fun c165 => ?_)
      · have q1 : smB (f (tkS f L e)) = false := by simpa [bl, smB] using c97
        have q2 : dgB (f (tkS f L e)) = false := by simpa [bl, dgB] using c165
        have e1 : tkK f L (tkS f L e) = 3 := by simp [tkK, q1, q2, show ¬ L ≤ (tkS f L e) by omega]
        have e2 : tkE f L (tkS f L e) = (tkS f L e) + 1 := by simp [tkE, q1, q2, show ¬ L ≤ (tkS f L e) by omega]
        refine R_aload_n dX3_step_218 rfl ?_
        refine R_iconst (v := 3) dX3_step_219 (by decide) ?_
        refine Rd_put1 dX3_step_220 pf_X3_32 h (fun hh h hF1 => ?_)
        have hF := hF.tr hF1 (by omega) (by omega)
        have t := t.fr hF1 (by omega)
        refine R_aload_n dX3_step_223 rfl ?_
        refine R_dup dX3_step_224 rfl ?_
        refine R_get dX3_step_225 gf_X3_15 h rfl ?_
        refine R_iconst (v := 1) dX3_step_228 (by decide) ?_
        refine R_iadd dX3_step_229 ?_
        refine RR.top (y := nI ((tkS f L e) + 1)) (nI_1 _) ?_
        refine Rd_put3 dX3_step_230 pf_X3_15 h (fun hh h hF1 => ?_)
        have hF := hF.tr hF1 (by omega) (by omega)
        have t := t.fr hF1 (by omega)
        exact R_vret dX3_step_233 rfl (⟨rfl, by rw [show tkK f L (tkS f L e) = 3 from e1, show tkE f L (tkS f L e) = _ from e2]; exact h, hF⟩)
      · refine R_aload_n dX3_step_168 rfl ?_
        refine R_iconst (v := 2) dX3_step_169 (by decide) ?_
        refine Rd_put1 dX3_step_170 pf_X3_32 h (fun hh h hF1 => ?_)
        have hF := hF.tr hF1 (by omega) (by omega)
        have t := t.fr hF1 (by omega)
        have q1 : smB (f (tkS f L e)) = false := by simpa [bl, smB] using c97
        have q2 : dgB (f (tkS f L e)) = true := by simpa [bl, dgB] using c165
        have e1 : tkK f L (tkS f L e) = 2 := by simp [tkK, q1, q2, show ¬ L ≤ (tkS f L e) by omega]
        have e2 : tkE f L (tkS f L e) = spn (fun j => dgB (f j)) (tkS f L e) (L - (tkS f L e)) := by simp [tkE, q1, q2, show ¬ L ≤ (tkS f L e) by omega]
        refine RR.pick [0] rfl (l_dg G _ hL hn hap (L - (tkS f L e)) (tkS f L e) hh (by omega) h t hF (fun hh h t hF => ?_))
        exact R_vret dX3_step_233 rfl ⟨rfl, by rw [e1, e2]; exact h, hF⟩
    · refine R_aload_n dX3_step_100 rfl ?_
      refine R_iconst (v := 1) dX3_step_101 (by decide) ?_
      refine Rd_put1 dX3_step_102 pf_X3_32 h (fun hh h hF1 => ?_)
      have hF := hF.tr hF1 (by omega) (by omega)
      have t := t.fr hF1 (by omega)
      have q1 : smB (f (tkS f L e)) = true := by simpa [bl, smB] using c97
      have e1 : tkK f L (tkS f L e) = 1 := by simp [tkK, q1, show ¬ L ≤ (tkS f L e) by omega]
      have e2 : tkE f L (tkS f L e) = spn (fun j => smB (f j)) (tkS f L e) (L - (tkS f L e)) := by simp [tkE, q1, show ¬ L ≤ (tkS f L e) by omega]
      refine RR.pick [0] rfl (l_sm G _ hL hn hap (L - (tkS f L e)) (tkS f L e) hh (by omega) h t hF (fun hh h t hF => ?_))
      exact R_vret dX3_step_233 rfl ⟨rfl, by rw [e1, e2]; exact h, hF⟩
  · rw [nI_ltI (by omega) (by omega)] at c71
    have e1 : tkK f L (tkS f L e) = 0 := if_pos (by omega)
    have e2 : tkE f L (tkS f L e) = (tkS f L e) := if_pos (by omega)
    refine R_aload_n dX3_step_74 rfl ?_
    refine R_iconst (v := 0) dX3_step_75 (by decide) ?_
    refine Rd_put1 dX3_step_76 pf_X3_32 h (fun hh h hF1 => ?_)
    have hF := hF.tr hF1 (by omega) (by omega)
    have t := t.fr hF1 (by omega)
    refine R_goto (tgt := 233) dX3_step_79 (by decide) ?_
    exact R_vret dX3_step_233 rfl (⟨rfl, by rw [show tkK f L (tkS f L e) = 0 from e1, show tkE f L (tkS f L e) = _ from e2]; exact h, hF⟩)
set_option maxRecDepth 4000 in
theorem e_isOther (G : GG) (hh : HH) {q k n L s e : Nat} {f : Nat → Int32} {kd c : Int32} (h : RdAt G hh q k kd (nI s) (nI e) c) (t : LeAt G hh k n f (nI L)) (hL : L ≤ n) (hn : n ≤ 1000) (hse : s ≤ e) (heL : e ≤ L) (x : Int32) : EVp G mX3_isOther [.ref (ad G q), .int x] hh (bl (decide (kd = 3 ∧ s < L ∧ f s = x))) := by
  refine EV.of [(0, .ref (ad G q)), (1, .int x)] (by decide +kernel) (Nat.le_of_ble_eq_true rfl) rfl ?_
  refine R_aload_n dX3_isOther_0 rfl ?_
  refine R_get dX3_isOther_1 gf_X3_32 h rfl ?_
  refine R_iconst (v := 3) dX3_isOther_4 (by decide) ?_
  refine R_icmp_ne (tgt := 42) dX3_isOther_5 (by decide) (fun c5 => ?_) (fun c5 => ?_)
  · skip
    refine R_iconst (v := 0) dX3_isOther_42 (by decide) ?_
    exact R_zret dX3_isOther_43 rfl (by first | exact Or.inl rfl | exact Or.inr rfl | assumption | omega) (⟨_, rfl, by simp_all [bl]; try omega, rfl⟩)
  · refine R_aload_n dX3_isOther_8 rfl ?_
    refine R_get dX3_isOther_9 gf_X3_29 h rfl ?_
    refine R_aload_n dX3_isOther_12 rfl ?_
    refine R_get dX3_isOther_13 gf_X3_9 h rfl ?_
    refine R_get dX3_isOther_16 gf_X3_39 t.1 rfl ?_
    refine R_icmp_ge (tgt := 42) dX3_isOther_19 (by decide) (fun c19 => ?_) (fun c19 => ?_)
    · rw [nI_leI (by omega) (by omega)] at c19
      refine R_iconst (v := 0) dX3_isOther_42 (by decide) ?_
      exact R_zret dX3_isOther_43 rfl (by first | exact Or.inl rfl | exact Or.inr rfl | assumption | omega) (⟨_, rfl, by simp_all [bl]; try omega, rfl⟩)
    · rw [nI_leI (by omega) (by omega)] at c19
      refine R_aload_n dX3_isOther_22 rfl ?_
      refine R_get dX3_isOther_23 gf_X3_9 h rfl ?_
      refine R_get dX3_isOther_26 gf_X3_44 t.1 rfl ?_
      refine R_aload_n dX3_isOther_29 rfl ?_
      refine R_get dX3_isOther_30 gf_X3_29 h rfl ?_
      refine R_ialdN dX3_isOther_33 t.2 (by omega) (by omega) ?_
      refine R_iload_n dX3_isOther_34 rfl ?_
      refine R_icmp_ne (tgt := 42) dX3_isOther_35 (by decide) (fun c35 => ?_) (fun c35 => ?_)
      · skip
        refine R_iconst (v := 0) dX3_isOther_42 (by decide) ?_
        exact R_zret dX3_isOther_43 rfl (by first | exact Or.inl rfl | exact Or.inr rfl | assumption | omega) (⟨_, rfl, by simp_all [bl]; try omega, rfl⟩)
      · refine R_iconst (v := 1) dX3_isOther_38 (by decide) ?_
        refine R_goto (tgt := 43) dX3_isOther_39 (by decide) ?_
        exact R_zret dX3_isOther_43 rfl (by first | exact Or.inl rfl | exact Or.inr rfl | assumption | omega) (⟨_, rfl, by simp_all [bl]; try omega, rfl⟩)
set_option maxRecDepth 4000 in
theorem e_isWord (G : GG) (hh : HH) {q k n L s e : Nat} {f : Nat → Int32} {kd c : Int32} (h : RdAt G hh q k kd (nI s) (nI e) c) (t : LeAt G hh k n f (nI L)) (hL : L ≤ n) (hn : n ≤ 1000) (hse : s ≤ e) (heL : e ≤ L) {w : Nat} (hw : w < 9) : EVp G mX3_isWord [.ref (ad G q), .ref (kK G w)] hh (bl (decide (kd = 1) && isW f s e w)) := by
  refine EV.of [(0, .ref (ad G q)), (1, .ref (kK G w))] (by decide +kernel) (Nat.le_of_ble_eq_true rfl) rfl ?_
  refine R_aload_n dX3_isWord_0 rfl ?_
  refine R_get dX3_isWord_1 gf_X3_32 h rfl ?_
  refine R_iconst (v := 1) dX3_isWord_4 (by decide) ?_
  refine R_icmp_ne (tgt := 31) dX3_isWord_5 (by decide) (fun c5 => ?_) (fun c5 => ?_)
  · refine R_iconst (v := 0) dX3_isWord_31 (by decide) ?_
    exact R_zret dX3_isWord_32 rfl (by first | exact Or.inl rfl | exact Or.inr rfl | assumption | omega) (⟨_, rfl, by simp_all [bl], rfl⟩)
  · refine R_aload_n dX3_isWord_8 rfl ?_
    refine R_get dX3_isWord_9 gf_X3_9 h rfl ?_
    refine R_aload_n dX3_isWord_12 rfl ?_
    refine R_get dX3_isWord_13 gf_X3_29 h rfl ?_
    refine R_aload_n dX3_isWord_16 rfl ?_
    refine R_get dX3_isWord_17 gf_X3_15 h rfl ?_
    refine R_aload_n dX3_isWord_20 rfl ?_
    refine R_callVp dX3_isWord_21 cv_X3_54 ⟨by decide, by decide⟩ (e_isWordAt G hh t hL hn hw s e hse heL) t.1 rfl rfl rfl (Nat.le_of_ble_eq_true rfl) ?_
    refine R_if_eq (tgt := 31) dX3_isWord_24 (by decide) (fun c24 => ?_) (fun c24 => ?_)
    · refine R_iconst (v := 0) dX3_isWord_31 (by decide) ?_
      exact R_zret dX3_isWord_32 rfl (by first | exact Or.inl rfl | exact Or.inr rfl | assumption | omega) (⟨_, rfl, by simp_all [bl], rfl⟩)
    · refine R_iconst (v := 1) dX3_isWord_27 (by decide) ?_
      refine R_goto (tgt := 32) dX3_isWord_28 (by decide) ?_
      exact R_zret dX3_isWord_32 rfl (by first | exact Or.inl rfl | exact Or.inr rfl | assumption | omega) (⟨_, rfl, by simp_all [bl], rfl⟩)
def numW (f : Nat → Int32) (s e : Nat) (kd lo hi : Int32) : Int32 :=
  let x := if kd = 2 then numOf f s e 2 else -1
  if x < lo ∨ hi < x then -1 else x
set_option maxRecDepth 4000 in
theorem e_numberWithin (G : GG) (hh : HH) {q k n L s e : Nat} {f : Nat → Int32} {kd c : Int32} (h : RdAt G hh q k kd (nI s) (nI e) c) (t : LeAt G hh k n f (nI L)) (hL : L ≤ n) (hn : n ≤ 1000) (hse : s ≤ e) (heL : e ≤ L) (lo hi : Int32) : EVp G mX3_numberWithin [.ref (ad G q), .int lo, .int hi] hh (numW f s e kd lo hi) := by
  refine EV.of [(0, .ref (ad G q)), (1, .int lo), (2, .int hi)] (by decide +kernel) (Nat.le_of_ble_eq_true rfl) rfl ?_
  refine R_aload_n dX3_numberWithin_0 rfl ?_
  refine R_get dX3_numberWithin_1 gf_X3_32 h rfl ?_
  refine R_iconst (v := 2) dX3_numberWithin_4 (by decide) ?_
  refine R_icmp_ne (tgt := 27) dX3_numberWithin_5 (by decide) (fun c5 => ?_) (fun c5 => ?_)
  · refine R_iconst (v := (-1)) dX3_numberWithin_27 (by decide) ?_
    refine R_istore_n dX3_numberWithin_28 (by decide) ?_
    refine R_iload_n dX3_numberWithin_29 rfl ?_
    refine R_iload_n dX3_numberWithin_30 rfl ?_
    refine R_icmp_lt (tgt := 43) dX3_numberWithin_31 (by decide) (fun c31 => ?_) (fun c31 => ?_)
    · refine R_iconst (v := (-1)) dX3_numberWithin_43 (by decide) ?_
      exact R_iret dX3_numberWithin_44 rfl (⟨_, rfl, by first | (simp_all [numW]; done) | (simp_all [numW, Int32.lt_iff_toInt_lt, Int32.le_iff_toInt_le]; (try intro _); exfalso; omega), rfl⟩)
    · refine R_iload_n dX3_numberWithin_34 rfl ?_
      refine R_iload_n dX3_numberWithin_35 rfl ?_
      refine R_icmp_gt (tgt := 43) dX3_numberWithin_36 (by decide) (fun c36 => ?_) (fun c36 => ?_)
      · refine R_iconst (v := (-1)) dX3_numberWithin_43 (by decide) ?_
        exact R_iret dX3_numberWithin_44 rfl (⟨_, rfl, by first | (simp_all [numW]; done) | (simp_all [numW, Int32.lt_iff_toInt_lt, Int32.le_iff_toInt_le]; (try intro _); exfalso; omega), rfl⟩)
      · refine R_iload_n dX3_numberWithin_39 rfl ?_
        refine R_goto (tgt := 44) dX3_numberWithin_40 (by decide) ?_
        exact R_iret dX3_numberWithin_44 rfl (⟨_, rfl, by first | (simp_all [numW]; done) | (simp_all [numW, Int32.lt_iff_toInt_lt, Int32.le_iff_toInt_le]; (try intro _); exfalso; omega), rfl⟩)
  · refine R_aload_n dX3_numberWithin_8 rfl ?_
    refine R_get dX3_numberWithin_9 gf_X3_9 h rfl ?_
    refine R_aload_n dX3_numberWithin_12 rfl ?_
    refine R_get dX3_numberWithin_13 gf_X3_29 h rfl ?_
    refine R_aload_n dX3_numberWithin_16 rfl ?_
    refine R_get dX3_numberWithin_17 gf_X3_15 h rfl ?_
    refine R_iconst (v := 2) dX3_numberWithin_20 (by decide) ?_
    refine R_callVp dX3_numberWithin_21 cv_X3_58 ⟨by decide, by decide⟩ (e_numberAt G hh t hL hn s e 2 hse heL (by omega)) t.1 rfl rfl rfl (Nat.le_of_ble_eq_true rfl) ?_
    refine R_goto (tgt := 28) dX3_numberWithin_24 (by decide) ?_
    refine R_istore_n dX3_numberWithin_28 (by decide) ?_
    refine R_iload_n dX3_numberWithin_29 rfl ?_
    refine R_iload_n dX3_numberWithin_30 rfl ?_
    refine R_icmp_lt (tgt := 43) dX3_numberWithin_31 (by decide) (fun c31 => ?_) (fun c31 => ?_)
    · refine R_iconst (v := (-1)) dX3_numberWithin_43 (by decide) ?_
      exact R_iret dX3_numberWithin_44 rfl (⟨_, rfl, by first | (simp_all [numW]; done) | (simp_all [numW, Int32.lt_iff_toInt_lt, Int32.le_iff_toInt_le]; (try intro _); exfalso; omega), rfl⟩)
    · refine R_iload_n dX3_numberWithin_34 rfl ?_
      refine R_iload_n dX3_numberWithin_35 rfl ?_
      refine R_icmp_gt (tgt := 43) dX3_numberWithin_36 (by decide) (fun c36 => ?_) (fun c36 => ?_)
      · refine R_iconst (v := (-1)) dX3_numberWithin_43 (by decide) ?_
        exact R_iret dX3_numberWithin_44 rfl (⟨_, rfl, by first | (simp_all [numW]; done) | (simp_all [numW, Int32.lt_iff_toInt_lt, Int32.le_iff_toInt_le]; (try intro _); exfalso; omega), rfl⟩)
      · refine R_iload_n dX3_numberWithin_39 rfl ?_
        refine R_goto (tgt := 44) dX3_numberWithin_40 (by decide) ?_
        exact R_iret dX3_numberWithin_44 rfl (⟨_, rfl, by first | (simp_all [numW]; done) | (simp_all [numW, Int32.lt_iff_toInt_lt, Int32.le_iff_toInt_le]; (try intro _); exfalso; omega), rfl⟩)
def vrT (f : Nat → Int32) : Nat → Nat → Int32 → Int32
  | _, 0, x => x
  | i, d + 1, x => if ¬ (0 ≤ f i - 97 ∧ f i - 97 < 5) ∨ hasB x (f i - 97) = true then 0 else vrT f (i + 1) d (x ||| ((1 : Int32) <<< ((f i - 97) &&& 31)))
set_option maxRecDepth 4000 in
theorem l_versed (G : GG) (hh : HH) {q k n L s e : Nat} {f : Nat → Int32} {kd c : Int32} (h : RdAt G hh q k kd (nI s) (nI e) c) (t : LeAt G hh k n f (nI L)) (hL : L ≤ n) (hn : n ≤ 1000) (hse : s ≤ e) (heL : e ≤ L) : ∀ (d i : Nat) (x : Int32), i + d = e → RR G mX3_versedTold 7 [(0, .ref (ad G q)), (1, .int x), (2, .int (nI i))] [] hh (fun r h => ∃ y, r = some (.int y) ∧ (y = vrT f i d x ∧ h = hh)) := by
  intro d
  induction d with
  | zero =>
    intro i x hi
    refine R_iload_n dX3_versedTold_7 rfl ?_
    refine R_aload_n dX3_versedTold_8 rfl ?_
    refine R_get dX3_versedTold_9 gf_X3_15 h rfl ?_
    refine R_icmp_ge (tgt := 58) dX3_versedTold_12 (by decide) (fun c12 => ?_) (fun c12 => absurd (nI_le (by omega) (by omega)) c12)
    refine R_iload_n dX3_versedTold_58 rfl ?_
    exact R_iret dX3_versedTold_59 rfl (⟨_, rfl, rfl, rfl⟩)
  | succ d ih =>
    intro i x hi
    refine R_iload_n dX3_versedTold_7 rfl ?_
    refine R_aload_n dX3_versedTold_8 rfl ?_
    refine R_get dX3_versedTold_9 gf_X3_15 h rfl ?_
    refine R_icmp_ge (tgt := 58) dX3_versedTold_12 (by decide) (fun c12 => absurd c12 (nI_ge (by omega) (by omega))) (fun c12 => ?_)
    refine R_aload_n dX3_versedTold_15 rfl ?_
    refine R_get dX3_versedTold_16 gf_X3_9 h rfl ?_
    refine R_get dX3_versedTold_19 gf_X3_44 t.1 rfl ?_
    refine R_iload_n dX3_versedTold_22 rfl ?_
    refine R_ialdN dX3_versedTold_23 t.2 (by omega) (by omega) ?_
    refine R_bipush (v := 97) dX3_versedTold_24 (by decide) ?_
    refine R_isub dX3_versedTold_26 ?_
    refine R_istore_n dX3_versedTold_27 (by decide) ?_
    refine R_iload_n dX3_versedTold_28 rfl ?_
    refine R_callSNp dX3_versedTold_29 cn_X3_108 ⟨by decide, by decide⟩ (e_isSubject G hh (f i - 97)) rfl rfl (Nat.le_of_ble_eq_true rfl) ?_
    refine R_if_eq (tgt := 44) dX3_versedTold_32 (by decide) (fun c32 => ?_) (fun c32 => ?_)
    · refine R_iconst (v := 0) dX3_versedTold_44 (by decide) ?_
      exact R_iret dX3_versedTold_45 rfl (⟨_, rfl, by simp only [vrT]; rw [if_pos (Or.inl (by simpa [bl] using c32))], rfl⟩)
    · refine R_iload_n dX3_versedTold_35 rfl ?_
      refine R_iload_n dX3_versedTold_36 rfl ?_
      refine R_ishr dX3_versedTold_37 ?_
      refine R_iconst (v := 1) dX3_versedTold_38 (by decide) ?_
      refine R_iand dX3_versedTold_39 ?_
      refine R_iconst (v := 1) dX3_versedTold_40 (by decide) ?_
      refine R_icmp_ne (tgt := 46) dX3_versedTold_41 (by decide) (fun c41 => ?_) (fun c41 => ?_)
      · refine R_iload_n dX3_versedTold_46 rfl ?_
        refine R_iconst (v := 1) dX3_versedTold_47 (by decide) ?_
        refine R_iload_n dX3_versedTold_48 rfl ?_
        refine R_ishl dX3_versedTold_49 ?_
        refine R_ior dX3_versedTold_50 ?_
        refine R_istore_n dX3_versedTold_51 (by decide) ?_
        refine R_iinc (y := nI (i + 1)) dX3_versedTold_52 rfl (by decide) (nI_s i) ?_
        refine R_goto (tgt := 7) dX3_versedTold_55 (by decide) ?_
        have e9 : vrT f i (d + 1) x = vrT f (i + 1) d (x ||| ((1 : Int32) <<< ((f i - 97) &&& 31))) := by
          have q1 : 0 ≤ f i - 97 ∧ f i - 97 < 5 := by simpa [bl] using c32
          simp only [vrT]
          rw [if_neg (by rintro (q | q); exact q q1; exact c41 (by simpa [hasB] using q))]
        rw [e9]
        exact RR.pick [3, 1, 0] rfl (ih (i + 1) _ (by omega))
      · refine R_iconst (v := 0) dX3_versedTold_44 (by decide) ?_
        exact R_iret dX3_versedTold_45 rfl (⟨_, rfl, by simp only [vrT]; rw [if_pos (Or.inr (by simpa [hasB] using c41))], rfl⟩)
set_option maxRecDepth 4000 in
theorem e_versedTold (G : GG) (hh : HH) {q k n L s e : Nat} {f : Nat → Int32} {kd c : Int32} (h : RdAt G hh q k kd (nI s) (nI e) c) (t : LeAt G hh k n f (nI L)) (hL : L ≤ n) (hn : n ≤ 1000) (hse : s ≤ e) (heL : e ≤ L) : EVp G mX3_versedTold [.ref (ad G q)] hh (vrT f s (e - s) 0) := by
  refine EV.of [(0, .ref (ad G q))] (by decide +kernel) (Nat.le_of_ble_eq_true rfl) rfl ?_
  refine R_iconst (v := 0) dX3_versedTold_0 (by decide) ?_
  refine R_istore_n dX3_versedTold_1 (by decide) ?_
  refine R_aload_n dX3_versedTold_2 rfl ?_
  refine R_get dX3_versedTold_3 gf_X3_29 h rfl ?_
  refine R_istore_n dX3_versedTold_6 (by decide) ?_
  exact RR.pick [2, 1, 0] rfl (l_versed G hh h t hL hn hse heL (e - s) s 0 (by omega))
