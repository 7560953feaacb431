/-- the reader, at cell q, of the text at cell k -/
def RdAt (G : GG) (hh : HH) (q k : Nat) (kd s e c : Int32) : Prop := hAt G hh q (.inr (3, [.ref (ad G k), .int kd, .int s, .int e, .int c]))
theorem RdAt.fr {G : GG} {hh hh' : HH} {q k lo hi : Nat} {kd s e c : Int32} (h : RdAt G hh q k kd s e c) (hF : Fr lo hi hh hh') (hk : q < lo ∨ hi ≤ q) : RdAt G hh' q k kd s e c := hAt.fr h hF hk
theorem Rd_put1 {G : GG} {μ : MI} {pc : Nat} {lv : List (Nat × Value)} {st : List Value} {hh : HH} {Q : QQ} {q k idx : Nat} {kd s e c x : Int32} (hd : decode μ.2.1 pc = .ok (.putfield idx, 3)) (hw : pfOK μ.1.cls idx 3 1 .int) (h : RdAt G hh q k kd s e c) (k1 : ∀ hh1, RdAt G hh1 q k x s e c → Fr q (q + 1) hh hh1 → RR G μ (pc + 3) lv st hh1 Q) : RR G μ pc lv (.int x :: .ref (ad G q) :: st) hh Q := R_put hd hw h rfl rfl (show 1 < 5 by decide) (k1 _ (hAt.up h.1) (Fr.up _ Fr.rf (Nat.le_refl q) (Nat.lt_succ_self q)))
theorem Rd_put2 {G : GG} {μ : MI} {pc : Nat} {lv : List (Nat × Value)} {st : List Value} {hh : HH} {Q : QQ} {q k idx : Nat} {kd s e c x : Int32} (hd : decode μ.2.1 pc = .ok (.putfield idx, 3)) (hw : pfOK μ.1.cls idx 3 2 .int) (h : RdAt G hh q k kd s e c) (k1 : ∀ hh1, RdAt G hh1 q k kd x e c → Fr q (q + 1) hh hh1 → RR G μ (pc + 3) lv st hh1 Q) : RR G μ pc lv (.int x :: .ref (ad G q) :: st) hh Q := R_put hd hw h rfl rfl (show 2 < 5 by decide) (k1 _ (hAt.up h.1) (Fr.up _ Fr.rf (Nat.le_refl q) (Nat.lt_succ_self q)))
theorem Rd_put3 {G : GG} {μ : MI} {pc : Nat} {lv : List (Nat × Value)} {st : List Value} {hh : HH} {Q : QQ} {q k idx : Nat} {kd s e c x : Int32} (hd : decode μ.2.1 pc = .ok (.putfield idx, 3)) (hw : pfOK μ.1.cls idx 3 3 .int) (h : RdAt G hh q k kd s e c) (k1 : ∀ hh1, RdAt G hh1 q k kd s x c → Fr q (q + 1) hh hh1 → RR G μ (pc + 3) lv st hh1 Q) : RR G μ pc lv (.int x :: .ref (ad G q) :: st) hh Q := R_put hd hw h rfl rfl (show 3 < 5 by decide) (k1 _ (hAt.up h.1) (Fr.up _ Fr.rf (Nat.le_refl q) (Nat.lt_succ_self q)))
theorem Rd_put4 {G : GG} {μ : MI} {pc : Nat} {lv : List (Nat × Value)} {st : List Value} {hh : HH} {Q : QQ} {q k idx : Nat} {kd s e c x : Int32} (hd : decode μ.2.1 pc = .ok (.putfield idx, 3)) (hw : pfOK μ.1.cls idx 3 4 .int) (h : RdAt G hh q k kd s e c) (k1 : ∀ hh1, RdAt G hh1 q k kd s e x → Fr q (q + 1) hh hh1 → RR G μ (pc + 3) lv st hh1 Q) : RR G μ pc lv (.int x :: .ref (ad G q) :: st) hh Q := R_put hd hw h rfl rfl (show 4 < 5 by decide) (k1 _ (hAt.up h.1) (Fr.up _ Fr.rf (Nat.le_refl q) (Nat.lt_succ_self q)))
def spn (p : Nat → Bool) : Nat → Nat → Nat
  | i, 0 => i
  | i, d + 1 => if p i = true then spn p (i + 1) d else i
theorem spn_ge (p : Nat → Bool) : ∀ (d i : Nat), i ≤ spn p i d
  | 0, i => Nat.le_refl i
  | d + 1, i => by
    show i ≤ (if p i = true then spn p (i + 1) d else i)
    have := spn_ge p d (i + 1)
    split <;> omega
theorem spn_le (p : Nat → Bool) : ∀ (d i : Nat), spn p i d ≤ i + d
  | 0, i => Nat.le_refl i
  | d + 1, i => by
    show (if p i = true then spn p (i + 1) d else i) ≤ i + (d + 1)
    have := spn_le p d (i + 1)
    split <;> omega
def smB (x : Int32) : Bool := decide (97 ≤ x ∧ x ≤ 122)
def dgB (x : Int32) : Bool := decide (48 ≤ x ∧ x ≤ 57)
/-- the token behind place e: where it begins, of which kind it is, where it ends -/
def tkS (f : Nat → Int32) (L e : Nat) : Nat := spn (fun j => decide (f j = 32)) e (L - e)
def tkK (f : Nat → Int32) (L s : Nat) : Int32 := if L ≤ s then 0 else if smB (f s) = true then 1 else if dgB (f s) = true then 2 else 3
def tkE (f : Nat → Int32) (L s : Nat) : Nat := if L ≤ s then s else if smB (f s) = true then spn (fun j => smB (f j)) s (L - s) else if dgB (f s) = true then spn (fun j => dgB (f j)) s (L - s) else s + 1
theorem tkS_ge (f : Nat → Int32) (L e : Nat) : e ≤ tkS f L e := spn_ge _ _ _
theorem tkS_le (f : Nat → Int32) {L e : Nat} (h : e ≤ L) : tkS f L e ≤ L := by
  have := spn_le (fun j => decide (f j = 32)) (L - e) e
  unfold tkS; omega
theorem tkE_ge (f : Nat → Int32) (L s : Nat) : s ≤ tkE f L s := by
  unfold tkE
  have h1 := spn_ge (fun j => smB (f j)) (L - s) s
  have h2 := spn_ge (fun j => dgB (f j)) (L - s) s
  split
  · exact Nat.le_refl s
  · split
    · exact h1
    · split
      · exact h2
      · omega
theorem tkE_le (f : Nat → Int32) {L s : Nat} (h : s ≤ L) : tkE f L s ≤ L := by
  unfold tkE
  have h1 := spn_le (fun j => smB (f j)) (L - s) s
  have h2 := spn_le (fun j => dgB (f j)) (L - s) s
  split
  · omega
  · split
    · omega
    · split <;> omega
set_option maxRecDepth 4000 in
theorem l_skip (G : GG) (hh0 : HH) {q k n L : Nat} {f : Nat → Int32} (hL : L ≤ n) (hn : n ≤ 1000) (hap : q < k ∨ k + 2 ≤ q) {kd s0 e0 c : Int32} {Q : QQ} : ∀ (d i : Nat) (hh : HH), i + d = L → RdAt G hh q k kd (nI i) e0 c → LeAt G hh k n f (nI L) → Fr q (q + 1) hh0 hh → (∀ hh, RdAt G hh q k kd (nI (spn (fun j => decide (f j = 32)) i d)) e0 c → LeAt G hh k n f (nI L) → Fr q (q + 1) hh0 hh → RR G mX3_step 52 [(0, .ref (ad G q))] [] hh Q) → RR G mX3_step 8 [(0, .ref (ad G q))] [] hh (Q) := by
  intro d
  induction d with
  | zero =>
    intro i hh hi h t hF K
    refine R_aload_n dX3_step_8 rfl ?_
    refine R_get dX3_step_9 gf_X3_29 h rfl ?_
    refine R_aload_n dX3_step_12 rfl ?_
    refine R_get dX3_step_13 gf_X3_9 h rfl ?_
    refine R_get dX3_step_16 gf_X3_39 t.1 rfl ?_
    refine R_icmp_ge (tgt := 52) dX3_step_19 (by decide) (fun c19 => ?_) (fun c19 => absurd (nI_le (by omega) (by omega)) c19)
    exact K hh h t hF
  | succ d ih =>
    intro i hh hi h t hF K
    refine R_aload_n dX3_step_8 rfl ?_
    refine R_get dX3_step_9 gf_X3_29 h rfl ?_
    refine R_aload_n dX3_step_12 rfl ?_
    refine R_get dX3_step_13 gf_X3_9 h rfl ?_
    refine R_get dX3_step_16 gf_X3_39 t.1 rfl ?_
    refine R_icmp_ge (tgt := 52) dX3_step_19 (by decide) (fun c19 => absurd c19 (nI_ge (by omega) (by omega))) (fun c19 => ?_)
    refine R_aload_n dX3_step_22 rfl ?_
    refine R_get dX3_step_23 gf_X3_9 h rfl ?_
    refine R_get dX3_step_26 gf_X3_44 t.1 rfl ?_
    refine R_aload_n dX3_step_29 rfl ?_
    refine R_get dX3_step_30 gf_X3_29 h rfl ?_
    refine R_ialdN dX3_step_33 t.2 (by omega) (by omega) ?_
    refine R_bipush (v := 32) dX3_step_34 (by decide) ?_
    refine R_icmp_ne (tgt := 52) dX3_step_36 (by decide) (fun c36 => ?_) (fun c36 => ?_)
    · refine K hh ?_ t hF
      rw [show spn (fun j => decide (f j = 32)) i (d + 1) = i from if_neg (by simpa [bl, smB, dgB] using c36)]
      exact h
    · refine R_aload_n dX3_step_39 rfl ?_
      refine R_dup dX3_step_40 rfl ?_
      refine R_get dX3_step_41 gf_X3_29 h rfl ?_
      refine R_iconst (v := 1) dX3_step_44 (by decide) ?_
      refine R_iadd dX3_step_45 ?_
      refine RR.top (y := nI (i + 1)) (nI_1 i) ?_
      refine Rd_put2 dX3_step_46 pf_X3_29 h (fun hh h hF1 => ?_)
      have hF := hF.tr hF1 (by omega) (by omega)
      have t := t.fr hF1 (by omega)
      refine R_goto (tgt := 8) dX3_step_49 (by decide) ?_
      refine RR.pick [0] rfl (ih (i + 1) hh (by omega) h t hF (fun hh h t hF => K hh ?_ t hF))
      rw [show spn (fun j => decide (f j = 32)) i (d + 1) = spn (fun j => decide (f j = 32)) (i + 1) d from if_pos (by simpa [bl, smB, dgB] using c36)]
      exact h
set_option maxRecDepth 4000 in
theorem l_sm (G : GG) (hh0 : HH) {q k n L : Nat} {f : Nat → Int32} (hL : L ≤ n) (hn : n ≤ 1000) (hap : q < k ∨ k + 2 ≤ q) {kd s0 e0 c : Int32} {Q : QQ} : ∀ (d i : Nat) (hh : HH), i + d = L → RdAt G hh q k kd s0 (nI i) c → LeAt G hh k n f (nI L) → Fr q (q + 1) hh0 hh → (∀ hh, RdAt G hh q k kd s0 (nI (spn (fun j => smB (f j)) i d)) c → LeAt G hh k n f (nI L) → Fr q (q + 1) hh0 hh → RR G mX3_step 233 [(0, .ref (ad G q))] [] hh Q) → RR G mX3_step 105 [(0, .ref (ad G q))] [] hh (Q) := by
  intro d
  induction d with
  | zero =>
    intro i hh hi h t hF K
    refine R_aload_n dX3_step_105 rfl ?_
    refine R_get dX3_step_106 gf_X3_15 h rfl ?_
    refine R_aload_n dX3_step_109 rfl ?_
    refine R_get dX3_step_110 gf_X3_9 h rfl ?_
    refine R_get dX3_step_113 gf_X3_39 t.1 rfl ?_
    refine R_icmp_ge (tgt := 233) dX3_step_116 (by decide) (fun c116 => ?_) (fun c116 => absurd (nI_le (by omega) (by omega)) c116)
    exact K hh h t hF
  | succ d ih =>
    intro i hh hi h t hF K
    refine R_aload_n dX3_step_105 rfl ?_
    refine R_get dX3_step_106 gf_X3_15 h rfl ?_
    refine R_aload_n dX3_step_109 rfl ?_
    refine R_get dX3_step_110 gf_X3_9 h rfl ?_
    refine R_get dX3_step_113 gf_X3_39 t.1 rfl ?_
    refine R_icmp_ge (tgt := 233) dX3_step_116 (by decide) (fun c116 => absurd c116 (nI_ge (by omega) (by omega))) (fun c116 => ?_)
    refine R_aload_n dX3_step_119 rfl ?_
    refine R_get dX3_step_120 gf_X3_9 h rfl ?_
    refine R_get dX3_step_123 gf_X3_44 t.1 rfl ?_
    refine R_aload_n dX3_step_126 rfl ?_
    refine R_get dX3_step_127 gf_X3_15 h rfl ?_
    refine R_ialdN dX3_step_130 t.2 (by omega) (by omega) ?_
    refine R_callSNp dX3_step_131 cn_X3_48 ⟨by decide, by decide⟩ (e_isSmallLetter G hh (f i)) rfl rfl (Nat.le_of_ble_eq_true rfl) ?_
    refine R_if_eq (tgt := 233) dX3_step_134 (by decide) (fun c134 => ?_) (fun c134 => ?_)
    · refine K hh ?_ t hF
      rw [show spn (fun j => smB (f j)) i (d + 1) = i from if_neg (by simpa [bl, smB, dgB] using c134)]
      exact h
    · refine R_aload_n dX3_step_137 rfl ?_
      refine R_dup dX3_step_138 rfl ?_
      refine R_get dX3_step_139 gf_X3_15 h rfl ?_
      refine R_iconst (v := 1) dX3_step_142 (by decide) ?_
      refine R_iadd dX3_step_143 ?_
      refine RR.top (y := nI (i + 1)) (nI_1 i) ?_
      refine Rd_put3 dX3_step_144 pf_X3_15 h (fun hh h hF1 => ?_)
      have hF := hF.tr hF1 (by omega) (by omega)
      have t := t.fr hF1 (by omega)
      refine R_goto (tgt := 105) dX3_step_147 (by decide) ?_
      refine RR.pick [0] rfl (ih (i + 1) hh (by omega) h t hF (fun hh h t hF => K hh ?_ t hF))
      rw [show spn (fun j => smB (f j)) i (d + 1) = spn (fun j => smB (f j)) (i + 1) d from if_pos (by simpa [bl, smB, dgB] using c134)]
      exact h
set_option maxRecDepth 4000 in
theorem l_dg (G : GG) (hh0 : HH) {q k n L : Nat} {f : Nat → Int32} (hL : L ≤ n) (hn : n ≤ 1000) (hap : q < k ∨ k + 2 ≤ q) {kd s0 e0 c : Int32} {Q : QQ} : ∀ (d i : Nat) (hh : HH), i + d = L → RdAt G hh q k kd s0 (nI i) c → LeAt G hh k n f (nI L) → Fr q (q + 1) hh0 hh → (∀ hh, RdAt G hh q k kd s0 (nI (spn (fun j => dgB (f j)) i d)) c → LeAt G hh k n f (nI L) → Fr q (q + 1) hh0 hh → RR G mX3_step 233 [(0, .ref (ad G q))] [] hh Q) → RR G mX3_step 173 [(0, .ref (ad G q))] [] hh (Q) := by
  intro d
  induction d with
  | zero =>
    intro i hh hi h t hF K
    refine R_aload_n dX3_step_173 rfl ?_
    refine R_get dX3_step_174 gf_X3_15 h rfl ?_
    refine R_aload_n dX3_step_177 rfl ?_
    refine R_get dX3_step_178 gf_X3_9 h rfl ?_
    refine R_get dX3_step_181 gf_X3_39 t.1 rfl ?_
    refine R_icmp_ge (tgt := 233) dX3_step_184 (by decide) (fun c184 => ?_) (fun c184 => absurd (nI_le (by omega) (by omega)) c184)
    exact K hh h t hF
  | succ d ih =>
    intro i hh hi h t hF K
    refine R_aload_n dX3_step_173 rfl ?_
    refine R_get dX3_step_174 gf_X3_15 h rfl ?_
    refine R_aload_n dX3_step_177 rfl ?_
    refine R_get dX3_step_178 gf_X3_9 h rfl ?_
    refine R_get dX3_step_181 gf_X3_39 t.1 rfl ?_
    refine R_icmp_ge (tgt := 233) dX3_step_184 (by decide) (fun c184 => absurd c184 (nI_ge (by omega) (by omega))) (fun c184 => ?_)
    refine R_aload_n dX3_step_187 rfl ?_
    refine R_get dX3_step_188 gf_X3_9 h rfl ?_
    refine R_get dX3_step_191 gf_X3_44 t.1 rfl ?_
    refine R_aload_n dX3_step_194 rfl ?_
    refine R_get dX3_step_195 gf_X3_15 h rfl ?_
    refine R_ialdN dX3_step_198 t.2 (by omega) (by omega) ?_
    refine R_callSNp dX3_step_199 cn_X3_51 ⟨by decide, by decide⟩ (e_isDigit G hh (f i)) rfl rfl (Nat.le_of_ble_eq_true rfl) ?_
    refine R_if_eq (tgt := 233) dX3_step_202 (by decide) (fun c202 => ?_) (fun c202 => ?_)
    · refine K hh ?_ t hF
      rw [show spn (fun j => dgB (f j)) i (d + 1) = i from if_neg (by simpa [bl, smB, dgB] using c202)]
      exact h
    · refine R_aload_n dX3_step_205 rfl ?_
      refine R_dup dX3_step_206 rfl ?_
      refine R_get dX3_step_207 gf_X3_15 h rfl ?_
      refine R_iconst (v := 1) dX3_step_210 (by decide) ?_
      refine R_iadd dX3_step_211 ?_
      refine RR.top (y := nI (i + 1)) (nI_1 i) ?_
      refine Rd_put3 dX3_step_212 pf_X3_15 h (fun hh h hF1 => ?_)
      have hF := hF.tr hF1 (by omega) (by omega)
      have t := t.fr hF1 (by omega)
      refine R_goto (tgt := 173) dX3_step_215 (by decide) ?_
      refine RR.pick [0] rfl (ih (i + 1) hh (by omega) h t hF (fun hh h t hF => K hh ?_ t hF))
      rw [show spn (fun j => dgB (f j)) i (d + 1) = spn (fun j => dgB (f j)) (i + 1) d from if_pos (by simpa [bl, smB, dgB] using c202)]
      exact h
