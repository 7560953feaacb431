/-! LANE BY LANE: rows, folds, coverage, doubling -/
theorem hz_nil_g : ∀ (L : List (List Nat)), (∀ x, x ∈ L → x = []) → ∀ i, L.getD i [] = []
  | [], _, _ => rfl
  | x :: t, h, 0 => h x (List.mem_cons_self ..)
  | x :: t, h, i + 1 => hz_nil_g t (fun y hy => h y (List.mem_cons_of_mem _ hy)) i
theorem hz_e32_g (i : Nat) : hz_e32.getD i [] = [] := hz_nil_g hz_e32 (by simp [hz_e32]) i
theorem hz_zc_g : ∀ (xs : List Nat) (cs : List (List Nat)) (i : Nat), (hz_zc xs cs).getD i [] = [] ∨ (hz_zc xs cs).getD i [] = xs.getD i 0 :: cs.getD i []
  | [], _, _ => .inl rfl
  | x :: t, [], _ => .inl rfl
  | x :: t, c :: u, 0 => .inr rfl
  | x :: t, c :: u, i + 1 => hz_zc_g t u i
theorem hz_zc_len : ∀ (xs : List Nat) (cs : List (List Nat)), xs.length = cs.length → (hz_zc xs cs).length = cs.length
  | [], cs, h => h
  | x :: t, [], h => absurd h (by simp)
  | x :: t, c :: u, h => by
    show (hz_zc t u).length + 1 = u.length + 1
    rw [hz_zc_len t u (by simpa using h)]
noncomputable def hz_itS : Nat → List Nat → List Nat
  | 0, X => X
  | t + 1, X => hz_itS t (hz_st X)
theorem hz_itS_v {l : Nat} : ∀ (t : Nat) {X : List Nat} {c : Int32}, hz_pr l X = hz_bl c → hz_pr l (hz_itS t X) = hz_bl (itT t c)
  | 0, _, _, h => h
  | t + 1, _, _, h => hz_itS_v t (hz_pr_st h)
theorem hz_dot_v (l i j : Nat) (f g : List Nat → List Nat) : ∀ (m : Nat) (X : List Nat) (d : Nat), (hz_dot ((hz_rows f m X).getD i []) ((hz_rows g m X).getD j []) d).testBit l = true → d.testBit l = true ∨ ∃ t, t < m ∧ ((f (hz_itS t X)).getD i 0).testBit l = true ∧ ((g (hz_itS t X)).getD j 0).testBit l = true
  | 0, X, d, h => by
    left
    rw [show (hz_rows f 0 X).getD i [] = [] from hz_e32_g i] at h
    exact h
  | m + 1, X, d, h => by
    rcases hz_zc_g (f X) (hz_rows f m (hz_st X)) i with e | e
    · left
      rw [show (hz_rows f (m + 1) X).getD i [] = [] from e] at h
      exact h
    · rcases hz_zc_g (g X) (hz_rows g m (hz_st X)) j with e2 | e2
      · left
        rw [show (hz_rows f (m + 1) X).getD i [] = _ from e, show (hz_rows g (m + 1) X).getD j [] = [] from e2] at h
        exact h
      · rw [show (hz_rows f (m + 1) X).getD i [] = _ from e, show (hz_rows g (m + 1) X).getD j [] = _ from e2] at h
        have h : (hz_dot ((hz_rows f m (hz_st X)).getD i []) ((hz_rows g m (hz_st X)).getD j []) (Nat.lor d (Nat.land ((f X).getD i 0) ((g X).getD j 0)))).testBit l = true := h
        rcases hz_dot_v l i j f g m (hz_st X) _ h with q | ⟨t, ht, q1, q2⟩
        · rw [hz_to, hz_ta, Bool.or_eq_true, Bool.and_eq_true] at q
          rcases q with q | q
          · left; exact q
          · right; exact ⟨0, Nat.succ_pos _, q.1, q.2⟩
        · right; exact ⟨t + 1, Nat.succ_lt_succ ht, q1, q2⟩
theorem hz_fold_v (p : Nat) : ∀ (ws : List Nat) (d i : Nat), (∀ w, w ∈ ws → p ∣ w) → (hz_fold ws d).testBit i = true → ∃ l, d.testBit l = true ∧ l % p = i % p
  | [], d, i, _, h => ⟨i, h, rfl⟩
  | w :: t, d, i, hw, h => by
    have h : (hz_fold t (Nat.lor (Nat.shiftRight d w) (Nat.land d (Nat.sub (Nat.shiftLeft 1 w) 1)))).testBit i = true := h
    obtain ⟨l, h1, h2⟩ := hz_fold_v p t _ i (fun w hw' => hw w (List.mem_cons_of_mem _ hw')) h
    rw [hz_to, hz_ta, Bool.or_eq_true, Bool.and_eq_true] at h1
    rcases h1 with q | q
    · have q : (d >>> w).testBit l = true := q
      rw [Nat.testBit_shiftRight] at q
      obtain ⟨z, hz⟩ := hw w (List.mem_cons_self ..)
      refine ⟨w + l, q, ?_⟩
      rw [hz, Nat.mul_add_mod]
      exact h2
    · exact ⟨l, q.1, h2⟩
theorem hz_row_v {ws : List Nat} {e : Nat} {h : List Nat} : ∀ {Ls : List (List Nat)}, hz_row ws e h Ls = true → ∀ j, j < Ls.length → hz_fold ws (hz_dot h (Ls.getD j []) 0) = e
  | [], _, j, hj => absurd hj (by simp)
  | x :: t, H, j, hj => by
    have H : Bool.rec (motive := fun _ => Bool) false (hz_row ws e h t) (Nat.beq (hz_fold ws (hz_dot h x 0)) e) = true := H
    cases q : Nat.beq (hz_fold ws (hz_dot h x 0)) e with
    | false => rw [q] at H; exact absurd (show false = true from H) (by decide)
    | true =>
      rw [q] at H
      have H : hz_row ws e h t = true := H
      match j, hj with
      | 0, _ => exact Nat.eq_of_beq_eq_true q
      | j + 1, hj => exact hz_row_v H j (by simpa using hj)
theorem hz_cov_v {ws : List Nat} {e : Nat} {Ls : List (List Nat)} (hL : Ls.length = 32) : ∀ {Hs : List (List Nat)} {n : Nat}, hz_cov ws e n Hs Ls = true → ∀ i j, i < Hs.length → j < 32 → j + 32 * i < n → hz_fold ws (hz_dot (Hs.getD i []) (Ls.getD j []) 0) = e
  | [], n, _, i, j, hi, _, _ => absurd hi (by simp)
  | h :: t, n, H, i, j, hi, hj, hn => by
    have H : Bool.rec (motive := fun _ => Bool) (Bool.rec (motive := fun _ => Bool) false (hz_cov ws e (n - 32) t Ls) (hz_row ws e h Ls)) (hz_row ws e h (List.take n Ls)) (Nat.ble n 32) = true := H
    cases q : Nat.ble n 32 with
    | false =>
      rw [q] at H
      have H : Bool.rec (motive := fun _ => Bool) false (hz_cov ws e (n - 32) t Ls) (hz_row ws e h Ls) = true := H
      cases q2 : hz_row ws e h Ls with
      | false => rw [q2] at H; exact absurd (show false = true from H) (by decide)
      | true =>
        rw [q2] at H
        have H : hz_cov ws e (n - 32) t Ls = true := H
        match i, hi, hn with
        | 0, _, _ => exact hz_row_v q2 j (by omega)
        | i + 1, hi, hn => exact hz_cov_v hL H i j (by simpa using hi) hj (by omega)
    | true =>
      rw [q] at H
      have H : hz_row ws e h (List.take n Ls) = true := H
      have q : n ≤ 32 := Nat.le_of_ble_eq_true q
      match i, hi, hn with
      | 0, _, hn =>
        have r := hz_row_v H j (by rw [List.length_take]; omega)
        rw [show (List.take n Ls).getD j [] = Ls.getD j [] from by
          rw [List.getD_eq_getElem?_getD, List.getD_eq_getElem?_getD, List.getElem?_take, if_pos (by omega)]] at r
        exact r
      | i + 1, _, hn => omega
theorem hz_rows_len {f : List Nat → List Nat} (hf : ∀ X c l, hz_pr l X = hz_bl c → (f X).length = 32) : ∀ (m : Nat) (X : List Nat) (c : Int32) (l : Nat), hz_pr l X = hz_bl c → (hz_rows f m X).length = 32
  | 0, _, _, _, _ => rfl
  | m + 1, X, c, l, h => by
    have ih := hz_rows_len hf m (hz_st X) (tw c) l (hz_pr_st h)
    show (hz_zc (f X) (hz_rows f m (hz_st X))).length = 32
    rw [hz_zc_len _ _ (by rw [hf X c l h, ih]), ih]
theorem hz_ones (p i : Nat) : (Nat.sub (Nat.shiftLeft 1 p) 1).testBit i = decide (i < p) := by
  show ((1 <<< p) - 1).testBit i = _
  rw [Nat.one_shiftLeft, Nat.testBit_two_pow_sub_one]
theorem hz_resi_len {n l : Nat} {ks : List Bool} (hk : ks.length = 11) (hkv : hz_kv ks + n = 2048) (h0 : 256 ≤ n) (hn : n ≤ 1024) {X : List Nat} {c : Int32} (h : hz_pr l X = hz_bl c) : 10 ≤ (hz_resi ks X).length := (hz_md_v (l := l) hk hkv h0 hn 23 (hz_dr 1 X) (by rw [hz_dr_len, hz_len h])).1
theorem hz_chk1_v {ws : List Nat} {p q m n : Nat} {ks : List Bool} {X : List Nat} (H : hz_chk1 ws (Nat.sub (Nat.shiftLeft 1 p) 1) (Nat.sub (Nat.shiftLeft 1 q) 1) ks m n X = true) (hw : ∀ w, w ∈ ws → p ∣ w) (hk : ks.length = 11) (hkv : hz_kv ks + n = 2048) (h0 : 256 ≤ n) (hn : n ≤ 1024) {i : Nat} (hi : i < p) (hpq : p ≤ q) {P : Int32 → Prop} (hS : ∀ l, l < q → l % p = i → ∃ c, hz_pr l X = hz_bl c ∧ P c) {r : Nat} (hr : r < n) : ∃ c t, P c ∧ t < m ∧ (itT t c).toBitVec.toNat / 2 % n = r ∧ (itT t c).toBitVec.toNat / 2 < 2 ^ 31 - 2 ^ 19 := by
  obtain ⟨c0, hc0, _⟩ := hS i (by omega) (Nat.mod_eq_of_lt hi)
  have lh : ∀ X c l, hz_pr l X = hz_bl c → (hz_hi (Nat.sub (Nat.shiftLeft 1 q) 1) ks X).length = 32 := fun X c l h => by
    have h1 := hz_resi_len hk hkv h0 hn h
    exact hz_oh_len _ 5 _ (by rw [hz_dr_len]; omega)
  have ll : ∀ X c l, hz_pr l X = hz_bl c → (hz_lo (Nat.sub (Nat.shiftLeft 1 q) 1) ks X).length = 32 := fun X c l h => by
    have h1 := hz_resi_len hk hkv h0 hn h
    exact hz_oh_len _ 5 _ (by omega)
  have H : hz_cov ws (Nat.sub (Nat.shiftLeft 1 p) 1) n (hz_rows (hz_hi (Nat.sub (Nat.shiftLeft 1 q) 1) ks) m X) (hz_rows (hz_lo (Nat.sub (Nat.shiftLeft 1 q) 1) ks) m X) = true := H
  have F := hz_cov_v (hz_rows_len ll m X c0 i hc0) H (r / 32) (r % 32) (by rw [hz_rows_len lh m X c0 i hc0]; omega) (by omega) (by omega)
  have B : (hz_fold ws (hz_dot ((hz_rows (hz_hi (Nat.sub (Nat.shiftLeft 1 q) 1) ks) m X).getD (r / 32) []) ((hz_rows (hz_lo (Nat.sub (Nat.shiftLeft 1 q) 1) ks) m X).getD (r % 32) []) 0)).testBit i = true := by
    rw [F, hz_ones]; exact decide_eq_true hi
  obtain ⟨l, h1, h2⟩ := hz_fold_v p ws _ i hw B
  rcases hz_dot_v l _ _ _ _ m X 0 h1 with z | ⟨t, ht, q1, q2⟩
  · rw [Nat.zero_testBit] at z; exact absurd z (by decide)
  · have g1 := hz_resi_len hk hkv h0 hn (hz_itS_v t hc0)
    have q1' := q1
    unfold hz_hi at q1'
    rw [hz_oh_v l _ 5 _ _ (by rw [hz_dr_len]; omega) (by omega), hz_ones, Bool.and_eq_true, decide_eq_true_eq] at q1'
    obtain ⟨c, hc, hP⟩ := hS l q1'.1 (by rw [h2, Nat.mod_eq_of_lt hi])
    have L := hz_lohi hk hkv h0 hn (hz_itS_v t hc) (by omega) (by omega) q1 q2
    refine ⟨c, t, hP, ht, ?_, L.2.2⟩
    rw [L.2.1]; omega
theorem hz_sor_lo {l w : Nat} : ∀ (X Y : List Nat), X.length = Y.length → l < w → hz_pr l (hz_sor w X Y) = hz_pr l X
  | [], Y, _, _ => rfl
  | x :: t, [], h, _ => absurd h (by simp)
  | x :: t, y :: u, h, hl => by
    have e : (Nat.shiftLeft y w).testBit l = false := by
      show (y <<< w).testBit l = false
      rw [Nat.testBit_shiftLeft, decide_eq_false (by omega), Bool.false_and]
    show (Nat.lor x (Nat.shiftLeft y w)).testBit l :: hz_pr l (hz_sor w t u) = x.testBit l :: hz_pr l t
    rw [hz_to, e, Bool.or_false, hz_sor_lo t u (by simpa using h) hl]
theorem hz_sor_hi {l w : Nat} : ∀ (X Y : List Nat), X.length = Y.length → w ≤ l → (∀ x, x ∈ X → x.testBit l = false) → hz_pr l (hz_sor w X Y) = hz_pr (l - w) Y
  | [], [], _, _, _ => rfl
  | [], y :: u, h, _, _ => absurd h (by simp)
  | x :: t, [], h, _, _ => absurd h (by simp)
  | x :: t, y :: u, h, hl, hf => by
    have e : (Nat.shiftLeft y w).testBit l = y.testBit (l - w) := by
      show (y <<< w).testBit l = _
      rw [Nat.testBit_shiftLeft, decide_eq_true (by omega), Bool.true_and]
    show (Nat.lor x (Nat.shiftLeft y w)).testBit l :: hz_pr l (hz_sor w t u) = y.testBit (l - w) :: hz_pr (l - w) u
    rw [hz_to, e, hf x (List.mem_cons_self ..), Bool.false_or, hz_sor_hi t u (by simpa using h) hl (fun z hz => hf z (List.mem_cons_of_mem _ hz))]
theorem hz_bl0 : hz_bl 0 = List.replicate 32 false := by decide
theorem hz_pr_f {l : Nat} : ∀ X : List Nat, (∀ x, x ∈ X → x.testBit l = false) → hz_pr l X = List.replicate X.length false
  | [], _ => rfl
  | x :: t, h => by
    show x.testBit l :: hz_pr l t = false :: List.replicate t.length false
    rw [h x (List.mem_cons_self ..), hz_pr_f t (fun z hz => h z (List.mem_cons_of_mem _ hz))]
theorem hz_pr_0 {l : Nat} {X : List Nat} (h : hz_pr l X = hz_bl 0) : ∀ x, x ∈ X → x.testBit l = false := fun x hx => by
  have h1 : x.testBit l ∈ hz_pr l X := List.mem_map_of_mem hx
  rw [h, hz_bl0] at h1
  exact List.eq_of_mem_replicate h1
def hz_reps : List (List Nat) → List Nat → Prop
  | [], [] => True
  | M :: Ms, e :: es => hz_rep M e ∧ hz_reps Ms es
  | _, _ => False
theorem hz_dbl_v {p i : Nat} {c : Int32} : ∀ (Ms : List (List Nat)) (es : List Nat) (w e0 : Nat) (X : List Nat), hz_reps Ms es → p ∣ w → X.length = 32 → (∀ l, l < w → l % p = i → ∃ e, e ≤ e0 ∧ hz_pr l X = hz_bl (itT e c)) → (∀ l, w ≤ l → hz_pr l X = hz_bl 0) → ∀ l, l < w * 2 ^ Ms.length → l % p = i → ∃ e, e ≤ e0 + es.sum ∧ hz_pr l (hz_dbl Ms w X) = hz_bl (itT e c)
  | [], [], w, e0, X, _, _, _, h1, _, l, hl, hi => by
    rw [List.length_nil, Nat.pow_zero, Nat.mul_one] at hl
    exact h1 l hl hi
  | [], e :: es, _, _, _, h, _, _, _, _, _, _, _ => h.elim
  | M :: Ms, [], _, _, _, h, _, _, _, _, _, _, _ => h.elim
  | M :: Ms, e1 :: es, w, e0, X, hR, hp, hX, h1, h2, l, hl, hi => by
    have hA : (hz_ap M X).length = 32 := hz_len (l := w) (hz_rep_ap hR.1 (h2 w (Nat.le_refl w)))
    have len : X.length = (hz_ap M X).length := by rw [hX, hA]
    have ih := hz_dbl_v Ms es (2 * w) (e0 + e1) (hz_sor w X (hz_ap M X)) hR.2 (Nat.dvd_trans hp (Nat.dvd_mul_left w 2)) (by
      rw [← hz_pr_len (2 * w), hz_sor_hi X _ len (by omega) (hz_pr_0 (h2 (2 * w) (by omega))), hz_pr_len, hA]) (fun l hl hi => by
      rcases Nat.lt_or_ge l w with q | q
      · obtain ⟨e, he, h⟩ := h1 l q hi
        exact ⟨e, by omega, by rw [hz_sor_lo X _ len q, h]⟩
      · have hi2 : (l - w) % p = i := by
          obtain ⟨z, hz⟩ := hp
          rw [← hi]
          have : l = p * z + (l - w) := by omega
          rw [this, Nat.mul_add_mod]
          congr 1
          omega
        obtain ⟨e, he, h⟩ := h1 (l - w) (by omega) hi2
        refine ⟨e + e1, by omega, ?_⟩
        rw [hz_sor_hi X _ len q (hz_pr_0 (h2 l q)), hz_rep_ap hR.1 h, itT_add]) (fun l hl => by
      rw [hz_sor_hi X _ len (by omega) (hz_pr_0 (h2 l (by omega))), hz_rep_ap hR.1 (h2 (l - w) (by omega)), hz_it0]) l (by
      rw [List.length_cons, Nat.pow_succ, ← Nat.mul_assoc, Nat.mul_comm _ 2, ← Nat.mul_assoc] at hl
      exact hl) hi
    obtain ⟨e, he, h⟩ := ih
    exact ⟨e, by rw [List.sum_cons]; omega, h⟩
