/-! LANE BY LANE: the rest by n, bit by bit -/
def hz_bn (l x : Nat) : Nat := (x.testBit l).toNat
def hz_vN (l : Nat) : Nat → List Nat → Nat
  | 0, _ => 0
  | _ + 1, [] => 0
  | k + 1, a :: t => hz_bn l a + 2 * hz_vN l k t
def hz_kv : List Bool → Nat
  | [] => 0
  | k :: t => k.toNat + 2 * hz_kv t
theorem hz_bn_le (l x : Nat) : hz_bn l x ≤ 1 := by
  unfold hz_bn
  cases x.testBit l <;> decide
theorem hz_vN_lt (l : Nat) : ∀ k as, hz_vN l k as < 2 ^ k
  | 0, _ => Nat.zero_lt_one
  | k + 1, [] => Nat.two_pow_pos _
  | k + 1, a :: t => by
    have h1 := hz_vN_lt l k t
    have h2 := hz_bn_le l a
    show hz_bn l a + 2 * hz_vN l k t < 2 ^ (k + 1)
    rw [Nat.pow_succ]
    omega
theorem hz_vN_s (l : Nat) : ∀ k as, hz_vN l k as = hz_vN l (k + 1) as % 2 ^ k
  | 0, as => by rw [Nat.pow_zero, Nat.mod_one]; rfl
  | k + 1, [] => by
    show 0 = 0 % 2 ^ (k + 1)
    rw [Nat.zero_mod]
  | k + 1, a :: t => by
    have h1 := hz_vN_s l k t
    have h2 := hz_bn_le l a
    show hz_bn l a + 2 * hz_vN l k t = (hz_bn l a + 2 * hz_vN l (k + 1) t) % 2 ^ (k + 1)
    rw [Nat.pow_succ, Nat.mul_comm (2 ^ k) 2, Nat.mod_mul]
    rw [show (hz_bn l a + 2 * hz_vN l (k + 1) t) / 2 = hz_vN l (k + 1) t by omega, ← h1]
    omega
theorem hz_vN_of (l k : Nat) (as : List Nat) {n : Nat} (h : hz_vN l (k + 1) as < n) (hn : n ≤ 2 ^ k) : hz_vN l k as = hz_vN l (k + 1) as := by
  rw [hz_vN_s l k as]
  exact Nat.mod_eq_of_lt (by omega)
noncomputable def hz_mj (k : Bool) (a c : Nat) : Nat := Bool.rec (motive := fun _ => Nat) (Nat.land a c) (Nat.lor a c) k
noncomputable def hz_tt (o : Nat) (k : Bool) (c : Nat) : Nat := Bool.rec (motive := fun _ => Nat) (Nat.land o c) (Nat.xor o (Nat.land o c)) k
theorem hz_R1 {l o : Nat} (ho : o.testBit l = true) : ∀ (ks : List Bool) (as : List Nat) (c d : Nat), ks.length ≤ as.length → hz_vN l ks.length (hz_rs o ks as (hz_car ks as c)) + 2 ^ ks.length * hz_bn l (hz_last (hz_car ks as c) d) = hz_vN l ks.length as + hz_kv ks + hz_bn l c
  | [], as, c, d, _ => by
    show 0 + 2 ^ 0 * hz_bn l c = 0 + 0 + hz_bn l c
    omega
  | k :: ks, [], c, d, h => absurd h (by simp)
  | k :: ks, a :: u, c, d, h => by
    have ih := hz_R1 ho ks u (hz_mj k a c) c (by simpa using h)
    show hz_bn l (Nat.xor a (hz_tt o k c)) + 2 * hz_vN l ks.length (hz_rs o ks u (hz_car ks u (hz_mj k a c))) + 2 ^ (ks.length + 1) * hz_bn l (hz_last (hz_car ks u (hz_mj k a c)) c) = hz_bn l a + 2 * hz_vN l ks.length u + (k.toNat + 2 * hz_kv ks) + hz_bn l c
    have e : 2 * hz_bn l (hz_mj k a c) + hz_bn l (Nat.xor a (hz_tt o k c)) = hz_bn l a + k.toNat + hz_bn l c := by
      unfold hz_bn
      rw [hz_tx]
      cases k
      · show 2 * ((Nat.land a c).testBit l).toNat + (a.testBit l ^^ (Nat.land o c).testBit l).toNat = _
        rw [hz_ta, hz_ta, ho]
        cases a.testBit l <;> cases c.testBit l <;> rfl
      · show 2 * ((Nat.lor a c).testBit l).toNat + (a.testBit l ^^ (Nat.xor o (Nat.land o c)).testBit l).toNat = _
        rw [hz_to, hz_tx, hz_ta, ho]
        cases a.testBit l <;> cases c.testBit l <;> rfl
    rw [Nat.pow_succ, Nat.mul_comm (2 ^ ks.length) 2, Nat.mul_assoc]
    generalize 2 ^ ks.length * hz_bn l (hz_last (hz_car ks u (hz_mj k a c)) c) = z at ih ⊢
    omega
theorem hz_R0 {l o : Nat} (ho : o.testBit l = false) : ∀ (ks : List Bool) (as : List Nat) (c : Nat), ks.length ≤ as.length → hz_vN l ks.length (hz_rs o ks as (hz_car ks as c)) = hz_vN l ks.length as
  | [], as, c, _ => rfl
  | k :: ks, [], c, h => absurd h (by simp)
  | k :: ks, a :: u, c, h => by
    have ih := hz_R0 ho ks u (hz_mj k a c) (by simpa using h)
    show hz_bn l (Nat.xor a (hz_tt o k c)) + 2 * hz_vN l ks.length (hz_rs o ks u (hz_car ks u (hz_mj k a c))) = hz_bn l a + 2 * hz_vN l ks.length u
    have e : hz_bn l (Nat.xor a (hz_tt o k c)) = hz_bn l a := by
      unfold hz_bn
      rw [hz_tx]
      cases k
      · show (a.testBit l ^^ (Nat.land o c).testBit l).toNat = _
        rw [hz_ta, ho]
        cases a.testBit l <;> rfl
      · show (a.testBit l ^^ (Nat.xor o (Nat.land o c)).testBit l).toNat = _
        rw [hz_tx, hz_ta, ho]
        cases a.testBit l <;> rfl
    rw [e, ih]
theorem hz_rs_len (o : Nat) : ∀ (ks : List Bool) (as : List Nat) (c : Nat), ks.length ≤ as.length → (hz_rs o ks as (hz_car ks as c)).length = ks.length
  | [], as, c, _ => rfl
  | k :: ks, [], c, h => absurd h (by simp)
  | k :: ks, a :: u, c, h => by
    have ih := hz_rs_len o ks u (hz_mj k a c) (by simpa using h)
    show (hz_rs o ks u (hz_car ks u (hz_mj k a c))).length + 1 = ks.length + 1
    rw [ih]
theorem hz_sp_len {ks : List Bool} {y : Nat} {a : List Nat} (hk : ks.length = 11) (ha : 10 ≤ a.length) : (hz_sp1 ks (y :: a)).length = 11 := by
  unfold hz_sp1 hz_sp2
  rw [hz_rs_len _ ks (y :: a) 0 (by rw [hk]; simp; omega), hk]
theorem hz_step {l n : Nat} {ks : List Bool} {y : Nat} {a : List Nat} (hk : ks.length = 11) (hkv : hz_kv ks + n = 2048) (h0 : 0 < n) (hn : n ≤ 1024) (ha : 10 ≤ a.length) (hA : hz_vN l 10 a < n) : hz_vN l 10 (hz_sp1 ks (y :: a)) = (hz_bn l y + 2 * hz_vN l 10 a) % n := by
  have hl : ks.length ≤ (y :: a).length := by rw [hk]; simp; omega
  have hb := hz_bn_le l y
  have v11 : hz_vN l 11 (y :: a) = hz_bn l y + 2 * hz_vN l 10 a := rfl
  have key : hz_vN l 11 (hz_sp1 ks (y :: a)) = (hz_bn l y + 2 * hz_vN l 10 a) % n := by
    unfold hz_sp1 hz_sp2
    have lt := hz_vN_lt l 11 (hz_rs (hz_last (hz_car ks (y :: a) 0) 0) ks (y :: a) (hz_car ks (y :: a) 0))
    by_cases ho : (hz_last (hz_car ks (y :: a) 0) 0).testBit l = true
    · have r := hz_R1 ho ks (y :: a) 0 0 hl
      rw [hk, v11] at r
      have z : hz_bn l 0 = 0 := by unfold hz_bn; rw [Nat.zero_testBit]; rfl
      have w : hz_bn l (hz_last (hz_car ks (y :: a) 0) 0) = 1 := by unfold hz_bn; rw [ho]; rfl
      rw [z, w] at r
      have e : hz_vN l 11 (hz_rs (hz_last (hz_car ks (y :: a) 0) 0) ks (y :: a) (hz_car ks (y :: a) 0)) + n = hz_bn l y + 2 * hz_vN l 10 a := by omega
      rw [← e, Nat.add_mod_right]
      exact (Nat.mod_eq_of_lt (by omega)).symm
    · have ho : (hz_last (hz_car ks (y :: a) 0) 0).testBit l = false := by simpa using ho
      have r := hz_R0 ho ks (y :: a) 0 hl
      rw [hk, v11] at r
      have r2 := hz_R1 (l := l) (o := 2 ^ l) Nat.testBit_two_pow_self ks (y :: a) 0 0 hl
      rw [hk, v11] at r2
      have w : hz_bn l (hz_last (hz_car ks (y :: a) 0) 0) = 0 := by unfold hz_bn; rw [ho]; rfl
      rw [w] at r2
      have lt2 := hz_vN_lt l 11 (hz_rs (2 ^ l) ks (y :: a) (hz_car ks (y :: a) 0))
      rw [r]
      exact (Nat.mod_eq_of_lt (by omega)).symm
  rw [← key]
  exact hz_vN_of l 10 _ (n := n) (by rw [key]; exact Nat.mod_lt _ h0) (by omega)
theorem hz_app_v (l : Nat) : ∀ Y : List Nat, hz_vN l (Y.length + 2) (hz_app Y [0, 0]) = hz_vB (hz_pr l Y)
  | [] => by
    have z : hz_bn l 0 = 0 := by unfold hz_bn; rw [Nat.zero_testBit]; rfl
    show hz_bn l 0 + 2 * (hz_bn l 0 + 2 * 0) = 0
    omega
  | y :: t => by
    show hz_bn l y + 2 * hz_vN l (t.length + 2) (hz_app t [0, 0]) = hz_bn l y + 2 * hz_vB (hz_pr l t)
    rw [hz_app_v l t]
theorem hz_app_len : ∀ Y : List Nat, (hz_app Y [0, 0]).length = Y.length + 2
  | [] => rfl
  | y :: t => by
    show (hz_app t [0, 0]).length + 1 = t.length + 1 + 2
    rw [hz_app_len t]
theorem hz_vB_lt : ∀ b : List Bool, hz_vB b < 2 ^ b.length
  | [] => by decide
  | x :: t => by
    have h := hz_vB_lt t
    show x.toNat + 2 * hz_vB t < 2 ^ (t.length + 1)
    have : x.toNat ≤ 1 := by cases x <;> decide
    rw [Nat.pow_succ]
    omega
theorem hz_md_v {l n : Nat} {ks : List Bool} (hk : ks.length = 11) (hkv : hz_kv ks + n = 2048) (h0 : 256 ≤ n) (hn : n ≤ 1024) : ∀ (k : Nat) (Y : List Nat), Y.length = k + 8 → 10 ≤ (hz_md ks k Y).length ∧ hz_vN l 10 (hz_md ks k Y) = hz_vB (hz_pr l Y) % n
  | 0, Y, hY => by
    have e := hz_app_v l Y
    have e2 := hz_app_len Y
    have lt := hz_vB_lt (hz_pr l Y)
    have hp : (hz_pr l Y).length = 8 := by unfold hz_pr; rw [List.length_map, hY]
    rw [hp] at lt
    rw [hY] at e e2
    refine ⟨?_, ?_⟩
    · show 10 ≤ (hz_app Y [0, 0]).length
      rw [e2]; decide
    · show hz_vN l 10 (hz_app Y [0, 0]) = _
      rw [Nat.mod_eq_of_lt (by omega)]
      exact e
  | k + 1, [], hY => absurd hY (by simp)
  | k + 1, y :: t, hY => by
    have ih := hz_md_v (l := l) hk hkv h0 hn k t (by simpa using hY)
    refine ⟨?_, ?_⟩
    · show 10 ≤ (hz_sp1 ks (y :: hz_md ks k t)).length
      rw [hz_sp_len hk ih.1]; decide
    · show hz_vN l 10 (hz_sp1 ks (y :: hz_md ks k t)) = (hz_bn l y + 2 * hz_vB (hz_pr l t)) % n
      rw [hz_step hk hkv (by omega) hn ih.1 (by rw [ih.2]; exact Nat.mod_lt _ (by omega)), ih.2]
      simp [Nat.add_mod, Nat.mul_mod]
theorem hz_dup_v (l a : Nat) : ∀ (ws : List Nat) (q : Nat), ((hz_dup a ws).getD q 0).testBit l = ((ws.getD (q / 2) 0).testBit l && (a.testBit l == decide (q % 2 = 1)))
  | [], q => by
    show (([] : List Nat).getD q 0).testBit l = ((([] : List Nat).getD (q / 2) 0).testBit l && _)
    simp
  | w :: t, 0 => by
    show (Nat.xor w (Nat.land w a)).testBit l = (w.testBit l && (a.testBit l == decide (0 % 2 = 1)))
    rw [hz_tx, hz_ta]
    cases w.testBit l <;> cases a.testBit l <;> rfl
  | w :: t, 1 => by
    show (Nat.land w a).testBit l = (w.testBit l && (a.testBit l == decide (1 % 2 = 1)))
    rw [hz_ta]
    cases w.testBit l <;> cases a.testBit l <;> rfl
  | w :: t, q + 2 => by
    have ih := hz_dup_v l a t q
    have e1 : (q + 2) / 2 = q / 2 + 1 := by omega
    have e2 : (q + 2) % 2 = q % 2 := by omega
    rw [e1, e2]
    exact ih
theorem hz_dup_len (a : Nat) : ∀ ws : List Nat, (hz_dup a ws).length = 2 * ws.length
  | [] => rfl
  | w :: t => by
    show (hz_dup a t).length + 1 + 1 = 2 * (t.length + 1)
    rw [hz_dup_len a t]; omega
theorem hz_oh_v (l v : Nat) : ∀ (k : Nat) (as : List Nat) (q : Nat), k ≤ as.length → q < 2 ^ k → ((hz_oh k as v).getD q 0).testBit l = (v.testBit l && decide (hz_vN l k as = q))
  | 0, as, q, _, hq => by
    have : q = 0 := by simpa using hq
    subst this
    show v.testBit l = (v.testBit l && decide ((0 : Nat) = 0))
    simp
  | k + 1, [], q, h, _ => absurd h (by simp)
  | k + 1, a :: t, q, h, hq => by
    show ((hz_dup a (hz_oh k t v)).getD q 0).testBit l = (v.testBit l && decide (hz_bn l a + 2 * hz_vN l k t = q))
    rw [hz_dup_v, hz_oh_v l v k t (q / 2) (by simpa using h) (by rw [Nat.pow_succ] at hq; omega)]
    unfold hz_bn
    cases a.testBit l
    · cases v.testBit l
      · rfl
      · rcases Nat.mod_two_eq_zero_or_one q with e | e
        · rw [e]
          have : (hz_vN l k t = q / 2) ↔ ((false).toNat + 2 * hz_vN l k t = q) := by simp only [Bool.toNat_false]; omega
          simp [this]
        · rw [e]
          simp; omega
    · cases v.testBit l
      · rfl
      · rcases Nat.mod_two_eq_zero_or_one q with e | e
        · rw [e]
          simp; omega
        · rw [e]
          have : (hz_vN l k t = q / 2) ↔ ((true).toNat + 2 * hz_vN l k t = q) := by simp only [Bool.toNat_true]; omega
          simp [this]
theorem hz_oh_len (v : Nat) : ∀ (k : Nat) (as : List Nat), k ≤ as.length → (hz_oh k as v).length = 2 ^ k
  | 0, as, _ => rfl
  | k + 1, [], h => absurd h (by simp)
  | k + 1, a :: t, h => by
    show (hz_dup a (hz_oh k t v)).length = 2 ^ (k + 1)
    rw [hz_dup_len, hz_oh_len v k t (by simpa using h), Nat.pow_succ, Nat.mul_comm]
theorem hz_and_v (l v : Nat) (hv : v.testBit l = true) : ∀ xs : List Nat, (hz_and v xs).testBit l = (hz_pr l xs).all id
  | [] => hv
  | x :: t => by
    show (Nat.land x (hz_and v t)).testBit l = (x.testBit l && (hz_pr l t).all id)
    rw [hz_ta, hz_and_v l v hv t]
theorem hz_and_f (l v : Nat) (hv : v.testBit l = false) : ∀ xs : List Nat, (hz_and v xs).testBit l = false
  | [] => hv
  | x :: t => by
    show (Nat.land x (hz_and v t)).testBit l = false
    rw [hz_ta, hz_and_f l v hv t, Bool.and_false]
theorem hz_vB_all : ∀ b : List Bool, b.all id = false → hz_vB b + 1 < 2 ^ b.length
  | [], h => absurd h (by decide)
  | x :: t, h => by
    have lt := hz_vB_lt t
    show x.toNat + 2 * hz_vB t + 1 < 2 ^ (t.length + 1)
    rw [Nat.pow_succ]
    cases x
    · simp only [Bool.toNat_false]; omega
    · have ih := hz_vB_all t (by simpa using h)
      simp only [Bool.toNat_true]; omega
theorem hz_vB_dr : ∀ (k : Nat) (b : List Bool), hz_vB (b.drop k) = hz_vB b / 2 ^ k
  | 0, b => by rw [Nat.pow_zero, Nat.div_one]; rfl
  | k + 1, [] => by
    show 0 = 0 / 2 ^ (k + 1)
    rw [Nat.zero_div]
  | k + 1, x :: t => by
    show hz_vB (t.drop k) = (x.toNat + 2 * hz_vB t) / 2 ^ (k + 1)
    have : x.toNat ≤ 1 := by cases x <;> decide
    rw [hz_vB_dr k t, Nat.pow_succ, Nat.mul_comm (2 ^ k) 2, ← Nat.div_div_eq_div_mul, show (x.toNat + 2 * hz_vB t) / 2 = hz_vB t by omega]
theorem hz_dr_len : ∀ (k : Nat) (xs : List Nat), (hz_dr k xs).length = xs.length - k
  | 0, xs => rfl
  | k + 1, [] => by
    show 0 = 0 - (k + 1)
    omega
  | k + 1, x :: t => by
    show (hz_dr k t).length = t.length + 1 - (k + 1)
    rw [hz_dr_len k t]; omega
theorem hz_pr_len (l : Nat) (X : List Nat) : (hz_pr l X).length = X.length := List.length_map _
theorem hz_len {l : Nat} {X : List Nat} {c : Int32} (h : hz_pr l X = hz_bl c) : X.length = 32 := by
  rw [← hz_pr_len l X, h]; rfl
/-- low and high part of a rest -/
theorem hz_vN_5 (l : Nat) (as : List Nat) (h : 10 ≤ as.length) : hz_vN l 10 as = hz_vN l 5 as + 32 * hz_vN l 5 (hz_dr 5 as) := by
  match as, h with
  | a :: b :: c :: d :: e :: t, _ =>
    show hz_bn l a + 2 * (hz_bn l b + 2 * (hz_bn l c + 2 * (hz_bn l d + 2 * (hz_bn l e + 2 * hz_vN l 5 t)))) = hz_bn l a + 2 * (hz_bn l b + 2 * (hz_bn l c + 2 * (hz_bn l d + 2 * (hz_bn l e + 2 * 0)))) + 32 * hz_vN l 5 t
    omega
theorem hz_lohi {l n v i j : Nat} {ks : List Bool} {X : List Nat} {c : Int32} (hk : ks.length = 11) (hkv : hz_kv ks + n = 2048) (h0 : 256 ≤ n) (hn : n ≤ 1024) (hX : hz_pr l X = hz_bl c) (hi : i < 32) (hj : j < 32) (h1 : ((hz_hi v ks X).getD i 0).testBit l = true) (h2 : ((hz_lo v ks X).getD j 0).testBit l = true) : v.testBit l = true ∧ c.toBitVec.toNat / 2 % n = j + 32 * i ∧ c.toBitVec.toNat / 2 < 2 ^ 31 - 2 ^ 19 := by
  have hl := hz_len hX
  have m := hz_md_v (l := l) hk hkv h0 hn 23 (hz_dr 1 X) (by rw [hz_dr_len, hl])
  have hy : hz_vB (hz_pr l (hz_dr 1 X)) = c.toBitVec.toNat / 2 := by
    rw [show hz_pr l (hz_dr 1 X) = (hz_pr l X).drop 1 from hz_m_dr _ 1 X, hz_vB_dr, hX, hz_vbl]
  rw [hy] at m
  have d5 : (hz_dr 5 (hz_resi ks X)).length = (hz_resi ks X).length - 5 := hz_dr_len 5 _
  have m1 : 10 ≤ (hz_resi ks X).length := m.1
  have m2 : hz_vN l 10 (hz_resi ks X) = c.toBitVec.toNat / 2 % n := m.2
  unfold hz_hi at h1
  unfold hz_lo at h2
  rw [hz_oh_v l _ 5 _ _ (by omega) (by omega)] at h1
  rw [hz_oh_v l _ 5 _ _ (by omega) (by omega)] at h2
  simp only [Bool.and_eq_true, decide_eq_true_eq] at h1 h2
  refine ⟨h1.1, ?_, ?_⟩
  · rw [← m2, hz_vN_5 l _ m1, h1.2, h2.2]
  · have hm := h2.1
    unfold hz_mk at hm
    rw [hz_tx, h1.1, hz_and_v l v h1.1, show hz_pr l (hz_dr 20 X) = (hz_pr l X).drop 20 from hz_m_dr _ 20 X, hX] at hm
    have ha : ((hz_bl c).drop 20).all id = false := by
      cases q : ((hz_bl c).drop 20).all id
      · rfl
      · rw [q] at hm; exact absurd hm (by decide)
    have lt := hz_vB_all _ ha
    rw [hz_vB_dr, hz_vbl] at lt
    have e : ((hz_bl c).drop 20).length = 12 := rfl
    rw [e] at lt
    omega
