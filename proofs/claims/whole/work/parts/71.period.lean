/-! THE PERIOD of the chain is 2 ^ 32 - 1: every state but 0 comes after every other -/
def hz_s0 : Int32 := nI 891394312
theorem hz_s0_V : hz_pr 0 hz_V0 = hz_bl hz_s0 := by decide +kernel
theorem hz_id : hz_E [0, 1, 2, 3, 4, 5, 6, 7, 8, 9, 10, 11, 12, 13, 14, 15, 16, 17, 18, 19, 20, 21, 22, 23, 24, 25, 26, 27, 28, 29, 30, 31] = hz_I := by decide +kernel
theorem hz_N (c : Int32) : itT 4294967295 c = c := by
  have h := hz_rep_E [0, 1, 2, 3, 4, 5, 6, 7, 8, 9, 10, 11, 12, 13, 14, 15, 16, 17, 18, 19, 20, 21, 22, 23, 24, 25, 26, 27, 28, 29, 30, 31] c
  rw [hz_id, hz_I_id, show hz_ex [0, 1, 2, 3, 4, 5, 6, 7, 8, 9, 10, 11, 12, 13, 14, 15, 16, 17, 18, 19, 20, 21, 22, 23, 24, 25, 26, 27, 28, 29, 30, 31] = 4294967295 from by decide +kernel] at h
  exact hz_bl_inj h
theorem hz_np {ks : List Nat} {e : Nat} (he : hz_ex ks = e) (h : ¬ hz_pr 0 (hz_ap (hz_E ks) hz_V0) = hz_pr 0 hz_V0) : ¬ itT e hz_s0 = hz_s0 := fun q => by
  subst he
  apply h
  rw [hz_rep_ap (hz_rep_E ks) hz_s0_V, q, hz_s0_V]
theorem hz_np3 : ¬ itT 1431655765 hz_s0 = hz_s0 := hz_np (ks := [0, 2, 4, 6, 8, 10, 12, 14, 16, 18, 20, 22, 24, 26, 28, 30]) (by decide +kernel) (by decide +kernel)
theorem hz_np5 : ¬ itT 858993459 hz_s0 = hz_s0 := hz_np (ks := [0, 1, 4, 5, 8, 9, 12, 13, 16, 17, 20, 21, 24, 25, 28, 29]) (by decide +kernel) (by decide +kernel)
theorem hz_np17 : ¬ itT 252645135 hz_s0 = hz_s0 := hz_np (ks := [0, 1, 2, 3, 8, 9, 10, 11, 16, 17, 18, 19, 24, 25, 26, 27]) (by decide +kernel) (by decide +kernel)
theorem hz_np257 : ¬ itT 16711935 hz_s0 = hz_s0 := hz_np (ks := [0, 1, 2, 3, 4, 5, 6, 7, 16, 17, 18, 19, 20, 21, 22, 23]) (by decide +kernel) (by decide +kernel)
theorem hz_np65537 : ¬ itT 65535 hz_s0 = hz_s0 := hz_np (ks := [0, 1, 2, 3, 4, 5, 6, 7, 8, 9, 10, 11, 12, 13, 14, 15]) (by decide +kernel) (by decide +kernel)
theorem hz_it0 : ∀ k, itT k 0 = 0
  | 0 => rfl
  | k + 1 => by
    show itT k (tw 0) = 0
    rw [show tw 0 = 0 from by decide]
    exact hz_it0 k
theorem hz_tw_inj {N : Nat} (hN : ∀ c, itT N c = c) (h0 : 0 < N) {c d : Int32} (h : tw c = tw d) : c = d := by
  obtain ⟨n, rfl⟩ : ∃ n, N = n + 1 := ⟨N - 1, by omega⟩
  have e : itT n (tw c) = itT n (tw d) := by rw [h]
  have e1 : itT n (tw c) = c := hN c
  have e2 : itT n (tw d) = d := hN d
  rw [e1, e2] at e
  exact e
theorem hz_it_inj {N : Nat} (hN : ∀ c, itT N c = c) (h0 : 0 < N) : ∀ (k : Nat) {c d : Int32}, itT k c = itT k d → c = d
  | 0, _, _, h => h
  | k + 1, c, d, h => by
    have e : itT k (tw c) = itT k (tw d) := h
    exact hz_tw_inj hN h0 (hz_it_inj hN h0 k e)
theorem hz_tw_ne {N : Nat} (hN : ∀ c, itT N c = c) (h0 : 0 < N) {c : Int32} (h : ¬ c = 0) : ¬ tw c = 0 := fun q => h (hz_tw_inj hN h0 (q.trans (show (0 : Int32) = tw 0 from by decide)))
theorem hz_p_mul {v : Int32} {d : Nat} (h : itT d v = v) : ∀ q, itT (d * q) v = v
  | 0 => rfl
  | q + 1 => by
    rw [Nat.mul_succ, ← itT_add, hz_p_mul h q, h]
theorem hz_p_mod {v : Int32} {a b : Nat} (ha : itT a v = v) (hb : itT b v = v) : itT (b % a) v = v := by
  have e := hz_p_mul ha (b / a)
  have e2 : itT (b % a) (itT (a * (b / a)) v) = itT b v := by rw [itT_add, Nat.div_add_mod]
  rw [e, hb] at e2
  exact e2
theorem hz_p_gcd {v : Int32} (a b : Nat) : itT a v = v → itT b v = v → itT (Nat.gcd a b) v = v := by
  induction a, b using Nat.gcd.induction with
  | H0 n => intro _ h; rw [Nat.gcd_zero_left]; exact h
  | H1 m n hm ih =>
    intro h1 h2
    rw [Nat.gcd_rec]
    exact ih (hz_p_mod h1 h2) h1
theorem hz_pl (p B : Nat) (hp0 : 0 < p) (hp : p < (B + 1) * (B + 1)) (h : ∀ x, x < B + 1 → p % x = 0 → x = 1 ∨ x = p) : ∀ x, x ∣ p → x = 1 ∨ x = p := fun x hx => by
  obtain ⟨y, hy⟩ := hx
  rcases Nat.lt_or_ge x (B + 1) with q | q
  · exact h x q (by rw [hy, Nat.mul_mod_right])
  · have hy2 : y < B + 1 := by
      rcases Nat.lt_or_ge y (B + 1) with q2 | q2
      · exact q2
      · have := Nat.mul_le_mul q q2
        omega
    rcases h y hy2 (by rw [hy, Nat.mul_mod_left]) with e | e
    · right; rw [hy, e, Nat.mul_one]
    · left
      have e2 : 1 * p = x * p := by
        rw [Nat.one_mul]
        rw [e] at hy
        exact hy
      exact (Nat.eq_of_mul_eq_mul_right hp0 e2).symm
theorem hz_cop {p k : Nat} (hp : ∀ x, x ∣ p → x = 1 ∨ x = p) (h : ¬ p ∣ k) : Nat.Coprime k p := by
  rcases hp (Nat.gcd k p) (Nat.gcd_dvd_right k p) with e | e
  · exact e
  · exact absurd (e ▸ Nat.gcd_dvd_left k p) h
theorem hz_five {k : Nat} (h : k ∣ 4294967295) (h1 : ¬ k = 1) : 3 ∣ k ∨ 5 ∣ k ∨ 17 ∣ k ∨ 257 ∣ k ∨ 65537 ∣ k := by
  by_cases q3 : 3 ∣ k
  · exact .inl q3
  by_cases q5 : 5 ∣ k
  · exact .inr (.inl q5)
  by_cases q17 : 17 ∣ k
  · exact .inr (.inr (.inl q17))
  by_cases q257 : 257 ∣ k
  · exact .inr (.inr (.inr (.inl q257)))
  by_cases q6 : 65537 ∣ k
  · exact .inr (.inr (.inr (.inr q6)))
  exfalso
  have a1 : k ∣ 3 * 1431655765 := h
  have a2 : k ∣ 5 * 286331153 := (hz_cop (hz_pl 3 3 (by decide) (by decide) (by decide)) q3).dvd_of_dvd_mul_left a1
  have a3 : k ∣ 17 * 16843009 := (hz_cop (hz_pl 5 5 (by decide) (by decide) (by decide)) q5).dvd_of_dvd_mul_left a2
  have a4 : k ∣ 257 * 65537 := (hz_cop (hz_pl 17 17 (by decide) (by decide) (by decide)) q17).dvd_of_dvd_mul_left a3
  have a5 : k ∣ 65537 * 1 := (hz_cop (hz_pl 257 20 (by decide) (by decide) (by decide)) q257).dvd_of_dvd_mul_left a4
  have a6 : k ∣ 1 := (hz_cop (hz_pl 65537 256 (by decide) (by decide) (by decide +kernel)) q6).dvd_of_dvd_mul_left a5
  exact h1 (Nat.dvd_one.mp a6)
theorem hz_p_dv {v : Int32} {g k p e : Nat} (hg : itT g v = v) (hk : 4294967295 = g * k) (hp : p ∣ k) (he : 4294967295 = e * p) (hp0 : 0 < p) : itT e v = v := by
  obtain ⟨w, rfl⟩ := hp
  have e1 : e * p = (g * w) * p := by rw [← he, hk, Nat.mul_comm p w, Nat.mul_assoc]
  rw [Nat.eq_of_mul_eq_mul_right hp0 e1]
  exact hz_p_mul hg w
theorem hz_exact {d : Nat} (h0 : 0 < d) (h1 : d < 4294967295) : ¬ itT d hz_s0 = hz_s0 := fun h => by
  have hg := hz_p_gcd d 4294967295 h (hz_N hz_s0)
  obtain ⟨k, hk⟩ := Nat.gcd_dvd_right d 4294967295
  have hk1 : ¬ k = 1 := fun e => by
    rw [e, Nat.mul_one] at hk
    have := Nat.gcd_le_left 4294967295 h0
    omega
  rcases hz_five ⟨Nat.gcd d 4294967295, by rw [Nat.mul_comm]; exact hk⟩ hk1 with q | q | q | q | q
  · exact hz_np3 (hz_p_dv hg hk q rfl (by decide))
  · exact hz_np5 (hz_p_dv hg hk q rfl (by decide))
  · exact hz_np17 (hz_p_dv hg hk q rfl (by decide))
  · exact hz_np257 (hz_p_dv hg hk q rfl (by decide))
  · exact hz_np65537 (hz_p_dv hg hk q rfl (by decide))
theorem hz_pig : ∀ (N : Nat) (f : Nat → Nat), (∀ i, i < N → f i < N) → (∀ i j, i < N → j < N → f i = f j → i = j) → ∀ y, y < N → ∃ i, i < N ∧ f i = y
  | 0, _, _, _, y, hy => absurd hy (Nat.not_lt_zero y)
  | N + 1, f, hf, hi, y, hy => by
    have ih := hz_pig N (fun i => if f i = N then f N else f i) (fun i h => by
      show (if f i = N then f N else f i) < N
      by_cases q : f i = N
      · rw [if_pos q]
        have h1 := hf N (Nat.lt_succ_self N)
        have h2 : ¬ f N = N := fun e => by
          have := hi i N (by omega) (by omega) (by rw [q, e])
          omega
        omega
      · rw [if_neg q]
        have := hf i (by omega)
        omega) (fun i j h1 h2 e => by
      have e : (if f i = N then f N else f i) = (if f j = N then f N else f j) := e
      by_cases q1 : f i = N
      · by_cases q2 : f j = N
        · exact hi i j (by omega) (by omega) (by rw [q1, q2])
        · rw [if_pos q1, if_neg q2] at e
          have := hi N j (by omega) (by omega) e
          omega
      · by_cases q2 : f j = N
        · rw [if_neg q1, if_pos q2] at e
          have := hi i N (by omega) (by omega) e
          omega
        · rw [if_neg q1, if_neg q2] at e
          exact hi i j (by omega) (by omega) e)
    have key : ∀ z, z < N → ∃ i, i < N + 1 ∧ f i = z := fun z hz => by
      obtain ⟨i, hi1, hi2⟩ := ih z hz
      have hi2 : (if f i = N then f N else f i) = z := hi2
      by_cases q : f i = N
      · rw [if_pos q] at hi2; exact ⟨N, Nat.lt_succ_self N, hi2⟩
      · rw [if_neg q] at hi2; exact ⟨i, by omega, hi2⟩
    rcases Nat.lt_or_ge y N with q | q
    · exact key y q
    · have hyN : y = N := by omega
      subst hyN
      by_cases q2 : f y = y
      · exact ⟨y, Nat.lt_succ_self y, q2⟩
      · have h1 := hf y (Nat.lt_succ_self y)
        obtain ⟨i, hi1, hi2⟩ := ih (f y) (by omega)
        have hi2 : (if f i = y then f y else f i) = f y := hi2
        by_cases q3 : f i = y
        · exact ⟨i, by omega, q3⟩
        · rw [if_neg q3] at hi2
          have := hi i y (by omega) (by omega) hi2
          omega
theorem hz_all_g {N : Nat} (hN : ∀ c, itT N c = c) (h0 : 0 < N) (hN2 : N = 2 ^ 32 - 1) {v : Int32} (hv : ¬ v = 0) (hx : ∀ d, 0 < d → d < N → ¬ itT d v = v) (c : Int32) (hc : ¬ c = 0) : ∃ i, itT i v = c := by
  have nz : ∀ x : Int32, ¬ x = 0 → 0 < x.toBitVec.toNat := fun x hx => by
    rcases Nat.eq_zero_or_pos x.toBitVec.toNat with q | q
    · exact absurd (Int32.toBitVec_inj.mp (BitVec.eq_of_toNat_eq (by rw [q]; rfl))) hx
    · exact q
  have ne : ∀ i, ¬ itT i v = 0 := fun i q => hv (hz_it_inj hN h0 i (q.trans (hz_it0 i).symm))
  have lt : ∀ x : Int32, x.toBitVec.toNat < 2 ^ 32 := fun x => x.toBitVec.isLt
  have inj : ∀ i j, i < j → j < N → ¬ itT i v = itT j v := fun i j h1 h2 q => by
    have e : itT i (itT (j - i) v) = itT i v := by rw [itT_add, show j - i + i = j by omega, q]
    exact hx (j - i) (by omega) (by omega) (hz_it_inj hN h0 i e)
  obtain ⟨i, _, hi⟩ := hz_pig N (fun i => (itT i v).toBitVec.toNat - 1) (fun i _ => by
    show (itT i v).toBitVec.toNat - 1 < N
    have h1 := lt (itT i v)
    have h2 := nz _ (ne i)
    omega) (fun i j h1 h2 e => by
    have e : (itT i v).toBitVec.toNat - 1 = (itT j v).toBitVec.toNat - 1 := e
    have a1 := nz _ (ne i)
    have a2 := nz _ (ne j)
    have e2 : itT i v = itT j v := Int32.toBitVec_inj.mp (BitVec.eq_of_toNat_eq (by omega))
    rcases Nat.lt_trichotomy i j with q | q | q
    · exact absurd e2 (inj i j q h2)
    · exact q
    · exact absurd e2.symm (inj j i q h1)) (c.toBitVec.toNat - 1) (by
    have h1 := lt c
    have h2 := nz c hc
    omega)
  have hi : (itT i v).toBitVec.toNat - 1 = c.toBitVec.toNat - 1 := hi
  have a1 := nz _ (ne i)
  have a2 := nz _ hc
  exact ⟨i, Int32.toBitVec_inj.mp (BitVec.eq_of_toNat_eq (by omega))⟩
theorem hz_all (c : Int32) (hc : ¬ c = 0) : ∃ i, itT i hz_s0 = c := hz_all_g hz_N (by decide) (by decide) (by decide) (fun d h0 h1 => hz_exact h0 h1) c hc
