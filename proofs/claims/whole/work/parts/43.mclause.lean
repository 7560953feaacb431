/-- the word of a clause: 4 wheel .. 8 rule, 0 none of them -/
def wdI (f : Nat → Int32) (L s : Nat) : Nat := if wdT f L s 0 = true then 4 else if wdT f L s 1 = true then 5 else if wdT f L s 2 = true then 6 else if wdT f L s 3 = true then 7 else if wdT f L s 4 = true then 8 else 0
theorem fwd_wd (f : Nat → Int32) (L s : Nat) : fwd f L s 4 5 = if wdI f L s = 0 then -1 else nI (wdI f L s) := by
  show (if wdT f L s 0 = true then nI 4 else if wdT f L s 1 = true then nI 5 else if wdT f L s 2 = true then nI 6 else if wdT f L s 3 = true then nI 7 else if wdT f L s 4 = true then nI 8 else -1) = _
  unfold wdI
  by_cases h0 : wdT f L s 0 = true
  · rw [if_pos h0, if_pos h0, if_neg (by decide)]
  · rw [if_neg h0, if_neg h0]
    by_cases h1 : wdT f L s 1 = true
    · rw [if_pos h1, if_pos h1, if_neg (by decide)]
    · rw [if_neg h1, if_neg h1]
      by_cases h2 : wdT f L s 2 = true
      · rw [if_pos h2, if_pos h2, if_neg (by decide)]
      · rw [if_neg h2, if_neg h2]
        by_cases h3 : wdT f L s 3 = true
        · rw [if_pos h3, if_pos h3, if_neg (by decide)]
        · rw [if_neg h3, if_neg h3]
          by_cases h4 : wdT f L s 4 = true
          · rw [if_pos h4, if_pos h4, if_neg (by decide)]
          · rw [if_neg h4, if_neg h4, if_pos rfl]
theorem clC_w (f : Nat → Int32) (L s : Nat) (c : AA) (u : VV) (n : Nat) : clC f L s c u n = if wdI f L s = 4 then (true, nx f L s, sealA c, clrV u) else if wdI f L s = 5 then clJ f L s c u n else if wdI f L s = 6 then clB f L s c u else if wdI f L s = 7 then clA f L s c u else if wdI f L s = 8 then clR f L s c u else (false, s, c, u) := by
  unfold clC wdI
  by_cases h0 : wdT f L s 0 = true
  · simp only [h0, if_true]
  · by_cases h1 : wdT f L s 1 = true
    · simp [h0, h1]
    · by_cases h2 : wdT f L s 2 = true
      · simp [h0, h1, h2]
      · by_cases h3 : wdT f L s 3 = true
        · simp [h0, h1, h2, h3]
        · by_cases h4 : wdT f L s 4 = true
          · simp [h0, h1, h2, h3, h4]
          · simp [h0, h1, h2, h3, h4]
theorem wdI_in (f : Nat → Int32) (L s : Nat) : wdI f L s = 0 ∨ wdI f L s = 4 ∨ wdI f L s = 5 ∨ wdI f L s = 6 ∨ wdI f L s = 7 ∨ wdI f L s = 8 := by
  unfold wdI
  repeat' split
  all_goals simp
/-- a clause at s, n judges ahead of it: whether it may, where the reading goes on, judges behind it -/
def mc (f : Nat → Int32) (L s n : Nat) : Bool × Nat × Nat :=
  if wdI f L s = 0 ∨ (wdI f L s = 5 ∧ n = 6) then (false, s, n) else
  ((rsT f L (nx f L s) n (wdI f L s)).1, (rsT f L (nx f L s) n (wdI f L s)).2.1, if (rsT f L (nx f L s) n (wdI f L s)).1 = true then (if wdI f L s = 4 then 0 else if wdI f L s = 5 then n + 1 else n) else n)
theorem mc_le {f : Nat → Int32} {L s : Nat} (h : s ≤ L) (n : Nat) : (mc f L s n).2.1 ≤ L := by
  unfold mc
  split
  · exact h
  · exact rsT_le (nx_le f h) n _
theorem mc_n {f : Nat → Int32} {L s n : Nat} (hn : n ≤ 6) : (mc f L s n).2.2 ≤ 6 := by
  unfold mc
  split
  · exact hn
  · rename_i q
    dsimp only
    split
    · split
      · omega
      · split
        · omega
        · exact hn
    · exact hn
theorem tk_59 {f : Nat → Int32} {L s : Nat} (h : L ≤ s ∨ f s = 59) : ¬ tkK f L s = 1 := by
  unfold tkK
  rcases Nat.lt_or_ge s L with q | q
  · rw [if_neg (by omega)]
    have e : f s = 59 := by rcases h with h | h; omega; exact h
    rw [e, if_neg (by decide), if_neg (by decide)]
    decide
  · rw [if_pos q]; decide
theorem vs_t {f : Nat → Int32} {L s : Nat} (h : vsB f L s = true) : (tkK f L s = 1 ∧ ¬ vtT f L s = 0 ∧ vsS f L s = nx f L s ∧ vsV f L s = vtT f L s) ∨ (¬ tkK f L s = 1 ∧ vsS f L s = s ∧ vsV f L s = 0) := by
  unfold vsB at h
  unfold vsS vsV
  by_cases q : L ≤ s ∨ f s = 59
  · rw [if_pos q, if_pos q]; exact Or.inr ⟨tk_59 q, rfl, rfl⟩
  · rw [if_neg q] at h
    rw [if_neg q, if_neg q]
    by_cases r : tkK f L s = 1
    · rw [if_pos r] at h
      have h := of_decide_eq_true h
      rw [if_pos ⟨r, h⟩]; exact Or.inl ⟨r, h, rfl, rfl⟩
    · rw [if_neg r] at h; cases h
theorem vs_f {f : Nat → Int32} {L s : Nat} (h : vsB f L s = false) : vsS f L s = s ∧ ((tkK f L s = 1 ∧ vtT f L s = 0) ∨ (¬ tkK f L s = 1 ∧ s < L ∧ ¬ f s = 59)) := by
  unfold vsB at h
  unfold vsS
  by_cases q : L ≤ s ∨ f s = 59
  · rw [if_pos q] at h; cases h
  · rw [if_neg q] at h
    rw [if_neg q]
    by_cases r : tkK f L s = 1
    · rw [if_pos r] at h
      have h := Classical.not_not.mp (of_decide_eq_false h)
      rw [if_neg (fun z => z.2 h)]; exact ⟨rfl, Or.inl ⟨r, h⟩⟩
    · rw [if_neg (fun z => r z.1)]
      exact ⟨rfl, Or.inr ⟨r, Nat.lt_of_not_ge (fun z => q (Or.inl z)), fun z => q (Or.inr z)⟩⟩
/-- the class's clause beside the reference's -/
theorem mc_cl (f : Nat → Int32) (L s : Nat) (c : AA) (u : VV) {n : Nat} (hn : n ≤ 6) (hu : u 8 = nI n) :
    ((mc f L s n).1 = true → (clC f L s c u n).1 = true ∧ (clC f L s c u n).2.1 = (mc f L s n).2.1 ∧ (clC f L s c u n).2.2.2 8 = nI (mc f L s n).2.2) ∧
    ((mc f L s n).1 = false → (clC f L s c u n).2.1 = (mc f L s n).2.1 ∧ ((clC f L s c u n).1 = false ∨ ((clC f L s c u n).1 = true ∧ (mc f L s n).2.1 < L ∧ ¬ f (mc f L s n).2.1 = 59))) := by
  rw [clC_w]
  unfold mc
  rcases wdI_in f L s with w | w | w | w | w | w
  · simp [w]
  · simp only [w]
    refine ⟨fun _ => ⟨rfl, rfl, rfl⟩, fun h => Bool.noConfusion (show true = false from h)⟩
  · by_cases h6 : n = 6
    · subst h6
      simp only [w]
      refine ⟨fun h => Bool.noConfusion (show false = true from h), fun _ => ?_⟩
      exact ⟨rfl, Or.inl rfl⟩
    · rw [w, if_neg (show ¬ 5 = 4 by decide), if_pos (show 5 = 5 from rfl), if_neg (show ¬ (5 = 0 ∨ 5 = 5 ∧ n = 6) by omega)]
      have e5 : rsT f L (nx f L s) n 5 = (if nmT f L (nx f L s) 1 9 = -1 then (false, nx f L s, 0, 0) else (vsB f L (nx f L (nx f L s)), vsS f L (nx f L (nx f L s)), nmT f L (nx f L s) 1 9, vsV f L (nx f L (nx f L s)))) := by
        unfold rsT; rw [if_neg (by decide), if_pos rfl]
      rw [e5]
      unfold clJ
      rw [if_neg (show ¬ 6 ≤ n by omega)]
      by_cases q1 : nmT f L (nx f L s) 1 9 = -1
      · rw [if_pos q1, if_pos q1]
        exact ⟨fun h => Bool.noConfusion (show false = true from h), fun _ => ⟨rfl, Or.inl rfl⟩⟩
      · rw [if_neg q1, if_neg q1]
        cases hB : vsB f L (nx f L (nx f L s))
        · refine ⟨fun h => Bool.noConfusion (show false = true from h), fun _ => ?_⟩
          obtain ⟨e1, e2⟩ := vs_f hB
          dsimp only
          rw [e1]
          rcases e2 with ⟨k1, k2⟩ | ⟨k1, k2, k3⟩
          · rw [if_pos k1, if_pos k2]; exact ⟨rfl, Or.inl rfl⟩
          · rw [if_neg k1]; exact ⟨rfl, Or.inr ⟨rfl, k2, k3⟩⟩
        · refine ⟨fun _ => ?_, fun h => Bool.noConfusion (show true = false from h)⟩
          dsimp only
          rcases vs_t hB with ⟨k1, k2, k3, k4⟩ | ⟨k1, k2, k3⟩
          · rw [k3, if_pos k1, if_neg k2]; exact ⟨rfl, rfl, rfl⟩
          · rw [k2, if_neg k1]; exact ⟨rfl, rfl, rfl⟩
  · rw [w, if_neg (show ¬ 6 = 4 by decide), if_neg (show ¬ 6 = 5 by decide), if_pos (show 6 = 6 from rfl), if_neg (show ¬ (6 = 0 ∨ 6 = 5 ∧ n = 6) by omega)]
    have e6 : rsT f L (nx f L s) n 6 = (if nmT f L (nx f L s) 0 (nI n - 1) = -1 then (false, nx f L s, 0, 0) else if nmT f L (nx f L (nx f L s)) 0 9 = -1 then (false, nx f L (nx f L s), 0, 0) else (true, nx f L (nx f L (nx f L s)), nmT f L (nx f L s) 0 (nI n - 1), nmT f L (nx f L (nx f L s)) 0 9)) := by
      unfold rsT; rw [if_neg (by decide), if_neg (by decide), if_pos rfl]
    rw [e6]
    unfold clB
    rw [hu]
    by_cases q1 : nmT f L (nx f L s) 0 (nI n - 1) = -1
    · rw [if_pos q1, if_pos q1]
      exact ⟨fun h => Bool.noConfusion (show false = true from h), fun _ => ⟨rfl, Or.inl rfl⟩⟩
    · rw [if_neg q1, if_neg q1]
      by_cases q2 : nmT f L (nx f L (nx f L s)) 0 9 = -1
      · rw [if_pos q2, if_pos q2]
        exact ⟨fun h => Bool.noConfusion (show false = true from h), fun _ => ⟨rfl, Or.inl rfl⟩⟩
      · rw [if_neg q2, if_neg q2]
        exact ⟨fun _ => ⟨rfl, rfl, hu⟩, fun h => Bool.noConfusion (show true = false from h)⟩
  · rw [w, if_neg (show ¬ 7 = 4 by decide), if_neg (show ¬ 7 = 5 by decide), if_neg (show ¬ 7 = 6 by decide), if_pos (show 7 = 7 from rfl), if_neg (show ¬ (7 = 0 ∨ 7 = 5 ∧ n = 6) by omega)]
    have e7 : rsT f L (nx f L s) n 7 = (if nmT f L (nx f L s) 0 (nI n - 1) = -1 then (false, nx f L s, 0, 0) else (true, nx f L (nx f L s), nmT f L (nx f L s) 0 (nI n - 1), 0)) := by
      unfold rsT; rw [if_neg (by decide), if_neg (by decide), if_neg (by decide), if_pos rfl]
    rw [e7]
    unfold clA
    rw [hu]
    by_cases q1 : nmT f L (nx f L s) 0 (nI n - 1) = -1
    · rw [if_pos q1, if_pos q1]
      exact ⟨fun h => Bool.noConfusion (show false = true from h), fun _ => ⟨rfl, Or.inl rfl⟩⟩
    · rw [if_neg q1, if_neg q1]
      exact ⟨fun _ => ⟨rfl, rfl, hu⟩, fun h => Bool.noConfusion (show true = false from h)⟩
  · rw [w, if_neg (show ¬ 8 = 4 by decide), if_neg (show ¬ 8 = 5 by decide), if_neg (show ¬ 8 = 6 by decide), if_neg (show ¬ 8 = 7 by decide), if_pos (show 8 = 8 from rfl), if_neg (show ¬ (8 = 0 ∨ 8 = 5 ∧ n = 6) by omega)]
    have e8 : rsT f L (nx f L s) n 8 = (if rlT f L (nx f L s) = -1 then (false, nx f L s, 0, 0) else (true, nx f L (nx f L s), rlT f L (nx f L s), 0)) := by
      unfold rsT; rw [if_neg (by decide), if_neg (by decide), if_neg (by decide), if_neg (by decide)]
    rw [e8]
    unfold clR
    by_cases q1 : rlT f L (nx f L s) = -1
    · rw [if_pos q1, if_pos q1]
      exact ⟨fun h => Bool.noConfusion (show false = true from h), fun _ => ⟨rfl, Or.inl rfl⟩⟩
    · rw [if_neg q1, if_neg q1]
      exact ⟨fun _ => ⟨rfl, rfl, hu⟩, fun h => Bool.noConfusion (show true = false from h)⟩
