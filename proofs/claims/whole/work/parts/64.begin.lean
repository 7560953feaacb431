/-- the number of the class's cell i in the order in which the cells are made -/
def pm (i : Nat) : Nat := if i < 6 then i else if i < 12 then i + 114 else if i < 124 then i - 6 else if i = 124 then 118 else if i < 143 then i + 1 else if i = 143 then 119 else i
theorem pm_lt {i : Nat} (h : i < 155) : pm i < 155 := by
  unfold pm; repeat' split
  all_goals omega
theorem pm_inj {i j : Nat} (h : i < 155) (h' : j < 155) (e : pm i = pm j) : i = j := by
  unfold pm at e
  repeat' split at e
  all_goals omega
def G1 (G : GG) (ad : Nat → Nat) : GG := gy G (fun i => ad (pm i)) 155
def hW (G : GG) (ad : Nat → Nat) (hh : HH) : HH := fun i => if i = 5 then eL G 3 (fun j => some (ad (pm (6 + 2 * j)))) else if i = 51 then eS G 8 (fun j => some (ad (pm (52 + 9 * j)))) else if i = 124 then eS G 2 (fun j => some (ad (pm (125 + 9 * j)))) else hh (pm i)
theorem hW_n {G : GG} {ad : Nat → Nat} {hh : HH} {i : Nat} (h : i ≠ 5 ∧ i ≠ 51 ∧ i ≠ 124) : hW G ad hh i = hh (pm i) := by
  unfold hW; rw [if_neg h.1, if_neg h.2.1, if_neg h.2.2]
theorem D1 {A : Nat → Prop} {G : GG} {ad : Nat → Nat} {hh hh' : HH} (h : va_D A (wdN ad 155 hh)) : va_D A (wdN (fun i => ad (pm i)) 155 hh') := by
  have key : ∀ (i : Nat) (x : Nat × va_E), (wdN (fun i => ad (pm i)) 155 hh')[i]? = some x → i < 155 ∧ x.1 = ad (pm i) := fun i x hx => by
    have hi : i < 155 := by
      have := (List.getElem?_eq_some_iff.mp hx).1
      simpa [wdN] using this
    rw [wdN_get hi] at hx
    cases hx
    exact ⟨hi, rfl⟩
  refine ⟨fun i j x y hx hy hxy => ?_, fun k q hq => ?_⟩
  · obtain ⟨hi, ei⟩ := key i x hx
    obtain ⟨hj, ej⟩ := key j y hy
    exact pm_inj hi hj (h.1 (pm i) (pm j) _ _ (wdN_get (pm_lt hi)) (wdN_get (pm_lt hj)) (by rw [← ei, ← ej]; exact hxy))
  · obtain ⟨hi, ei⟩ := key k q hq
    rw [ei]
    exact h.2 (pm k) _ (wdN_get (pm_lt hi))
theorem va_atq {D : va_G} {cl : List vw_C} {a N : Nat} {cA : ClassId} {f g : Nat → Option Nat} {H : Heap} (h : va_at D cl (a, .inl (cA, N, .inr (.inr (.inr (.inr f))))) H) (hfg : ∀ j, j < N → f j = g j) : va_at D cl (a, .inl (cA, N, .inr (.inr (.inr (.inr g))))) H := by
  have h : H[a]? = some (arrV cA N (fun j => va_rf (f j))) := h
  show H[a]? = some (arrV cA N (fun j => va_rf (g j)))
  rw [h, arrV_cg (fun j hj => by rw [hfg j hj])]
theorem P1 {G : GG} {ad : Nat → Nat} {hh : HH} {H : Heap} (hP : va_P (gD G) clsX (wdN ad 155 hh) H) (h3 : S3 G ad hh) (hH : HN G ad hh 44) (hK : K2 G ad hh) : va_P (gD G) clsX (wdN (fun i => ad (pm i)) 155 (hW G ad hh)) H := by
  intro k q hq
  have hk : k < 155 := by
    have := (List.getElem?_eq_some_iff.mp hq).1
    simpa [wdN] using this
  rw [wdN_get hk] at hq
  cases hq
  by_cases e5 : k = 5
  · subst e5
    obtain ⟨f, hf, hg⟩ := h3.1
    have h := hP 5 _ (wdN_get (by decide))
    rw [hf] at h
    exact va_atq h (fun j hj => by
      rcases (show j = 0 ∨ j = 1 ∨ j = 2 by omega) with rfl | rfl | rfl <;> exact hg _ (by decide))
  · by_cases e51 : k = 51
    · subst e51
      obtain ⟨f, hf, hg⟩ := hH.2.1
      have h := hP 45 _ (wdN_get (by decide))
      rw [hf] at h
      exact va_atq h (fun j hj => by
        rcases (show j = 0 ∨ j = 1 ∨ j = 2 ∨ j = 3 ∨ j = 4 ∨ j = 5 ∨ j = 6 ∨ j = 7 by omega) with rfl | rfl | rfl | rfl | rfl | rfl | rfl | rfl <;> exact hg _ (by decide))
    · by_cases e124 : k = 124
      · subst e124
        obtain ⟨f, hf, hg⟩ := hK.1
        have h := hP 118 _ (wdN_get (by decide))
        rw [hf] at h
        exact va_atq h (fun j hj => by
          rcases (show j = 0 ∨ j = 1 by omega) with rfl | rfl <;> exact hg _ (by decide))
      · rw [hW_n ⟨e5, e51, e124⟩]
        exact hP (pm k) _ (wdN_get (pm_lt hk))
theorem toLe {G : GG} {ad : Nat → Nat} {hh : HH} {k k' N : Nat} (h : LN G ad hh k N) (e : pm k' = k ∧ pm (k' + 1) = k + 1) (e2 : ∀ i, i < 2 → k' + i ≠ 5 ∧ k' + i ≠ 51 ∧ k' + i ≠ 124) (e3 : k' + 2 ≤ 155) : LeAt (G1 G ad) (hW G ad hh) k' N (fun _ => 0) (nI 0) := by
  refine ⟨⟨show k' < 155 by omega, ?_⟩, ⟨show k' + 1 < 155 by omega, ?_⟩⟩
  · rw [hW_n (i := k') (e2 0 (by decide)), e.1, h.1]
    show _ = (Sum.inr (1, ([.ref (ad (pm (k' + 1))), .int (nI 0)] : List Value)) : va_E)
    rw [e.2]; rfl
  · rw [hW_n (e2 1 (by decide)), e.2]; exact h.2
def vS : VV := fun i => if i = 11 ∨ i = 12 then 1 else 0
theorem toSt {G : GG} {ad : Nat → Nat} {hh : HH} {k k' : Nat} (h : SN G ad hh k) (e : ∀ i, i < 9 → pm (k' + i) = k + i) (e2 : ∀ i, i < 9 → k' + i ≠ 5 ∧ k' + i ≠ 51 ∧ k' + i ≠ 124) (e3 : k' + 9 ≤ 155) : StAt (G1 G ad) (hW G ad hh) k' (fun _ _ => 0) vS := by
  obtain ⟨h0, h1, h2, h3, h4, h5, h6, h7, h8⟩ := h
  have r : ∀ i, i < 9 → hW G ad hh (k' + i) = hh (k + i) := fun i hi => by rw [hW_n (e2 i hi), e i hi]
  refine ⟨⟨show k' < 155 by omega, ?_⟩, ⟨show k' + 1 < 155 by omega, (r 1 (by decide)).trans h1⟩, ⟨show k' + 2 < 155 by omega, (r 2 (by decide)).trans h2⟩, ⟨show k' + 3 < 155 by omega, (r 3 (by decide)).trans h3⟩, ⟨show k' + 4 < 155 by omega, (r 4 (by decide)).trans h4⟩, ⟨show k' + 5 < 155 by omega, (r 5 (by decide)).trans h5⟩, ⟨show k' + 6 < 155 by omega, (r 6 (by decide)).trans h6⟩, ⟨show k' + 7 < 155 by omega, (r 7 (by decide)).trans h7⟩, ⟨show k' + 8 < 155 by omega, (r 8 (by decide)).trans h8⟩⟩
  rw [show hW G ad hh k' = hh k from r 0 (by decide), h0]
  show _ = (Sum.inr (2, ([.ref (ad (pm (k' + 1))), .ref (ad (pm (k' + 2))), .ref (ad (pm (k' + 3))), .ref (ad (pm (k' + 4))), .ref (ad (pm (k' + 5))), .ref (ad (pm (k' + 6))), .ref (ad (pm (k' + 7))), .ref (ad (pm (k' + 8))), .int 0, .int 0, .int 0, .int 1, .int 1, .int 0, .int 0] : List Value)) : va_E)
  rw [e 1 (by decide), e 2 (by decide), e 3 (by decide), e 4 (by decide), e 5 (by decide), e 6 (by decide), e 7 (by decide), e 8 (by decide)]
theorem toMd {G : GG} {ad : Nat → Nat} {hh : HH} {am : AA} {vm : VV} (h : MdAt (gy G ad 155) hh 144 am vm) : MdAt (G1 G ad) (hW G ad hh) 144 am vm := by
  obtain ⟨h0, h1, h2, h3, h4, h5, h6, h7, h8, h9, h10⟩ := h
  exact ⟨⟨h0.1, h0.2⟩, ⟨h1.1, h1.2⟩, ⟨h2.1, h2.2⟩, ⟨h3.1, h3.2⟩, ⟨h4.1, h4.2⟩, ⟨h5.1, h5.2⟩, ⟨h6.1, h6.2⟩, ⟨h7.1, h7.2⟩, ⟨h8.1, h8.2⟩, ⟨h9.1, h9.2⟩, ⟨h10.1, h10.2⟩⟩
theorem rw0_0 {j : Nat} (h : j ≠ 0 ∧ j ≠ 1 ∧ j ≠ 847 ∧ j ≠ 848) : rw0 j = 0 := by unfold rw0; rw [if_neg (by omega)]
theorem pm_st : (∀ i, i < 9 → pm (14 + i) = 8 + i ∧ pm (23 + i) = 17 + i ∧ pm (32 + i) = 26 + i ∧ pm (41 + i) = 35 + i) ∧ (∀ j, j < 8 → ∀ i, i < 9 → pm (50 + 2 + 9 * j + i) = 44 + 2 + 9 * j + i) ∧ (∀ j, j < 2 → ∀ i, i < 9 → pm (125 + 9 * j + i) = 126 + 9 * j + i) ∧ ∀ j, j < 3 → pm (6 + 2 * j) = 120 + 2 * j ∧ pm (6 + 2 * j + 1) = 120 + 2 * j + 1 := by decide
/-- the relation stands when both are made -/
theorem Inv_0 {G : GG} {ad : Nat → Nat} {hh : HH} {am : AA} {vm : VV} (hC : CN G ad hh) (h3 : S3 G ad hh) (hK : K2 G ad hh) (hM : MdAt (gy G ad 155) hh 144 am vm) (hN : MN am vm) : Inv (G1 G ad) (hW G ad hh) := by
  obtain ⟨c0, c1, c3, c6, c7, c8, c17, c26, c35, c44, c119⟩ := hC
  obtain ⟨m0, m3, m4, m6, m7, m9, m17, mv⟩ := hN
  obtain ⟨p1, p2, p3, p4⟩ := pm_st
  refine ⟨fun _ => 0, 0, fun _ _ => 0, fun _ => 0, fun _ => false, fun _ _ => 0, vS, fun _ _ => 0, vS, 0, 0, fun _ _ _ => 0, fun _ => vS, fun _ _ _ => 0, fun _ => vS, fun _ => false, am, vm, 0, 0, ?_⟩
  refine ⟨⟨Nat.le_of_ble_eq_true rfl, c0⟩, toLe c1 (by decide) (by decide) (by decide), by decide, ⟨fun _ => 0, 0, toLe c3 (by decide) (by decide) (by decide), by decide⟩, ⟨Nat.le_of_ble_eq_true rfl, rfl⟩, fun i hi => toLe (h3.2 i hi) (p4 i hi) (fun j hj => by omega) (by omega), fun _ _ => Nat.zero_le _, ⟨Nat.le_of_ble_eq_true rfl, c6⟩, ⟨0, 0, 0, 0, Nat.le_of_ble_eq_true rfl, c7⟩, toSt c8 (fun i hi => (p1 i hi).1) (fun j hj => by omega) (by decide), ⟨_, _, toSt c17 (fun i hi => (p1 i hi).2.1) (fun j hj => by omega) (by decide)⟩, toSt c26 (fun i hi => (p1 i hi).2.2.1) (fun j hj => by omega) (by decide), ⟨_, _, toSt c35 (fun i hi => (p1 i hi).2.2.2) (fun j hj => by omega) (by decide)⟩, ⟨Nat.le_of_ble_eq_true rfl, c44.1⟩, by decide, by decide, ⟨Nat.le_of_ble_eq_true rfl, rfl⟩, fun j hj => toSt (c44.2.2 j hj) (fun i hi => p2 j hj i hi) (fun i hi => by omega) (by omega), ⟨Nat.le_of_ble_eq_true rfl, rfl⟩, fun j hj => toSt (hK.2 j hj) (fun i hi => p3 j hj i hi) (fun i hi => by omega) (by omega), ⟨Nat.le_of_ble_eq_true rfl, c119⟩, toMd hM, ⟨mv 8, m7⟩, ⟨fun t ht => m9 t ht, fun t ht hb => absurd hb Bool.false_ne_true⟩, m17, ⟨⟨fun _ _ _ hj => absurd hj (Nat.not_lt_zero _), fun _ _ _ _ hj => absurd hj (Nat.not_lt_zero _), ?_⟩, ⟨by decide, by left; rfl, by decide, fun _ hj => absurd hj (Nat.not_lt_zero _), fun h => absurd h (by decide)⟩, rfl, rfl, by decide, fun _ hj => absurd hj (Nat.not_lt_zero _)⟩, ?_, ⟨mv 5, fun _ hj => absurd hj (Nat.not_lt_zero _)⟩, fun i hi => ⟨by rw [m6]; rfl, fun h => absurd h Bool.false_ne_true⟩⟩
  · intro i g1 g2
    rcases (show i = 8 ∨ i = 9 ∨ i = 10 ∨ i = 11 ∨ i = 12 ∨ i = 13 ∨ i = 14 by omega) with rfl | rfl | rfl | rfl | rfl | rfl | rfl
    · exact (mv 1).symm
    · show _ = am 0 (0 + 4); rw [m0]; rfl
    · exact (mv 2).symm
    · show _ = am 0 0; rw [m0]; rfl
    · show _ = am 0 (0 + 1); rw [m0]; rfl
    · show _ = am 0 (0 + 2); rw [m0]; rfl
    · show _ = am 0 (0 + 3); rw [m0]; rfl
  · unfold tlR Tl
    rw [m0, mv 1, mv 2]
    exact ⟨by decide, rfl, rfl, fun _ hj => absurd hj (Nat.not_lt_zero _), fun j _ hj => rw0_0 (by omega), fun j hj => rw0_0 (by omega), rfl, rfl, by left; rfl, ⟨rfl, rfl, rfl, rfl⟩, ⟨rfl, rfl, rfl, rfl⟩⟩
/-! the law up to its loop -/
def LM (G : GG) (b L : Nat) (xs : Nat → Int32) (pc : Nat) (lv : List (Nat × Value)) (st : List Value) (ad : Nat → Nat) (n : Nat) (hh : HH) (ck sk : Nat) : Prop :=
  ∀ (p : Program) (e : Env) (s : State) (m : MethodId) (below : List Frame) (meth : Method) (c : Code), lw_At p s m meth c b L xs → GFm G s.heap.size s → ∀ (H : Heap) (locs : List Loc) (ls : Array Slot), va_P (gD G) clsX (wdN ad n hh) H → va_D (abA s.heap.size) (wdN ad n hh) → va_S (abA s.heap.size) s.heap H locs → lv_has ls 4 lv →
    W p (gl G) e room_1 s m #[Value.ref b] below meth c H locs ck sk (lw_Z below #[Value.ref b] s) (F0 m pc ls st)
section LawMake
variable {G : GG} {b L : Nat} {xs : Nat → Int32} {pc : Nat} {lv : List (Nat × Value)} {st : List Value} {ad : Nat → Nat} {n : Nat} {hh : HH} {ck sk : Nat}
theorem N_new {idx ci N : Nat} {fs : List Value} (hd : decode code pc = .ok (.new idx, 3)) (hw : nwOK RL idx ci N fs) (hck : ck + 1 ≤ 600000) (hsk : sk + N ≤ 7302250) (k1 : ∀ q, LM G b L xs (pc + 3) lv (.ref q :: st) (va_up ad n q) (n + 1) (va_up hh n (.inr (ci, fs))) (ck + 1) (sk + N)) : LM G b L xs pc lv st ad n hh ck sk := fun p e s m below meth c C hG H locs ls hP hD hS hl => by
  obtain ⟨⟨Cn, T, N0⟩, hc, hN, hin, w1, w2, w3, ty, hty, hfs⟩ := hw
  obtain ⟨hx, hb, hr, hml, hown, hts, hX, hbl, hlocks, hgv⟩ := id C
  have hN : N0 = N := hN
  subst hN
  have t : ∀ w ∈ XW, w.before #[Value.ref b] s = true := fun w h => hts w (List.mem_filter.mp h).1
  refine va_new (Ts := lw_tbl) (ci := ci) (fs := fs) (C := Cn) (T := T) (N := N0) hx hb hts (fun w h => (List.mem_filter.mp (hin w h)).1) ty hty hown (t _ w1) (t _ w2) (t _ w3) hG.1 hP hD hS (fun q h => h) hc hfs hck hsk hd (fun q H1 hP1 hD1 hS1 => ?_)
  rw [wdN_push] at hP1 hD1
  exact k1 q p e s m below meth c C hG H1 locs ls hP1 hD1 hS1 hl
theorem N_dup {v : Value} (hd : decode code pc = .ok (.dup, 1)) (hc : v.category = 1) (k : LM G b L xs (pc + 1) lv (v :: v :: st) ad n hh ck sk) : LM G b L xs pc lv (v :: st) ad n hh ck sk := fun p e s m below meth c C hG H locs ls hP hD hS hl => lv_dup C.1 C.2.1 hd hc (k p e s m below meth c C hG H locs ls hP hD hS hl)
theorem N_astore_n {i : Fin 4} {x : Nat} (hd : decode code pc = .ok (.astore_n i, 1)) (hi : (i : Nat) < 4) (k : LM G b L xs (pc + 1) (lvPut lv (i : Nat) (.ref x)) st ad n hh ck sk) : LM G b L xs pc lv (.ref x :: st) ad n hh ck sk := fun p e s m below meth c C hG H locs ls hP hD hS hl => lv_astore_n C.1 C.2.1 hd rfl hl hi rfl (fun ls' hl' => k p e s m below meth c C hG H locs ls' hP hD hS hl')
theorem N_iconst {z : Int} {v : Int32} (hd : decode code pc = .ok (.iconst z, 1)) (hv : Int32.ofInt z = v) (k : LM G b L xs (pc + 1) lv (.int v :: st) ad n hh ck sk) : LM G b L xs pc lv st ad n hh ck sk := fun p e s m below meth c C hG H locs ls hP hD hS hl => lv_iconst C.1 C.2.1 hd hv (k p e s m below meth c C hG H locs ls hP hD hS hl)
theorem N_istore_n {i : Fin 4} {x : Int32} (hd : decode code pc = .ok (.istore_n i, 1)) (hi : (i : Nat) < 4) (k : LM G b L xs (pc + 1) (lvPut lv (i : Nat) (.int x)) st ad n hh ck sk) : LM G b L xs pc lv (.int x :: st) ad n hh ck sk := fun p e s m below meth c C hG H locs ls hP hD hS hl => lv_istore_n C.1 C.2.1 hd rfl hl hi rfl (fun ls' hl' => k p e s m below meth c C hG H locs ls' hP hD hS hl')
theorem N_pick {lv' : List (Nat × Value)} (ks : List Nat) (h : lv_pick lv ks = lv') (k : LM G b L xs pc lv' st ad n hh ck sk) : LM G b L xs pc lv st ad n hh ck sk := fun p e s m below meth c C hG H locs ls hP hD hS hl => k p e s m below meth c C hG H locs ls hP hD hS (lv_sub hl ks h)
theorem N_callI {μ' : MI} {idx na a rc' rs' : Nat} {As rest st0 : List Value} {Q1 : QN} (hd : decode code pc = .ok (.invokespecial idx, 3)) (hw : ciOK RL μ' idx na) (hrm : (rmM μ'.2.2.2.2 rc' rs').frames + 1 ≤ room_1.frames ∧ 8 + (μ'.2.2.1 + 11) + (rmM μ'.2.2.2.2 rc' rs').locals ≤ room_1.locals) (hE : ∀ b0, EN G b0 μ' (.ref a :: As) ad n hh rc' rs' Q1) (hn : As.length = na) (hst : st0 = As.reverse ++ .ref a :: rest) (hcat : (rest.map fun v => v.category).sum ≤ 8) (hck : ck + rc' ≤ 600000 ∧ sk + rs' ≤ 7302250) (k1 : ∀ ad1 n1 hh1, Q1 ad1 n1 hh1 → LM G b L xs (pc + 3) lv rest ad1 n1 hh1 (ck + rc') (sk + rs')) : LM G b L xs pc lv st0 ad n hh ck sk := fun p e s m below meth c C hG H locs ls hP hD hS hl => by
  subst hst
  obtain ⟨hx, hb, hr, hml, hown, hts, hX, hbl, hlocks, hgv⟩ := id C
  obtain ⟨w1, w2, w3, w4, w5, w6, w7⟩ := hw
  have t : ∀ w ∈ XW, w.before #[Value.ref b] s = true := fun w h => hts w (List.mem_filter.mp h).1
  have hg : ∀ w ∈ XW, w ∈ lw_tbl ∧ ((w.onTables && w.keeps) = true ∨ ∃ ty, w = .arrayClass ty) := fun w hw => ⟨(List.mem_filter.mp hw).1, good_of_word (List.mem_filter.mp hw).2⟩
  have hT : GoodIn lw_tbl (mcd μ' :: XW) := fun w h => by
    rcases List.mem_cons.mp h with rfl | h
    · exact hg _ w4
    · exact hg _ h
  refine nq_call (va_runI (bytes := μ'.2.1) (maxL := μ'.2.2.1) (As := As) (rest := rest) (own := RL) ⟨hx, hb, hml, hown, hts⟩ (hE s.heap.size) (cwI na hts hT (by show mcd μ' :: XW = _; unfold mcd; rw [w7]) rfl rfl (t _ w3) (t _ w1) (t _ w2) w5 w6 hrm) ⟨PM.blind, (fun U hU hW => ⟨rfl, by rw [hU]; exact hP, hD, hG.warm hU hW hS⟩)⟩ rfl hn hl.1 rfl (lv_room hcat) hd hck) hS (fun ad1 n1 hh1 H1 locs1 hq hP1 hD1 hS1 => k1 ad1 n1 hh1 hq p e s m below meth c C hG H1 locs1 ls hP1 hD1 hS1 hl)
/-- the world is renumbered, the relation stands -/
theorem N_done {am : AA} {vm : VV} (hC : CN G ad hh) (h3 : S3 G ad hh) (hK : K2 G ad hh) (hM : MdAt (gy G ad 155) hh 144 am vm) (hN : MN am vm) (k : Inv (G1 G ad) (hW G ad hh) → LR (G1 G ad) b L xs ck sk pc lv st (hW G ad hh)) : LM G b L xs pc lv st ad 155 hh ck sk := fun p e s m below meth c C hG H locs ls hP hD hS hl => by
  have hD' := D1 (G := G) (hh' := hW G ad hh) hD
  have hA : ∀ i, i < gn (G1 G ad) → s.heap.size ≤ ad (pm i) := fun i hi => hD'.2 i _ (wdN_get hi)
  refine va_forget (fun q hq => hS.2.2 q hq) ?_
  refine k (Inv_0 hC h3 hK hM hN) p e s m below meth c C (hG.GF hD') hA H [] ls (P1 hP h3 hC.2.2.2.2.2.2.2.2.2.1 hK) ⟨hS.1, fun q h1 h2 => hS.2.1 q h1 (fun h => absurd h (by unfold abA; omega)), fun q hq => absurd hq (by simp)⟩ hl
end LawMake
