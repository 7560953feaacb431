theorem K2.r {G : GG} {ad ad1 : Nat → Nat} {hh hh1 : HH} (h : K2 G ad hh) (h5 : hh1 118 = hh 118) (hx : ∀ i, 126 ≤ i → i < 144 → ad1 i = ad i ∧ hh1 i = hh i) : K2 G ad1 hh1 := by
  obtain ⟨⟨f, h1, h2⟩, h3⟩ := h
  refine ⟨⟨f, h5.trans h1, fun j hj => ?_⟩, fun j hj => (h3 j hj).r (fun i _ _ => hx i (by omega) (by omega))⟩
  rw [h2 j hj, (hx (126 + 9 * j) (by omega) (by omega)).1]
set_option maxRecDepth 4000 in
theorem ws_0 (hd : HARDP) {p : Program} {e : Env} {s : State} {m : MethodId} {below : List Frame} {meth : Method} {c : Code} (l : Launch) {b L : Nat} {xs : Nat → Int32} (hL : L ≤ 2560) (C0 : lw_At p s m meth c b L xs) : W p l e room_1 s m #[Value.ref b] below meth c s.heap [] 0 0 (lw_Z below #[Value.ref b] s) (entryFrame m ([Value.ref b] : List Value).toArray 4) := by
  obtain ⟨G, rfl, hG⟩ := st_G l C0.2.2.2.2.2.1 C0.2.2.2.2.2.2.2.2.2
  have K : LM G b L xs 0 [(0, .ref b)] [] (fun _ => 0) 0 (fun _ => .inr (0, [])) 0 0 := by
    refine N_new (by decide +kernel : decode code 0 = .ok (.new 7, 3)) nw_L_7 (by decide) (by decide) (fun q0 => ?_)
    refine N_dup (by decide +kernel : decode code 3 = .ok (.dup, 1)) rfl ?_
    refine N_callI (As := []) (by decide +kernel : decode code 4 = .ok (.invokespecial 9, 3)) ci_L_9 ⟨by decide, by decide⟩ (fun b0 => n_Wheel G b0 (nAt.new q0 _)) rfl rfl (Nat.le_of_ble_eq_true rfl) ⟨by decide, by decide⟩ (fun ad1 n1 hh1 hQ => ?_)
    obtain ⟨rfl, e0, hC, h3, hK⟩ := hQ
    refine N_astore_n (by decide +kernel : decode code 7 = .ok (.astore_n 1, 1)) (by decide) ?_
    refine N_new (by decide +kernel : decode code 8 = .ok (.new 10, 3)) nw_L_10 (by decide) (by decide) (fun q1 => ?_)
    refine N_dup (by decide +kernel : decode code 11 = .ok (.dup, 1)) rfl ?_
    refine N_callI (As := []) (by decide +kernel : decode code 12 = .ok (.invokespecial 12, 3)) ci_L_12 ⟨by decide, by decide⟩ (fun b0 => n_Model G b0 (nAt.new q1 _)) rfl rfl (Nat.le_of_ble_eq_true rfl) ⟨by decide, by decide⟩ (fun ad2 n2 hh2 hQ => ?_)
    obtain ⟨rfl, e1, hX, am, vm, hM, hN⟩ := hQ
    refine N_astore_n (by decide +kernel : decode code 15 = .ok (.astore_n 2, 1)) (by decide) ?_
    refine N_iconst (v := 0) (by decide +kernel : decode code 16 = .ok (.iconst 0, 1)) (by decide) ?_
    refine N_istore_n (by decide +kernel : decode code 17 = .ok (.istore_n 3, 1)) (by decide) ?_
    have hX2 := (Xt.push 144 ad1 hh1 q1 (.inr (5, [.null, .int 0, .int 0, .null, .null, .int 0, .null, .null, .int 0, .null, .null, .int 0, .int 0, .int 0, .int 0, .int 0, .null, .null, .null, .int 0]))).tr hX (Nat.le_refl _)
    have e0 : ad2 0 = q0 := (hX2 0 (by decide)).1.trans e0
    have hC := hC.y (ad1 := ad2) (hh1 := hh2) (fun i hi => ⟨(hX2 i (by omega)).1, fun _ _ => (hX2 i (by omega)).2⟩)
    have h3 := h3.r (ad1 := ad2) (hh1 := hh2) (hX2 5 (by decide)).2 (fun i _ h => hX2 i (by omega))
    have hK := hK.r (ad1 := ad2) (hh1 := hh2) (hX2 118 (by decide)).2 (fun i _ h => hX2 i (by omega))
    subst e0
    subst e1
    refine N_pick [3, 2, 1, 0] rfl ?_
    exact N_done hC h3 hK hM hN (fun hI => law_loop hd ⟨by decide, by decide⟩ hL L 0 _ (by omega) (Nat.zero_le _) hI)
  rw [lg_entry_eq]
  exact K p e s m below meth c C0 hG s.heap [] _ (fun k q h => by simp [wdN] at h) ⟨fun i j x y h => by simp [wdN] at h, fun k q h => by simp [wdN] at h⟩ va_S.rf (lv_entry [Value.ref b] (Nat.le_of_ble_eq_true rfl))
