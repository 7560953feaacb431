/-! BITS AND LANES: the list of a state's bits, the number that a list of bits is, the turn of the chain bit by bit -/
def hz_pr (l : Nat) (X : List Nat) : List Bool := X.map (fun x => x.testBit l)
def hz_bl (c : Int32) : List Bool := [c.toBitVec.getLsbD 0, c.toBitVec.getLsbD 1, c.toBitVec.getLsbD 2, c.toBitVec.getLsbD 3, c.toBitVec.getLsbD 4, c.toBitVec.getLsbD 5, c.toBitVec.getLsbD 6, c.toBitVec.getLsbD 7, c.toBitVec.getLsbD 8, c.toBitVec.getLsbD 9, c.toBitVec.getLsbD 10, c.toBitVec.getLsbD 11, c.toBitVec.getLsbD 12, c.toBitVec.getLsbD 13, c.toBitVec.getLsbD 14, c.toBitVec.getLsbD 15, c.toBitVec.getLsbD 16, c.toBitVec.getLsbD 17, c.toBitVec.getLsbD 18, c.toBitVec.getLsbD 19, c.toBitVec.getLsbD 20, c.toBitVec.getLsbD 21, c.toBitVec.getLsbD 22, c.toBitVec.getLsbD 23, c.toBitVec.getLsbD 24, c.toBitVec.getLsbD 25, c.toBitVec.getLsbD 26, c.toBitVec.getLsbD 27, c.toBitVec.getLsbD 28, c.toBitVec.getLsbD 29, c.toBitVec.getLsbD 30, c.toBitVec.getLsbD 31]
def hz_vB : List Bool → Nat
  | [] => 0
  | b :: t => b.toNat + 2 * hz_vB t
def hz_bs : Nat → Nat → List Bool
  | 0, _ => []
  | k + 1, x => x.testBit 0 :: hz_bs k (x / 2)
theorem hz_vbs : ∀ k x, hz_vB (hz_bs k x) = x % 2 ^ k
  | 0, x => by rw [Nat.pow_zero, Nat.mod_one]; rfl
  | k + 1, x => by
    rw [hz_bs, hz_vB, hz_vbs k (x / 2), Nat.testBit_zero, Nat.pow_succ, Nat.mul_comm (2 ^ k) 2, Nat.mod_mul]
    rcases Nat.mod_two_eq_zero_or_one x with h | h <;> simp [h]
theorem hz_bl_bs (c : Int32) : hz_bl c = hz_bs 32 c.toBitVec.toNat := by
  simp only [hz_bl, hz_bs, Nat.testBit_div_two, BitVec.getLsbD]
theorem hz_vbl (c : Int32) : hz_vB (hz_bl c) = c.toBitVec.toNat := by
  rw [hz_bl_bs, hz_vbs]
  exact Nat.mod_eq_of_lt c.toBitVec.isLt
theorem hz_bl_inj {c d : Int32} (h : hz_bl c = hz_bl d) : c = d := by
  apply Int32.toBitVec_inj.mp
  apply BitVec.eq_of_toNat_eq
  rw [← hz_vbl, ← hz_vbl, h]
theorem hz_bx (a b : Int32) (j : Nat) : (a ^^^ b).toBitVec.getLsbD j = (a.toBitVec.getLsbD j ^^ b.toBitVec.getLsbD j) := by
  rw [Int32.toBitVec_xor, BitVec.getLsbD_xor]
theorem hz_b13 (a : Int32) (j : Nat) : (a <<< ((13 : Int32) &&& 31)).toBitVec.getLsbD j = (decide (j < 32) && !decide (j < 13) && a.toBitVec.getLsbD (j - 13)) := by
  rw [Int32.toBitVec_shiftLeft, show ((13 : Int32) &&& 31).toBitVec.smod 32 = 13#32 from by decide]
  show (a.toBitVec <<< (13 : Nat)).getLsbD j = _
  rw [BitVec.getLsbD_shiftLeft]
theorem hz_b5 (a : Int32) (j : Nat) : (a <<< ((5 : Int32) &&& 31)).toBitVec.getLsbD j = (decide (j < 32) && !decide (j < 5) && a.toBitVec.getLsbD (j - 5)) := by
  rw [Int32.toBitVec_shiftLeft, show ((5 : Int32) &&& 31).toBitVec.smod 32 = 5#32 from by decide]
  show (a.toBitVec <<< (5 : Nat)).getLsbD j = _
  rw [BitVec.getLsbD_shiftLeft]
theorem hz_b17 (a : Int32) (j : Nat) : (a.toUInt32 >>> ((17 : Int32).toUInt32 &&& Int32.toUInt32 31)).toInt32.toBitVec.getLsbD j = (decide (j < 15) && a.toBitVec.getLsbD (17 + j)) := by
  rw [UInt32.toBitVec_toInt32, UInt32.toBitVec_shiftRight, show ((17 : Int32).toUInt32 &&& Int32.toUInt32 31).toBitVec % 32 = 17#32 from by decide, Int32.toBitVec_toUInt32]
  show (a.toBitVec >>> (17 : Nat)).getLsbD j = _
  rw [BitVec.getLsbD_ushiftRight]
  by_cases h : j < 15
  · simp [h]
  · rw [BitVec.getLsbD_of_ge _ _ (by omega)]; simp [h]
def hz_zxB : List Bool → List Bool → List Bool
  | [], _ => []
  | x :: t, [] => x :: t
  | x :: t, y :: u => (x ^^ y) :: hz_zxB t u
def hz_sxB : Nat → List Bool → List Bool → List Bool
  | 0, xs, ys => hz_zxB xs ys
  | _ + 1, [], _ => []
  | k + 1, x :: t, ys => x :: hz_sxB k t ys
def hz_st3B (B : List Bool) : List Bool := hz_sxB 5 B B
def hz_st2B (A : List Bool) : List Bool := hz_st3B (hz_zxB A (A.drop 17))
def hz_stB (X : List Bool) : List Bool := hz_st2B (hz_sxB 13 X X)
theorem hz_S13 (c : Int32) : hz_bl (c ^^^ (c <<< ((13 : Int32) &&& 31))) = hz_sxB 13 (hz_bl c) (hz_bl c) := by
  simp [hz_bl, hz_bx, hz_b13, hz_sxB, hz_zxB]
theorem hz_S5 (c : Int32) : hz_bl (c ^^^ (c <<< ((5 : Int32) &&& 31))) = hz_sxB 5 (hz_bl c) (hz_bl c) := by
  simp [hz_bl, hz_bx, hz_b5, hz_sxB, hz_zxB]
theorem hz_S17 (c : Int32) : hz_bl (c ^^^ (c.toUInt32 >>> ((17 : Int32).toUInt32 &&& Int32.toUInt32 31)).toInt32) = hz_zxB (hz_bl c) ((hz_bl c).drop 17) := by
  simp [hz_bl, hz_bx, hz_b17, hz_zxB]
theorem hz_bl_tw (c : Int32) : hz_bl (tw c) = hz_stB (hz_bl c) := by
  unfold tw
  dsimp only
  rw [hz_S5, hz_S17, hz_S13]
  rfl
theorem hz_m_zx {f : Nat → Bool} (hf : ∀ a b, f (Nat.xor a b) = (f a ^^ f b)) : ∀ xs ys, (hz_zx xs ys).map f = hz_zxB (xs.map f) (ys.map f)
  | [], _ => rfl
  | x :: t, [] => rfl
  | x :: t, y :: u => by
    show f (Nat.xor x y) :: (hz_zx t u).map f = (f x ^^ f y) :: hz_zxB (t.map f) (u.map f)
    rw [hf, hz_m_zx hf t u]
theorem hz_m_dr (f : Nat → Bool) : ∀ k xs, (hz_dr k xs).map f = (xs.map f).drop k
  | 0, xs => rfl
  | k + 1, [] => rfl
  | k + 1, x :: t => hz_m_dr f k t
theorem hz_m_sx {f : Nat → Bool} (hf : ∀ a b, f (Nat.xor a b) = (f a ^^ f b)) : ∀ k xs ys, (hz_sx k xs ys).map f = hz_sxB k (xs.map f) (ys.map f)
  | 0, xs, ys => hz_m_zx hf xs ys
  | k + 1, [], ys => rfl
  | k + 1, x :: t, ys => by
    show f x :: (hz_sx k t ys).map f = f x :: hz_sxB k (t.map f) (ys.map f)
    rw [hz_m_sx hf k t ys]
theorem hz_m_st {f : Nat → Bool} (hf : ∀ a b, f (Nat.xor a b) = (f a ^^ f b)) (X : List Nat) : (hz_st X).map f = hz_stB (X.map f) := by
  unfold hz_st hz_st2 hz_st3 hz_stB hz_st2B hz_st3B
  rw [hz_m_sx hf, hz_m_zx hf, hz_m_dr, hz_m_sx hf]
theorem hz_tx (a b l : Nat) : (Nat.xor a b).testBit l = (a.testBit l ^^ b.testBit l) := Nat.testBit_xor a b l
theorem hz_ta (a b l : Nat) : (Nat.land a b).testBit l = (a.testBit l && b.testBit l) := Nat.testBit_and a b l
theorem hz_to (a b l : Nat) : (Nat.lor a b).testBit l = (a.testBit l || b.testBit l) := Nat.testBit_or a b l
theorem hz_pr_st {l : Nat} {X : List Nat} {c : Int32} (h : hz_pr l X = hz_bl c) : hz_pr l (hz_st X) = hz_bl (tw c) := by
  rw [hz_bl_tw, ← h]
  exact hz_m_st (fun a b => hz_tx a b l) X
def hz_ip : (Nat → Bool) → List Bool → Bool
  | _, [] => false
  | f, b :: t => ((f 0 && b) ^^ hz_ip (fun i => f (i + 1)) t)
theorem hz_ip_x : ∀ (l : List Bool) (f g : Nat → Bool), hz_ip (fun i => f i ^^ g i) l = (hz_ip f l ^^ hz_ip g l)
  | [], _, _ => rfl
  | b :: t, f, g => by
    have e := hz_ip_x t (fun i => f (i + 1)) (fun i => g (i + 1))
    simp only [hz_ip]
    rw [e]
    generalize hz_ip (fun i => f (i + 1)) t = p
    generalize hz_ip (fun i => g (i + 1)) t = q
    cases f 0 <;> cases g 0 <;> cases b <;> cases p <;> cases q <;> rfl
theorem hz_ip_f : ∀ l : List Bool, hz_ip (fun _ => false) l = false
  | [] => rfl
  | b :: t => by
    simp only [hz_ip]
    rw [hz_ip_f t]; rfl
theorem hz_xs_c (x : Nat) (t : List Nat) (m : Nat) : hz_xs (x :: t) m = (bif m.testBit 0 then Nat.xor x (hz_xs t (m / 2)) else hz_xs t (m / 2)) := by
  have e : Nat.beq (Nat.mod m 2) 1 = m.testBit 0 := by
    rw [Nat.testBit_zero]
    show Nat.beq (m % 2) 1 = _
    rcases Nat.mod_two_eq_zero_or_one m with h | h <;> rw [h] <;> rfl
  show Bool.rec (motive := fun _ => Nat) (hz_xs t (Nat.div m 2)) (Nat.xor x (hz_xs t (Nat.div m 2))) (Nat.beq (Nat.mod m 2) 1) = _
  rw [e]
  cases m.testBit 0 <;> rfl
theorem hz_sh (m : Nat) : (fun i => m.testBit (i + 1)) = (m / 2).testBit := funext fun i => (Nat.testBit_div_two m i).symm
theorem hz_t0 : Nat.testBit 0 = fun _ => false := funext fun i => Nat.zero_testBit i
theorem hz_xs_l (l : Nat) : ∀ X m, (hz_xs X m).testBit l = hz_ip m.testBit (hz_pr l X)
  | [], m => by show Nat.testBit 0 l = false; rw [hz_t0]
  | x :: t, m => by
    rw [hz_xs_c]
    show _ = ((m.testBit 0 && x.testBit l) ^^ hz_ip (fun i => m.testBit (i + 1)) (hz_pr l t))
    rw [hz_sh, ← hz_xs_l l t (m / 2)]
    cases m.testBit 0
    · simp
    · show (Nat.xor x _).testBit l = _
      rw [hz_tx]; simp
theorem hz_pr_ap (l : Nat) (X : List Nat) : ∀ M, hz_pr l (hz_ap M X) = M.map (fun m => hz_ip m.testBit (hz_pr l X))
  | [] => rfl
  | m :: t => by
    show (hz_xs X m).testBit l :: hz_pr l (hz_ap t X) = hz_ip m.testBit (hz_pr l X) :: t.map _
    rw [hz_xs_l, hz_pr_ap l X t]
def hz_rep (M : List Nat) (e : Nat) : Prop := ∀ c, hz_bl (itT e c) = M.map (fun m => hz_ip m.testBit (hz_bl c))
theorem hz_rep_ap {M : List Nat} {e l : Nat} {X : List Nat} {c : Int32} (h : hz_rep M e) (hx : hz_pr l X = hz_bl c) : hz_pr l (hz_ap M X) = hz_bl (itT e c) := by
  rw [hz_pr_ap, hx, h c]
theorem hz_ip_xs (l : List Bool) : ∀ N m, hz_ip (hz_xs N m).testBit l = hz_ip m.testBit (N.map (fun r => hz_ip r.testBit l))
  | [], m => by
    show hz_ip (Nat.testBit 0) l = false
    rw [hz_t0, hz_ip_f]
  | r :: t, m => by
    rw [hz_xs_c]
    show _ = ((m.testBit 0 && hz_ip r.testBit l) ^^ hz_ip (fun i => m.testBit (i + 1)) (t.map (fun r => hz_ip r.testBit l)))
    rw [hz_sh, ← hz_ip_xs l t (m / 2)]
    cases m.testBit 0
    · simp
    · have e : (Nat.xor r (hz_xs t (m / 2))).testBit = fun i => (r.testBit i ^^ (hz_xs t (m / 2)).testBit i) := funext fun i => hz_tx _ _ i
      show hz_ip (Nat.xor r (hz_xs t (m / 2))).testBit l = _
      rw [e, hz_ip_x]; simp
theorem hz_map_ap (f : Nat → Bool) (N : List Nat) : ∀ M, (hz_ap M N).map f = M.map (fun m => f (hz_xs N m))
  | [] => rfl
  | m :: t => by
    show f (hz_xs N m) :: (hz_ap t N).map f = f (hz_xs N m) :: t.map _
    rw [hz_map_ap f N t]
theorem hz_rep_mul {M N : List Nat} {a b : Nat} (hM : hz_rep M a) (hN : hz_rep N b) : hz_rep (hz_ap M N) (b + a) := fun c => by
  rw [← itT_add, hM, hN, hz_map_ap]
  congr 1
  funext m
  exact (hz_ip_xs (hz_bl c) N m).symm
theorem hz_ip_pow : ∀ (l : List Bool) (j : Nat), hz_ip (2 ^ j).testBit l = l.getD j false
  | [], j => rfl
  | b :: t, 0 => by
    have e : (fun i => (2 ^ 0).testBit (i + 1)) = fun _ => false := funext fun i => by rw [Nat.testBit_two_pow]; simp
    simp only [hz_ip]
    rw [e, hz_ip_f, Nat.testBit_two_pow]; simp
  | b :: t, j + 1 => by
    have e : (fun i => (2 ^ (j + 1)).testBit (i + 1)) = (2 ^ j).testBit := funext fun i => by rw [Nat.testBit_two_pow, Nat.testBit_two_pow]; simp
    simp only [hz_ip]
    rw [e, hz_ip_pow t j, Nat.testBit_two_pow]; simp
noncomputable def hz_I : List Nat := [2 ^ 0, 2 ^ 1, 2 ^ 2, 2 ^ 3, 2 ^ 4, 2 ^ 5, 2 ^ 6, 2 ^ 7, 2 ^ 8, 2 ^ 9, 2 ^ 10, 2 ^ 11, 2 ^ 12, 2 ^ 13, 2 ^ 14, 2 ^ 15, 2 ^ 16, 2 ^ 17, 2 ^ 18, 2 ^ 19, 2 ^ 20, 2 ^ 21, 2 ^ 22, 2 ^ 23, 2 ^ 24, 2 ^ 25, 2 ^ 26, 2 ^ 27, 2 ^ 28, 2 ^ 29, 2 ^ 30, 2 ^ 31]
theorem hz_I_id (c : Int32) : hz_I.map (fun m => hz_ip m.testBit (hz_bl c)) = hz_bl c := by
  simp only [hz_I, List.map_cons, List.map_nil, hz_ip_pow]
  rfl
theorem hz_rep_I : hz_rep hz_I 0 := fun c => (hz_I_id c).symm
theorem hz_rep_1 : hz_rep (hz_st hz_I) 1 := fun c => by
  show hz_bl (tw c) = _
  have hf : ∀ a b, (fun m : Nat => hz_ip m.testBit (hz_bl c)) (Nat.xor a b) = ((fun m : Nat => hz_ip m.testBit (hz_bl c)) a ^^ (fun m : Nat => hz_ip m.testBit (hz_bl c)) b) := fun a b => by
    have e : (Nat.xor a b).testBit = fun i => (a.testBit i ^^ b.testBit i) := funext fun i => hz_tx _ _ i
    show hz_ip (Nat.xor a b).testBit _ = _
    rw [e, hz_ip_x]
  rw [hz_m_st hf, hz_I_id, hz_bl_tw]
noncomputable def hz_M (k : Nat) : List Nat := Nat.rec (motive := fun _ => List Nat) (hz_st hz_I) (fun _ m => hz_ap m m) k
theorem hz_rep_M : ∀ k, hz_rep (hz_M k) (2 ^ k)
  | 0 => hz_rep_1
  | k + 1 => by
    have h := hz_rep_mul (hz_rep_M k) (hz_rep_M k)
    rw [show 2 ^ k + 2 ^ k = 2 ^ (k + 1) by rw [Nat.pow_succ]; omega] at h
    exact h
noncomputable def hz_E (ks : List Nat) : List Nat := List.rec (motive := fun _ => List Nat) hz_I (fun k _ ih => hz_ap (hz_M k) ih) ks
def hz_ex : List Nat → Nat
  | [] => 0
  | k :: t => hz_ex t + 2 ^ k
theorem hz_rep_E : ∀ ks, hz_rep (hz_E ks) (hz_ex ks)
  | [] => hz_rep_I
  | k :: t => hz_rep_mul (hz_rep_M k) (hz_rep_E t)
