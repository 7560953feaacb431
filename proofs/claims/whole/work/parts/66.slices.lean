/-! BIT SLICES: a list of 32 numbers holds many states of the chain, one a lane; every function is a raw recursor, for the kernel runs them -/
noncomputable def hz_zx (xs ys : List Nat) : List Nat := List.rec (motive := fun _ => List Nat → List Nat) (fun _ => []) (fun x t ih ys => List.rec (motive := fun _ => List Nat) (x :: t) (fun y u _ => Nat.xor x y :: ih u) ys) xs ys
noncomputable def hz_dr (k : Nat) (xs : List Nat) : List Nat := Nat.rec (motive := fun _ => List Nat → List Nat) (fun xs => xs) (fun _ ih xs => List.rec (motive := fun _ => List Nat) [] (fun _ t _ => ih t) xs) k xs
noncomputable def hz_sx (k : Nat) (xs ys : List Nat) : List Nat := Nat.rec (motive := fun _ => List Nat → List Nat) (fun xs => hz_zx xs ys) (fun _ ih xs => List.rec (motive := fun _ => List Nat) [] (fun x t _ => x :: ih t) xs) k xs
noncomputable def hz_st3 (B : List Nat) : List Nat := hz_sx 5 B B
noncomputable def hz_st2 (A : List Nat) : List Nat := hz_st3 (hz_zx A (hz_dr 17 A))
noncomputable def hz_st (X : List Nat) : List Nat := hz_st2 (hz_sx 13 X X)
noncomputable def hz_xs (xs : List Nat) (m : Nat) : Nat := List.rec (motive := fun _ => Nat → Nat) (fun _ => 0) (fun x _ ih m => Bool.rec (motive := fun _ => Nat) (ih (Nat.div m 2)) (Nat.xor x (ih (Nat.div m 2))) (Nat.beq (Nat.mod m 2) 1)) xs m
noncomputable def hz_ap (M X : List Nat) : List Nat := List.rec (motive := fun _ => List Nat) [] (fun m _ ih => hz_xs X m :: ih) M
noncomputable def hz_sor (w : Nat) (xs ys : List Nat) : List Nat := List.rec (motive := fun _ => List Nat → List Nat) (fun _ => []) (fun x _ ih ys => List.rec (motive := fun _ => List Nat) [] (fun y u _ => Nat.lor x (Nat.shiftLeft y w) :: ih u) ys) xs ys
noncomputable def hz_dbl (Ms : List (List Nat)) (w : Nat) (X : List Nat) : List Nat := List.rec (motive := fun _ => Nat → List Nat → List Nat) (fun _ X => X) (fun M _ ih w X => ih (Nat.mul 2 w) (hz_sor w X (hz_ap M X))) Ms w X
noncomputable def hz_car (ks : List Bool) (as : List Nat) (c : Nat) : List Nat := List.rec (motive := fun _ => List Nat → Nat → List Nat) (fun _ c => [c]) (fun k _ ih as c => List.rec (motive := fun _ => List Nat) [] (fun a u _ => c :: ih u (Bool.rec (motive := fun _ => Nat) (Nat.land a c) (Nat.lor a c) k)) as) ks as c
noncomputable def hz_last (xs : List Nat) (d : Nat) : Nat := List.rec (motive := fun _ => Nat → Nat) (fun d => d) (fun x _ ih _ => ih x) xs d
noncomputable def hz_rs (o : Nat) (ks : List Bool) (as cs : List Nat) : List Nat := List.rec (motive := fun _ => List Nat → List Nat → List Nat) (fun _ _ => []) (fun k _ ih as cs => List.rec (motive := fun _ => List Nat) [] (fun a u _ => List.rec (motive := fun _ => List Nat) [] (fun c v _ => Nat.xor a (Bool.rec (motive := fun _ => Nat) (Nat.land o c) (Nat.xor o (Nat.land o c)) k) :: ih u v) cs) as) ks as cs
noncomputable def hz_sp2 (ks : List Bool) (as cs : List Nat) : List Nat := hz_rs (hz_last cs 0) ks as cs
noncomputable def hz_sp1 (ks : List Bool) (as : List Nat) : List Nat := hz_sp2 ks as (hz_car ks as 0)
noncomputable def hz_app (xs ys : List Nat) : List Nat := List.rec (motive := fun _ => List Nat) ys (fun x _ ih => x :: ih) xs
noncomputable def hz_md (ks : List Bool) (k : Nat) (Y : List Nat) : List Nat := Nat.rec (motive := fun _ => List Nat → List Nat) (fun Y => hz_app Y [0, 0]) (fun _ ih Y => List.rec (motive := fun _ => List Nat) [] (fun y t _ => hz_sp1 ks (y :: ih t)) Y) k Y
noncomputable def hz_dup (a : Nat) (ws : List Nat) : List Nat := List.rec (motive := fun _ => List Nat) [] (fun w _ ih => Nat.xor w (Nat.land w a) :: Nat.land w a :: ih) ws
noncomputable def hz_oh (k : Nat) (as : List Nat) (v : Nat) : List Nat := Nat.rec (motive := fun _ => List Nat → List Nat) (fun _ => [v]) (fun _ ih as => List.rec (motive := fun _ => List Nat) [] (fun a t _ => hz_dup a (ih t)) as) k as
noncomputable def hz_and (v : Nat) (xs : List Nat) : Nat := List.rec (motive := fun _ => Nat) v (fun x _ ih => Nat.land x ih) xs
noncomputable def hz_zc (xs : List Nat) (cs : List (List Nat)) : List (List Nat) := List.rec (motive := fun _ => List (List Nat) → List (List Nat)) (fun _ => []) (fun x _ ih cs => List.rec (motive := fun _ => List (List Nat)) [] (fun c u _ => (x :: c) :: ih u) cs) xs cs
noncomputable def hz_e32 : List (List Nat) := [[], [], [], [], [], [], [], [], [], [], [], [], [], [], [], [], [], [], [], [], [], [], [], [], [], [], [], [], [], [], [], []]
noncomputable def hz_rows (f : List Nat → List Nat) (m : Nat) (X : List Nat) : List (List Nat) := Nat.rec (motive := fun _ => List Nat → List (List Nat)) (fun _ => hz_e32) (fun _ ih X => hz_zc (f X) (ih (hz_st X))) m X
noncomputable def hz_resi (ks : List Bool) (X : List Nat) : List Nat := hz_md ks 23 (hz_dr 1 X)
noncomputable def hz_mk (v : Nat) (X : List Nat) : Nat := Nat.xor v (hz_and v (hz_dr 20 X))
noncomputable def hz_lo (v : Nat) (ks : List Bool) (X : List Nat) : List Nat := hz_oh 5 (hz_resi ks X) (hz_mk v X)
noncomputable def hz_hi (v : Nat) (ks : List Bool) (X : List Nat) : List Nat := hz_oh 5 (hz_dr 5 (hz_resi ks X)) v
noncomputable def hz_dot (hs ls : List Nat) (d : Nat) : Nat := List.rec (motive := fun _ => List Nat → Nat → Nat) (fun _ d => d) (fun h _ ih ls d => List.rec (motive := fun _ => Nat) d (fun l u _ => ih u (Nat.lor d (Nat.land h l))) ls) hs ls d
noncomputable def hz_fold (ws : List Nat) (d : Nat) : Nat := List.rec (motive := fun _ => Nat → Nat) (fun d => d) (fun w _ ih d => ih (Nat.lor (Nat.shiftRight d w) (Nat.land d (Nat.sub (Nat.shiftLeft 1 w) 1)))) ws d
noncomputable def hz_row (ws : List Nat) (e : Nat) (h : List Nat) (Ls : List (List Nat)) : Bool := List.rec (motive := fun _ => Bool) true (fun l _ ih => Bool.rec (motive := fun _ => Bool) false ih (Nat.beq (hz_fold ws (hz_dot h l 0)) e)) Ls
noncomputable def hz_cov (ws : List Nat) (e : Nat) (n : Nat) (Hs Ls : List (List Nat)) : Bool := List.rec (motive := fun _ => Nat → Bool) (fun _ => true) (fun h _ ih n => Bool.rec (motive := fun _ => Bool) (Bool.rec (motive := fun _ => Bool) false (ih (Nat.sub n 32)) (hz_row ws e h Ls)) (hz_row ws e h (List.take n Ls)) (Nat.ble n 32)) Hs n
noncomputable def hz_chk1 (ws : List Nat) (e v : Nat) (ks : List Bool) (m n : Nat) (X : List Nat) : Bool := hz_cov ws e n (hz_rows (hz_hi v ks) m X) (hz_rows (hz_lo v ks) m X)
