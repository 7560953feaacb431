def fMdAt (G : GG) (k : Nat) (v : VV) : List Value := [.ref (ad G (k + 1)), .int (v 1), .int (v 2), .ref (ad G (k + 2)), .ref (ad G (k + 3)), .int (v 5), .ref (ad G (k + 4)), .ref (ad G (k + 5)), .int (v 8), .ref (ad G (k + 6)), .ref (ad G (k + 7)), .int (v 11), .int (v 12), .int (v 13), .int (v 14), .int (v 15), .ref (ad G (k + 8)), .ref (ad G (k + 9)), .ref (ad G (k + 10)), .int (v 19)]
def MdAt (G : GG) (hh : HH) (k : Nat) (a : AA) (v : VV) : Prop := hAt G hh k (.inr (5, fMdAt G k v)) ∧ hAt G hh (k + 1) (eI G 1001 (a 0)) ∧ hAt G hh (k + 2) (eI G 6 (a 3)) ∧ hAt G hh (k + 3) (eI G 6 (a 4)) ∧ hAt G hh (k + 4) (eZ G 2 (a 6)) ∧ hAt G hh (k + 5) (eI G 200 (a 7)) ∧ hAt G hh (k + 6) (eI G 3 (a 9)) ∧ hAt G hh (k + 7) (eI G 120 (a 10)) ∧ hAt G hh (k + 8) (eI G 2 (a 16)) ∧ hAt G hh (k + 9) (eI G 54 (a 17)) ∧ hAt G hh (k + 10) (eI G 140 (a 18))
theorem MdAt.a0 {G : GG} {hh : HH} {k : Nat} {a : AA} {v : VV} (h : MdAt G hh k a v) : hAt G hh (k + 1) (eI G 1001 (a 0)) := h.2.1
theorem MdAt.a3 {G : GG} {hh : HH} {k : Nat} {a : AA} {v : VV} (h : MdAt G hh k a v) : hAt G hh (k + 2) (eI G 6 (a 3)) := h.2.2.1
theorem MdAt.a4 {G : GG} {hh : HH} {k : Nat} {a : AA} {v : VV} (h : MdAt G hh k a v) : hAt G hh (k + 3) (eI G 6 (a 4)) := h.2.2.2.1
theorem MdAt.a6 {G : GG} {hh : HH} {k : Nat} {a : AA} {v : VV} (h : MdAt G hh k a v) : hAt G hh (k + 4) (eZ G 2 (a 6)) := h.2.2.2.2.1
theorem MdAt.a7 {G : GG} {hh : HH} {k : Nat} {a : AA} {v : VV} (h : MdAt G hh k a v) : hAt G hh (k + 5) (eI G 200 (a 7)) := h.2.2.2.2.2.1
theorem MdAt.a9 {G : GG} {hh : HH} {k : Nat} {a : AA} {v : VV} (h : MdAt G hh k a v) : hAt G hh (k + 6) (eI G 3 (a 9)) := h.2.2.2.2.2.2.1
theorem MdAt.a10 {G : GG} {hh : HH} {k : Nat} {a : AA} {v : VV} (h : MdAt G hh k a v) : hAt G hh (k + 7) (eI G 120 (a 10)) := h.2.2.2.2.2.2.2.1
theorem MdAt.a16 {G : GG} {hh : HH} {k : Nat} {a : AA} {v : VV} (h : MdAt G hh k a v) : hAt G hh (k + 8) (eI G 2 (a 16)) := h.2.2.2.2.2.2.2.2.1
theorem MdAt.a17 {G : GG} {hh : HH} {k : Nat} {a : AA} {v : VV} (h : MdAt G hh k a v) : hAt G hh (k + 9) (eI G 54 (a 17)) := h.2.2.2.2.2.2.2.2.2.1
theorem MdAt.a18 {G : GG} {hh : HH} {k : Nat} {a : AA} {v : VV} (h : MdAt G hh k a v) : hAt G hh (k + 10) (eI G 140 (a 18)) := h.2.2.2.2.2.2.2.2.2.2
theorem MdAt.p1 {G : GG} {hh : HH} {k : Nat} {a : AA} {v : VV} (h : MdAt G hh k a v) (x : Int32) : MdAt G (va_up hh k (.inr (5, (fMdAt G k v).set 1 (.int x)))) k a (va_up v 1 x) := ⟨hAt.up h.1.1, (h.a0).ne (by omega), (h.a3).ne (by omega), (h.a4).ne (by omega), (h.a6).ne (by omega), (h.a7).ne (by omega), (h.a9).ne (by omega), (h.a10).ne (by omega), (h.a16).ne (by omega), (h.a17).ne (by omega), (h.a18).ne (by omega)⟩
theorem MdAt.p2 {G : GG} {hh : HH} {k : Nat} {a : AA} {v : VV} (h : MdAt G hh k a v) (x : Int32) : MdAt G (va_up hh k (.inr (5, (fMdAt G k v).set 2 (.int x)))) k a (va_up v 2 x) := ⟨hAt.up h.1.1, (h.a0).ne (by omega), (h.a3).ne (by omega), (h.a4).ne (by omega), (h.a6).ne (by omega), (h.a7).ne (by omega), (h.a9).ne (by omega), (h.a10).ne (by omega), (h.a16).ne (by omega), (h.a17).ne (by omega), (h.a18).ne (by omega)⟩
theorem MdAt.p5 {G : GG} {hh : HH} {k : Nat} {a : AA} {v : VV} (h : MdAt G hh k a v) (x : Int32) : MdAt G (va_up hh k (.inr (5, (fMdAt G k v).set 5 (.int x)))) k a (va_up v 5 x) := ⟨hAt.up h.1.1, (h.a0).ne (by omega), (h.a3).ne (by omega), (h.a4).ne (by omega), (h.a6).ne (by omega), (h.a7).ne (by omega), (h.a9).ne (by omega), (h.a10).ne (by omega), (h.a16).ne (by omega), (h.a17).ne (by omega), (h.a18).ne (by omega)⟩
theorem MdAt.p8 {G : GG} {hh : HH} {k : Nat} {a : AA} {v : VV} (h : MdAt G hh k a v) (x : Int32) : MdAt G (va_up hh k (.inr (5, (fMdAt G k v).set 8 (.int x)))) k a (va_up v 8 x) := ⟨hAt.up h.1.1, (h.a0).ne (by omega), (h.a3).ne (by omega), (h.a4).ne (by omega), (h.a6).ne (by omega), (h.a7).ne (by omega), (h.a9).ne (by omega), (h.a10).ne (by omega), (h.a16).ne (by omega), (h.a17).ne (by omega), (h.a18).ne (by omega)⟩
theorem MdAt.p11 {G : GG} {hh : HH} {k : Nat} {a : AA} {v : VV} (h : MdAt G hh k a v) (x : Int32) : MdAt G (va_up hh k (.inr (5, (fMdAt G k v).set 11 (.int x)))) k a (va_up v 11 x) := ⟨hAt.up h.1.1, (h.a0).ne (by omega), (h.a3).ne (by omega), (h.a4).ne (by omega), (h.a6).ne (by omega), (h.a7).ne (by omega), (h.a9).ne (by omega), (h.a10).ne (by omega), (h.a16).ne (by omega), (h.a17).ne (by omega), (h.a18).ne (by omega)⟩
theorem MdAt.p12 {G : GG} {hh : HH} {k : Nat} {a : AA} {v : VV} (h : MdAt G hh k a v) (x : Int32) : MdAt G (va_up hh k (.inr (5, (fMdAt G k v).set 12 (.int x)))) k a (va_up v 12 x) := ⟨hAt.up h.1.1, (h.a0).ne (by omega), (h.a3).ne (by omega), (h.a4).ne (by omega), (h.a6).ne (by omega), (h.a7).ne (by omega), (h.a9).ne (by omega), (h.a10).ne (by omega), (h.a16).ne (by omega), (h.a17).ne (by omega), (h.a18).ne (by omega)⟩
theorem MdAt.p13 {G : GG} {hh : HH} {k : Nat} {a : AA} {v : VV} (h : MdAt G hh k a v) (x : Int32) : MdAt G (va_up hh k (.inr (5, (fMdAt G k v).set 13 (.int x)))) k a (va_up v 13 x) := ⟨hAt.up h.1.1, (h.a0).ne (by omega), (h.a3).ne (by omega), (h.a4).ne (by omega), (h.a6).ne (by omega), (h.a7).ne (by omega), (h.a9).ne (by omega), (h.a10).ne (by omega), (h.a16).ne (by omega), (h.a17).ne (by omega), (h.a18).ne (by omega)⟩
theorem MdAt.p14 {G : GG} {hh : HH} {k : Nat} {a : AA} {v : VV} (h : MdAt G hh k a v) (x : Int32) : MdAt G (va_up hh k (.inr (5, (fMdAt G k v).set 14 (.int x)))) k a (va_up v 14 x) := ⟨hAt.up h.1.1, (h.a0).ne (by omega), (h.a3).ne (by omega), (h.a4).ne (by omega), (h.a6).ne (by omega), (h.a7).ne (by omega), (h.a9).ne (by omega), (h.a10).ne (by omega), (h.a16).ne (by omega), (h.a17).ne (by omega), (h.a18).ne (by omega)⟩
theorem MdAt.p15 {G : GG} {hh : HH} {k : Nat} {a : AA} {v : VV} (h : MdAt G hh k a v) (x : Int32) : MdAt G (va_up hh k (.inr (5, (fMdAt G k v).set 15 (.int x)))) k a (va_up v 15 x) := ⟨hAt.up h.1.1, (h.a0).ne (by omega), (h.a3).ne (by omega), (h.a4).ne (by omega), (h.a6).ne (by omega), (h.a7).ne (by omega), (h.a9).ne (by omega), (h.a10).ne (by omega), (h.a16).ne (by omega), (h.a17).ne (by omega), (h.a18).ne (by omega)⟩
theorem MdAt.p19 {G : GG} {hh : HH} {k : Nat} {a : AA} {v : VV} (h : MdAt G hh k a v) (x : Int32) : MdAt G (va_up hh k (.inr (5, (fMdAt G k v).set 19 (.int x)))) k a (va_up v 19 x) := ⟨hAt.up h.1.1, (h.a0).ne (by omega), (h.a3).ne (by omega), (h.a4).ne (by omega), (h.a6).ne (by omega), (h.a7).ne (by omega), (h.a9).ne (by omega), (h.a10).ne (by omega), (h.a16).ne (by omega), (h.a17).ne (by omega), (h.a18).ne (by omega)⟩
theorem MdAt.s0 {G : GG} {hh : HH} {k : Nat} {a : AA} {v : VV} (h : MdAt G hh k a v) (g : Nat → Int32) : MdAt G (va_up hh (k + 1) (eI G 1001 g)) k (va_up a 0 g) v := ⟨h.1.ne (by omega), hAt.up h.a0.1, (h.a3).ne (by omega), (h.a4).ne (by omega), (h.a6).ne (by omega), (h.a7).ne (by omega), (h.a9).ne (by omega), (h.a10).ne (by omega), (h.a16).ne (by omega), (h.a17).ne (by omega), (h.a18).ne (by omega)⟩
theorem MdAt.s3 {G : GG} {hh : HH} {k : Nat} {a : AA} {v : VV} (h : MdAt G hh k a v) (g : Nat → Int32) : MdAt G (va_up hh (k + 2) (eI G 6 g)) k (va_up a 3 g) v := ⟨h.1.ne (by omega), (h.a0).ne (by omega), hAt.up h.a3.1, (h.a4).ne (by omega), (h.a6).ne (by omega), (h.a7).ne (by omega), (h.a9).ne (by omega), (h.a10).ne (by omega), (h.a16).ne (by omega), (h.a17).ne (by omega), (h.a18).ne (by omega)⟩
theorem MdAt.s4 {G : GG} {hh : HH} {k : Nat} {a : AA} {v : VV} (h : MdAt G hh k a v) (g : Nat → Int32) : MdAt G (va_up hh (k + 3) (eI G 6 g)) k (va_up a 4 g) v := ⟨h.1.ne (by omega), (h.a0).ne (by omega), (h.a3).ne (by omega), hAt.up h.a4.1, (h.a6).ne (by omega), (h.a7).ne (by omega), (h.a9).ne (by omega), (h.a10).ne (by omega), (h.a16).ne (by omega), (h.a17).ne (by omega), (h.a18).ne (by omega)⟩
theorem MdAt.s6 {G : GG} {hh : HH} {k : Nat} {a : AA} {v : VV} (h : MdAt G hh k a v) (g : Nat → Int32) : MdAt G (va_up hh (k + 4) (eZ G 2 g)) k (va_up a 6 g) v := ⟨h.1.ne (by omega), (h.a0).ne (by omega), (h.a3).ne (by omega), (h.a4).ne (by omega), hAt.up h.a6.1, (h.a7).ne (by omega), (h.a9).ne (by omega), (h.a10).ne (by omega), (h.a16).ne (by omega), (h.a17).ne (by omega), (h.a18).ne (by omega)⟩
theorem MdAt.s7 {G : GG} {hh : HH} {k : Nat} {a : AA} {v : VV} (h : MdAt G hh k a v) (g : Nat → Int32) : MdAt G (va_up hh (k + 5) (eI G 200 g)) k (va_up a 7 g) v := ⟨h.1.ne (by omega), (h.a0).ne (by omega), (h.a3).ne (by omega), (h.a4).ne (by omega), (h.a6).ne (by omega), hAt.up h.a7.1, (h.a9).ne (by omega), (h.a10).ne (by omega), (h.a16).ne (by omega), (h.a17).ne (by omega), (h.a18).ne (by omega)⟩
theorem MdAt.s9 {G : GG} {hh : HH} {k : Nat} {a : AA} {v : VV} (h : MdAt G hh k a v) (g : Nat → Int32) : MdAt G (va_up hh (k + 6) (eI G 3 g)) k (va_up a 9 g) v := ⟨h.1.ne (by omega), (h.a0).ne (by omega), (h.a3).ne (by omega), (h.a4).ne (by omega), (h.a6).ne (by omega), (h.a7).ne (by omega), hAt.up h.a9.1, (h.a10).ne (by omega), (h.a16).ne (by omega), (h.a17).ne (by omega), (h.a18).ne (by omega)⟩
theorem MdAt.s10 {G : GG} {hh : HH} {k : Nat} {a : AA} {v : VV} (h : MdAt G hh k a v) (g : Nat → Int32) : MdAt G (va_up hh (k + 7) (eI G 120 g)) k (va_up a 10 g) v := ⟨h.1.ne (by omega), (h.a0).ne (by omega), (h.a3).ne (by omega), (h.a4).ne (by omega), (h.a6).ne (by omega), (h.a7).ne (by omega), (h.a9).ne (by omega), hAt.up h.a10.1, (h.a16).ne (by omega), (h.a17).ne (by omega), (h.a18).ne (by omega)⟩
theorem MdAt.s16 {G : GG} {hh : HH} {k : Nat} {a : AA} {v : VV} (h : MdAt G hh k a v) (g : Nat → Int32) : MdAt G (va_up hh (k + 8) (eI G 2 g)) k (va_up a 16 g) v := ⟨h.1.ne (by omega), (h.a0).ne (by omega), (h.a3).ne (by omega), (h.a4).ne (by omega), (h.a6).ne (by omega), (h.a7).ne (by omega), (h.a9).ne (by omega), (h.a10).ne (by omega), hAt.up h.a16.1, (h.a17).ne (by omega), (h.a18).ne (by omega)⟩
theorem MdAt.s17 {G : GG} {hh : HH} {k : Nat} {a : AA} {v : VV} (h : MdAt G hh k a v) (g : Nat → Int32) : MdAt G (va_up hh (k + 9) (eI G 54 g)) k (va_up a 17 g) v := ⟨h.1.ne (by omega), (h.a0).ne (by omega), (h.a3).ne (by omega), (h.a4).ne (by omega), (h.a6).ne (by omega), (h.a7).ne (by omega), (h.a9).ne (by omega), (h.a10).ne (by omega), (h.a16).ne (by omega), hAt.up h.a17.1, (h.a18).ne (by omega)⟩
theorem MdAt.s18 {G : GG} {hh : HH} {k : Nat} {a : AA} {v : VV} (h : MdAt G hh k a v) (g : Nat → Int32) : MdAt G (va_up hh (k + 10) (eI G 140 g)) k (va_up a 18 g) v := ⟨h.1.ne (by omega), (h.a0).ne (by omega), (h.a3).ne (by omega), (h.a4).ne (by omega), (h.a6).ne (by omega), (h.a7).ne (by omega), (h.a9).ne (by omega), (h.a10).ne (by omega), (h.a16).ne (by omega), (h.a17).ne (by omega), hAt.up h.a18.1⟩
theorem MdAt.fr {G : GG} {hh hh' : HH} {k lo hi : Nat} {a : AA} {v : VV} (h : MdAt G hh k a v) (hF : Fr lo hi hh hh') (hk : k + 11 ≤ lo ∨ hi ≤ k) : MdAt G hh' k a v := ⟨h.1.fr hF (by omega), (h.a0).fr hF (by omega), (h.a3).fr hF (by omega), (h.a4).fr hF (by omega), (h.a6).fr hF (by omega), (h.a7).fr hF (by omega), (h.a9).fr hF (by omega), (h.a10).fr hF (by omega), (h.a16).fr hF (by omega), (h.a17).fr hF (by omega), (h.a18).fr hF (by omega)⟩
theorem MdAt.far {G : GG} {hh : HH} {k j : Nat} {a : AA} {v : VV} {e : va_E} (h : MdAt G hh k a v) (hk : j < k ∨ k + 11 ≤ j) : MdAt G (va_up hh j e) k a v := ⟨h.1.ne (by omega), (h.a0).ne (by omega), (h.a3).ne (by omega), (h.a4).ne (by omega), (h.a6).ne (by omega), (h.a7).ne (by omega), (h.a9).ne (by omega), (h.a10).ne (by omega), (h.a16).ne (by omega), (h.a17).ne (by omega), (h.a18).ne (by omega)⟩
theorem Md_put1 {G : GG} {μ : MI} {pc : Nat} {lv : List (Nat × Value)} {st : List Value} {hh : HH} {Q : QQ} {k idx : Nat} {a : AA} {v : VV} {x : Int32} (hd : decode μ.2.1 pc = .ok (.putfield idx, 3)) (hw : pfOK μ.1.cls idx 5 1 .int) (h : MdAt G hh k a v) (k1 : ∀ hh1, MdAt G hh1 k a (va_up v 1 x) → Fr k (k + 11) hh hh1 → RR G μ (pc + 3) lv st hh1 Q) : RR G μ pc lv (.int x :: .ref (ad G k) :: st) hh Q := R_put hd hw h.1 rfl rfl (show 1 < 20 by decide) (k1 _ (h.p1 x) (Fr.up _ Fr.rf (by omega) (by omega)))
theorem Md_put2 {G : GG} {μ : MI} {pc : Nat} {lv : List (Nat × Value)} {st : List Value} {hh : HH} {Q : QQ} {k idx : Nat} {a : AA} {v : VV} {x : Int32} (hd : decode μ.2.1 pc = .ok (.putfield idx, 3)) (hw : pfOK μ.1.cls idx 5 2 .int) (h : MdAt G hh k a v) (k1 : ∀ hh1, MdAt G hh1 k a (va_up v 2 x) → Fr k (k + 11) hh hh1 → RR G μ (pc + 3) lv st hh1 Q) : RR G μ pc lv (.int x :: .ref (ad G k) :: st) hh Q := R_put hd hw h.1 rfl rfl (show 2 < 20 by decide) (k1 _ (h.p2 x) (Fr.up _ Fr.rf (by omega) (by omega)))
theorem Md_put5 {G : GG} {μ : MI} {pc : Nat} {lv : List (Nat × Value)} {st : List Value} {hh : HH} {Q : QQ} {k idx : Nat} {a : AA} {v : VV} {x : Int32} (hd : decode μ.2.1 pc = .ok (.putfield idx, 3)) (hw : pfOK μ.1.cls idx 5 5 .int) (h : MdAt G hh k a v) (k1 : ∀ hh1, MdAt G hh1 k a (va_up v 5 x) → Fr k (k + 11) hh hh1 → RR G μ (pc + 3) lv st hh1 Q) : RR G μ pc lv (.int x :: .ref (ad G k) :: st) hh Q := R_put hd hw h.1 rfl rfl (show 5 < 20 by decide) (k1 _ (h.p5 x) (Fr.up _ Fr.rf (by omega) (by omega)))
theorem Md_put8 {G : GG} {μ : MI} {pc : Nat} {lv : List (Nat × Value)} {st : List Value} {hh : HH} {Q : QQ} {k idx : Nat} {a : AA} {v : VV} {x : Int32} (hd : decode μ.2.1 pc = .ok (.putfield idx, 3)) (hw : pfOK μ.1.cls idx 5 8 .int) (h : MdAt G hh k a v) (k1 : ∀ hh1, MdAt G hh1 k a (va_up v 8 x) → Fr k (k + 11) hh hh1 → RR G μ (pc + 3) lv st hh1 Q) : RR G μ pc lv (.int x :: .ref (ad G k) :: st) hh Q := R_put hd hw h.1 rfl rfl (show 8 < 20 by decide) (k1 _ (h.p8 x) (Fr.up _ Fr.rf (by omega) (by omega)))
theorem Md_put11 {G : GG} {μ : MI} {pc : Nat} {lv : List (Nat × Value)} {st : List Value} {hh : HH} {Q : QQ} {k idx : Nat} {a : AA} {v : VV} {x : Int32} (hd : decode μ.2.1 pc = .ok (.putfield idx, 3)) (hw : pfOK μ.1.cls idx 5 11 .int) (h : MdAt G hh k a v) (k1 : ∀ hh1, MdAt G hh1 k a (va_up v 11 x) → Fr k (k + 11) hh hh1 → RR G μ (pc + 3) lv st hh1 Q) : RR G μ pc lv (.int x :: .ref (ad G k) :: st) hh Q := R_put hd hw h.1 rfl rfl (show 11 < 20 by decide) (k1 _ (h.p11 x) (Fr.up _ Fr.rf (by omega) (by omega)))
theorem Md_put12 {G : GG} {μ : MI} {pc : Nat} {lv : List (Nat × Value)} {st : List Value} {hh : HH} {Q : QQ} {k idx : Nat} {a : AA} {v : VV} {x : Int32} (hd : decode μ.2.1 pc = .ok (.putfield idx, 3)) (hw : pfOK μ.1.cls idx 5 12 .int) (h : MdAt G hh k a v) (k1 : ∀ hh1, MdAt G hh1 k a (va_up v 12 x) → Fr k (k + 11) hh hh1 → RR G μ (pc + 3) lv st hh1 Q) : RR G μ pc lv (.int x :: .ref (ad G k) :: st) hh Q := R_put hd hw h.1 rfl rfl (show 12 < 20 by decide) (k1 _ (h.p12 x) (Fr.up _ Fr.rf (by omega) (by omega)))
theorem Md_put13 {G : GG} {μ : MI} {pc : Nat} {lv : List (Nat × Value)} {st : List Value} {hh : HH} {Q : QQ} {k idx : Nat} {a : AA} {v : VV} {x : Int32} (hd : decode μ.2.1 pc = .ok (.putfield idx, 3)) (hw : pfOK μ.1.cls idx 5 13 .int) (h : MdAt G hh k a v) (k1 : ∀ hh1, MdAt G hh1 k a (va_up v 13 x) → Fr k (k + 11) hh hh1 → RR G μ (pc + 3) lv st hh1 Q) : RR G μ pc lv (.int x :: .ref (ad G k) :: st) hh Q := R_put hd hw h.1 rfl rfl (show 13 < 20 by decide) (k1 _ (h.p13 x) (Fr.up _ Fr.rf (by omega) (by omega)))
theorem Md_put14 {G : GG} {μ : MI} {pc : Nat} {lv : List (Nat × Value)} {st : List Value} {hh : HH} {Q : QQ} {k idx : Nat} {a : AA} {v : VV} {x : Int32} (hd : decode μ.2.1 pc = .ok (.putfield idx, 3)) (hw : pfOK μ.1.cls idx 5 14 .int) (h : MdAt G hh k a v) (k1 : ∀ hh1, MdAt G hh1 k a (va_up v 14 x) → Fr k (k + 11) hh hh1 → RR G μ (pc + 3) lv st hh1 Q) : RR G μ pc lv (.int x :: .ref (ad G k) :: st) hh Q := R_put hd hw h.1 rfl rfl (show 14 < 20 by decide) (k1 _ (h.p14 x) (Fr.up _ Fr.rf (by omega) (by omega)))
theorem Md_put15 {G : GG} {μ : MI} {pc : Nat} {lv : List (Nat × Value)} {st : List Value} {hh : HH} {Q : QQ} {k idx : Nat} {a : AA} {v : VV} {x : Int32} (hd : decode μ.2.1 pc = .ok (.putfield idx, 3)) (hw : pfOK μ.1.cls idx 5 15 .boolean) (h : MdAt G hh k a v) (hx : x = 0 ∨ x = 1) (k1 : ∀ hh1, MdAt G hh1 k a (va_up v 15 x) → Fr k (k + 11) hh hh1 → RR G μ (pc + 3) lv st hh1 Q) : RR G μ pc lv (.int x :: .ref (ad G k) :: st) hh Q := R_put hd hw h.1 (by rcases hx with rfl | rfl <;> rfl) (by rcases hx with rfl | rfl <;> rfl) (show 15 < 20 by decide) (k1 _ (h.p15 x) (Fr.up _ Fr.rf (by omega) (by omega)))
theorem Md_put19 {G : GG} {μ : MI} {pc : Nat} {lv : List (Nat × Value)} {st : List Value} {hh : HH} {Q : QQ} {k idx : Nat} {a : AA} {v : VV} {x : Int32} (hd : decode μ.2.1 pc = .ok (.putfield idx, 3)) (hw : pfOK μ.1.cls idx 5 19 .int) (h : MdAt G hh k a v) (k1 : ∀ hh1, MdAt G hh1 k a (va_up v 19 x) → Fr k (k + 11) hh hh1 → RR G μ (pc + 3) lv st hh1 Q) : RR G μ pc lv (.int x :: .ref (ad G k) :: st) hh Q := R_put hd hw h.1 rfl rfl (show 19 < 20 by decide) (k1 _ (h.p19 x) (Fr.up _ Fr.rf (by omega) (by omega)))
theorem Md_ast0 {G : GG} {μ : MI} {pc : Nat} {lv : List (Nat × Value)} {st : List Value} {hh : HH} {Q : QQ} {k : Nat} {a : AA} {v : VV} {i x : Int32} (hd : decode μ.2.1 pc = .ok (.iastore, 1)) (h : MdAt G hh k a v) (hin : vp_in i 1001) (k1 : ∀ hh1, MdAt G hh1 k (va_up a 0 (upd (a 0) i.toNatClampNeg x)) v → Fr k (k + 11) hh hh1 → RR G μ (pc + 1) lv st hh1 Q) : RR G μ pc lv (.int x :: .int i :: .ref (ad G (k + 1)) :: st) hh Q := R_iast hd h.a0 hin (k1 _ (h.s0 _) (Fr.up _ Fr.rf (by omega) (by omega)))
theorem Md_ast3 {G : GG} {μ : MI} {pc : Nat} {lv : List (Nat × Value)} {st : List Value} {hh : HH} {Q : QQ} {k : Nat} {a : AA} {v : VV} {i x : Int32} (hd : decode μ.2.1 pc = .ok (.iastore, 1)) (h : MdAt G hh k a v) (hin : vp_in i 6) (k1 : ∀ hh1, MdAt G hh1 k (va_up a 3 (upd (a 3) i.toNatClampNeg x)) v → Fr k (k + 11) hh hh1 → RR G μ (pc + 1) lv st hh1 Q) : RR G μ pc lv (.int x :: .int i :: .ref (ad G (k + 2)) :: st) hh Q := R_iast hd h.a3 hin (k1 _ (h.s3 _) (Fr.up _ Fr.rf (by omega) (by omega)))
theorem Md_ast4 {G : GG} {μ : MI} {pc : Nat} {lv : List (Nat × Value)} {st : List Value} {hh : HH} {Q : QQ} {k : Nat} {a : AA} {v : VV} {i x : Int32} (hd : decode μ.2.1 pc = .ok (.iastore, 1)) (h : MdAt G hh k a v) (hin : vp_in i 6) (k1 : ∀ hh1, MdAt G hh1 k (va_up a 4 (upd (a 4) i.toNatClampNeg x)) v → Fr k (k + 11) hh hh1 → RR G μ (pc + 1) lv st hh1 Q) : RR G μ pc lv (.int x :: .int i :: .ref (ad G (k + 3)) :: st) hh Q := R_iast hd h.a4 hin (k1 _ (h.s4 _) (Fr.up _ Fr.rf (by omega) (by omega)))
theorem Md_ast6 {G : GG} {μ : MI} {pc : Nat} {lv : List (Nat × Value)} {st : List Value} {hh : HH} {Q : QQ} {k : Nat} {a : AA} {v : VV} {i x : Int32} (hd : decode μ.2.1 pc = .ok (.bastore, 1)) (h : MdAt G hh k a v) (hin : vp_in i 2) (k1 : ∀ hh1, MdAt G hh1 k (va_up a 6 (upd (a 6) i.toNatClampNeg (vp_nar .boolean x))) v → Fr k (k + 11) hh hh1 → RR G μ (pc + 1) lv st hh1 Q) : RR G μ pc lv (.int x :: .int i :: .ref (ad G (k + 4)) :: st) hh Q := R_zast hd h.a6 hin (k1 _ (h.s6 _) (Fr.up _ Fr.rf (by omega) (by omega)))
theorem Md_ast7 {G : GG} {μ : MI} {pc : Nat} {lv : List (Nat × Value)} {st : List Value} {hh : HH} {Q : QQ} {k : Nat} {a : AA} {v : VV} {i x : Int32} (hd : decode μ.2.1 pc = .ok (.iastore, 1)) (h : MdAt G hh k a v) (hin : vp_in i 200) (k1 : ∀ hh1, MdAt G hh1 k (va_up a 7 (upd (a 7) i.toNatClampNeg x)) v → Fr k (k + 11) hh hh1 → RR G μ (pc + 1) lv st hh1 Q) : RR G μ pc lv (.int x :: .int i :: .ref (ad G (k + 5)) :: st) hh Q := R_iast hd h.a7 hin (k1 _ (h.s7 _) (Fr.up _ Fr.rf (by omega) (by omega)))
theorem Md_ast9 {G : GG} {μ : MI} {pc : Nat} {lv : List (Nat × Value)} {st : List Value} {hh : HH} {Q : QQ} {k : Nat} {a : AA} {v : VV} {i x : Int32} (hd : decode μ.2.1 pc = .ok (.iastore, 1)) (h : MdAt G hh k a v) (hin : vp_in i 3) (k1 : ∀ hh1, MdAt G hh1 k (va_up a 9 (upd (a 9) i.toNatClampNeg x)) v → Fr k (k + 11) hh hh1 → RR G μ (pc + 1) lv st hh1 Q) : RR G μ pc lv (.int x :: .int i :: .ref (ad G (k + 6)) :: st) hh Q := R_iast hd h.a9 hin (k1 _ (h.s9 _) (Fr.up _ Fr.rf (by omega) (by omega)))
theorem Md_ast10 {G : GG} {μ : MI} {pc : Nat} {lv : List (Nat × Value)} {st : List Value} {hh : HH} {Q : QQ} {k : Nat} {a : AA} {v : VV} {i x : Int32} (hd : decode μ.2.1 pc = .ok (.iastore, 1)) (h : MdAt G hh k a v) (hin : vp_in i 120) (k1 : ∀ hh1, MdAt G hh1 k (va_up a 10 (upd (a 10) i.toNatClampNeg x)) v → Fr k (k + 11) hh hh1 → RR G μ (pc + 1) lv st hh1 Q) : RR G μ pc lv (.int x :: .int i :: .ref (ad G (k + 7)) :: st) hh Q := R_iast hd h.a10 hin (k1 _ (h.s10 _) (Fr.up _ Fr.rf (by omega) (by omega)))
theorem Md_ast16 {G : GG} {μ : MI} {pc : Nat} {lv : List (Nat × Value)} {st : List Value} {hh : HH} {Q : QQ} {k : Nat} {a : AA} {v : VV} {i x : Int32} (hd : decode μ.2.1 pc = .ok (.iastore, 1)) (h : MdAt G hh k a v) (hin : vp_in i 2) (k1 : ∀ hh1, MdAt G hh1 k (va_up a 16 (upd (a 16) i.toNatClampNeg x)) v → Fr k (k + 11) hh hh1 → RR G μ (pc + 1) lv st hh1 Q) : RR G μ pc lv (.int x :: .int i :: .ref (ad G (k + 8)) :: st) hh Q := R_iast hd h.a16 hin (k1 _ (h.s16 _) (Fr.up _ Fr.rf (by omega) (by omega)))
theorem Md_ast17 {G : GG} {μ : MI} {pc : Nat} {lv : List (Nat × Value)} {st : List Value} {hh : HH} {Q : QQ} {k : Nat} {a : AA} {v : VV} {i x : Int32} (hd : decode μ.2.1 pc = .ok (.iastore, 1)) (h : MdAt G hh k a v) (hin : vp_in i 54) (k1 : ∀ hh1, MdAt G hh1 k (va_up a 17 (upd (a 17) i.toNatClampNeg x)) v → Fr k (k + 11) hh hh1 → RR G μ (pc + 1) lv st hh1 Q) : RR G μ pc lv (.int x :: .int i :: .ref (ad G (k + 9)) :: st) hh Q := R_iast hd h.a17 hin (k1 _ (h.s17 _) (Fr.up _ Fr.rf (by omega) (by omega)))
theorem Md_ast18 {G : GG} {μ : MI} {pc : Nat} {lv : List (Nat × Value)} {st : List Value} {hh : HH} {Q : QQ} {k : Nat} {a : AA} {v : VV} {i x : Int32} (hd : decode μ.2.1 pc = .ok (.iastore, 1)) (h : MdAt G hh k a v) (hin : vp_in i 140) (k1 : ∀ hh1, MdAt G hh1 k (va_up a 18 (upd (a 18) i.toNatClampNeg x)) v → Fr k (k + 11) hh hh1 → RR G μ (pc + 1) lv st hh1 Q) : RR G μ pc lv (.int x :: .int i :: .ref (ad G (k + 10)) :: st) hh Q := R_iast hd h.a18 hin (k1 _ (h.s18 _) (Fr.up _ Fr.rf (by omega) (by omega)))
theorem Md_ast0N {G : GG} {μ : MI} {pc : Nat} {lv : List (Nat × Value)} {st : List Value} {hh : HH} {Q : QQ} {k : Nat} {a : AA} {v : VV} {i : Nat} {x : Int32} (hd : decode μ.2.1 pc = .ok (.iastore, 1)) (h : MdAt G hh k a v) (hi : i < 1001) (k1 : ∀ hh1, MdAt G hh1 k (va_up a 0 (upd (a 0) i x)) v → Fr k (k + 11) hh hh1 → RR G μ (pc + 1) lv st hh1 Q) : RR G μ pc lv (.int x :: .int (nI i) :: .ref (ad G (k + 1)) :: st) hh Q := Md_ast0 hd h (vp_in_nI hi (by decide)) (fun hh1 h1 hF => k1 hh1 (by rw [nI_clamp (by omega)] at h1; exact h1) hF)
theorem Md_ast3N {G : GG} {μ : MI} {pc : Nat} {lv : List (Nat × Value)} {st : List Value} {hh : HH} {Q : QQ} {k : Nat} {a : AA} {v : VV} {i : Nat} {x : Int32} (hd : decode μ.2.1 pc = .ok (.iastore, 1)) (h : MdAt G hh k a v) (hi : i < 6) (k1 : ∀ hh1, MdAt G hh1 k (va_up a 3 (upd (a 3) i x)) v → Fr k (k + 11) hh hh1 → RR G μ (pc + 1) lv st hh1 Q) : RR G μ pc lv (.int x :: .int (nI i) :: .ref (ad G (k + 2)) :: st) hh Q := Md_ast3 hd h (vp_in_nI hi (by decide)) (fun hh1 h1 hF => k1 hh1 (by rw [nI_clamp (by omega)] at h1; exact h1) hF)
theorem Md_ast4N {G : GG} {μ : MI} {pc : Nat} {lv : List (Nat × Value)} {st : List Value} {hh : HH} {Q : QQ} {k : Nat} {a : AA} {v : VV} {i : Nat} {x : Int32} (hd : decode μ.2.1 pc = .ok (.iastore, 1)) (h : MdAt G hh k a v) (hi : i < 6) (k1 : ∀ hh1, MdAt G hh1 k (va_up a 4 (upd (a 4) i x)) v → Fr k (k + 11) hh hh1 → RR G μ (pc + 1) lv st hh1 Q) : RR G μ pc lv (.int x :: .int (nI i) :: .ref (ad G (k + 3)) :: st) hh Q := Md_ast4 hd h (vp_in_nI hi (by decide)) (fun hh1 h1 hF => k1 hh1 (by rw [nI_clamp (by omega)] at h1; exact h1) hF)
theorem Md_ast6N {G : GG} {μ : MI} {pc : Nat} {lv : List (Nat × Value)} {st : List Value} {hh : HH} {Q : QQ} {k : Nat} {a : AA} {v : VV} {i : Nat} {x : Int32} (hd : decode μ.2.1 pc = .ok (.bastore, 1)) (h : MdAt G hh k a v) (hi : i < 2) (k1 : ∀ hh1, MdAt G hh1 k (va_up a 6 (upd (a 6) i (vp_nar .boolean x))) v → Fr k (k + 11) hh hh1 → RR G μ (pc + 1) lv st hh1 Q) : RR G μ pc lv (.int x :: .int (nI i) :: .ref (ad G (k + 4)) :: st) hh Q := Md_ast6 hd h (vp_in_nI hi (by decide)) (fun hh1 h1 hF => k1 hh1 (by rw [nI_clamp (by omega)] at h1; exact h1) hF)
theorem Md_ast7N {G : GG} {μ : MI} {pc : Nat} {lv : List (Nat × Value)} {st : List Value} {hh : HH} {Q : QQ} {k : Nat} {a : AA} {v : VV} {i : Nat} {x : Int32} (hd : decode μ.2.1 pc = .ok (.iastore, 1)) (h : MdAt G hh k a v) (hi : i < 200) (k1 : ∀ hh1, MdAt G hh1 k (va_up a 7 (upd (a 7) i x)) v → Fr k (k + 11) hh hh1 → RR G μ (pc + 1) lv st hh1 Q) : RR G μ pc lv (.int x :: .int (nI i) :: .ref (ad G (k + 5)) :: st) hh Q := Md_ast7 hd h (vp_in_nI hi (by decide)) (fun hh1 h1 hF => k1 hh1 (by rw [nI_clamp (by omega)] at h1; exact h1) hF)
theorem Md_ast9N {G : GG} {μ : MI} {pc : Nat} {lv : List (Nat × Value)} {st : List Value} {hh : HH} {Q : QQ} {k : Nat} {a : AA} {v : VV} {i : Nat} {x : Int32} (hd : decode μ.2.1 pc = .ok (.iastore, 1)) (h : MdAt G hh k a v) (hi : i < 3) (k1 : ∀ hh1, MdAt G hh1 k (va_up a 9 (upd (a 9) i x)) v → Fr k (k + 11) hh hh1 → RR G μ (pc + 1) lv st hh1 Q) : RR G μ pc lv (.int x :: .int (nI i) :: .ref (ad G (k + 6)) :: st) hh Q := Md_ast9 hd h (vp_in_nI hi (by decide)) (fun hh1 h1 hF => k1 hh1 (by rw [nI_clamp (by omega)] at h1; exact h1) hF)
theorem Md_ast10N {G : GG} {μ : MI} {pc : Nat} {lv : List (Nat × Value)} {st : List Value} {hh : HH} {Q : QQ} {k : Nat} {a : AA} {v : VV} {i : Nat} {x : Int32} (hd : decode μ.2.1 pc = .ok (.iastore, 1)) (h : MdAt G hh k a v) (hi : i < 120) (k1 : ∀ hh1, MdAt G hh1 k (va_up a 10 (upd (a 10) i x)) v → Fr k (k + 11) hh hh1 → RR G μ (pc + 1) lv st hh1 Q) : RR G μ pc lv (.int x :: .int (nI i) :: .ref (ad G (k + 7)) :: st) hh Q := Md_ast10 hd h (vp_in_nI hi (by decide)) (fun hh1 h1 hF => k1 hh1 (by rw [nI_clamp (by omega)] at h1; exact h1) hF)
theorem Md_ast16N {G : GG} {μ : MI} {pc : Nat} {lv : List (Nat × Value)} {st : List Value} {hh : HH} {Q : QQ} {k : Nat} {a : AA} {v : VV} {i : Nat} {x : Int32} (hd : decode μ.2.1 pc = .ok (.iastore, 1)) (h : MdAt G hh k a v) (hi : i < 2) (k1 : ∀ hh1, MdAt G hh1 k (va_up a 16 (upd (a 16) i x)) v → Fr k (k + 11) hh hh1 → RR G μ (pc + 1) lv st hh1 Q) : RR G μ pc lv (.int x :: .int (nI i) :: .ref (ad G (k + 8)) :: st) hh Q := Md_ast16 hd h (vp_in_nI hi (by decide)) (fun hh1 h1 hF => k1 hh1 (by rw [nI_clamp (by omega)] at h1; exact h1) hF)
theorem Md_ast17N {G : GG} {μ : MI} {pc : Nat} {lv : List (Nat × Value)} {st : List Value} {hh : HH} {Q : QQ} {k : Nat} {a : AA} {v : VV} {i : Nat} {x : Int32} (hd : decode μ.2.1 pc = .ok (.iastore, 1)) (h : MdAt G hh k a v) (hi : i < 54) (k1 : ∀ hh1, MdAt G hh1 k (va_up a 17 (upd (a 17) i x)) v → Fr k (k + 11) hh hh1 → RR G μ (pc + 1) lv st hh1 Q) : RR G μ pc lv (.int x :: .int (nI i) :: .ref (ad G (k + 9)) :: st) hh Q := Md_ast17 hd h (vp_in_nI hi (by decide)) (fun hh1 h1 hF => k1 hh1 (by rw [nI_clamp (by omega)] at h1; exact h1) hF)
theorem Md_ast18N {G : GG} {μ : MI} {pc : Nat} {lv : List (Nat × Value)} {st : List Value} {hh : HH} {Q : QQ} {k : Nat} {a : AA} {v : VV} {i : Nat} {x : Int32} (hd : decode μ.2.1 pc = .ok (.iastore, 1)) (h : MdAt G hh k a v) (hi : i < 140) (k1 : ∀ hh1, MdAt G hh1 k (va_up a 18 (upd (a 18) i x)) v → Fr k (k + 11) hh hh1 → RR G μ (pc + 1) lv st hh1 Q) : RR G μ pc lv (.int x :: .int (nI i) :: .ref (ad G (k + 10)) :: st) hh Q := Md_ast18 hd h (vp_in_nI hi (by decide)) (fun hh1 h1 hF => k1 hh1 (by rw [nI_clamp (by omega)] at h1; exact h1) hF)
theorem cmp_lt (x y : Int64) : (lg_cmp x y < 0) ↔ x.toInt < y.toInt := by
  have := lg_cmp_ge x y
  rw [Int64.le_iff_toInt_le] at this
  rw [← Int32.not_le, this]
  omega
theorem cmp_gt (x y : Int64) : (0 < lg_cmp x y) ↔ y.toInt < x.toInt := by
  unfold lg_cmp
  by_cases h : x > y
  · rw [if_pos h]
    have := Int64.lt_iff_toInt_lt.mp h
    exact ⟨fun _ => this, fun _ => by decide⟩
  · rw [if_neg h]
    have h1 : ¬ y.toInt < x.toInt := fun q => h (Int64.lt_iff_toInt_lt.mpr q)
    by_cases e : x = y
    · rw [if_pos e]; exact ⟨fun q => absurd q (by decide), fun q => absurd q h1⟩
    · rw [if_neg e]; exact ⟨fun q => absurd q (by decide), fun q => absurd q h1⟩
theorem bl_eq1 {b : Bool} (h : b = true) : (1 : Int32) = bl b := by rw [h]; rfl
theorem bl_eq0 {b : Bool} (h : b = false) : (0 : Int32) = bl b := by rw [h]; rfl
def inB (x lo hi : Int) : Bool := decide (lo ≤ x ∧ x ≤ hi)
set_option maxRecDepth 4000 in
theorem e_in (G : GG) (hh : HH) (x lo hi : Int64) : EVp G mX5_in [.long x, .long lo, .long hi] hh (bl (inB x.toInt lo.toInt hi.toInt)) := by
  refine EV.of [(0, .long x), (2, .long lo), (4, .long hi)] (by decide +kernel) (Nat.le_of_ble_eq_true rfl) rfl ?_
  refine R_lload_n dX5_in_0 rfl ?_
  refine R_lload_n dX5_in_1 rfl ?_
  refine R_lcmp dX5_in_2 ?_
  refine R_if_lt (tgt := 17) dX5_in_3 (by decide) (fun c3 => ?_) (fun c3 => ?_)
  · rw [cmp_lt] at c3
    refine R_iconst (v := 0) dX5_in_17 (by decide) ?_
    exact R_zret dX5_in_18 rfl (by first | exact Or.inl rfl | exact Or.inr rfl | assumption | exact bl01 _ | omega) (⟨_, rfl, by first | exact bl_eq0 (decide_eq_false (by omega)) | exact bl_eq1 (decide_eq_true (by omega)), rfl⟩)
  · rw [cmp_lt] at c3
    refine R_lload_n dX5_in_6 rfl ?_
    refine R_lload dX5_in_7 rfl ?_
    refine R_lcmp dX5_in_9 ?_
    refine R_if_gt (tgt := 17) dX5_in_10 (by decide) (fun c10 => ?_) (fun c10 => ?_)
    · rw [cmp_gt] at c10
      refine R_iconst (v := 0) dX5_in_17 (by decide) ?_
      exact R_zret dX5_in_18 rfl (by first | exact Or.inl rfl | exact Or.inr rfl | assumption | exact bl01 _ | omega) (⟨_, rfl, by first | exact bl_eq0 (decide_eq_false (by omega)) | exact bl_eq1 (decide_eq_true (by omega)), rfl⟩)
    · rw [cmp_gt] at c10
      refine R_iconst (v := 1) dX5_in_13 (by decide) ?_
      refine R_goto (tgt := 18) dX5_in_14 (by decide) ?_
      exact R_zret dX5_in_18 rfl (by first | exact Or.inl rfl | exact Or.inr rfl | assumption | exact bl01 _ | omega) (⟨_, rfl, by first | exact bl_eq0 (decide_eq_false (by omega)) | exact bl_eq1 (decide_eq_true (by omega)), rfl⟩)
set_option maxRecDepth 4000 in
theorem e_has (G : GG) (hh : HH) (x j : Int32) : EVp G mX5_has [.int x, .int j] hh (bl (hasB x j)) := by
  refine EV.of [(0, .int x), (1, .int j)] (by decide +kernel) (Nat.le_of_ble_eq_true rfl) rfl ?_
  refine R_iload_n dX5_has_0 rfl ?_
  refine R_iload_n dX5_has_1 rfl ?_
  refine R_ishr dX5_has_2 ?_
  refine R_iconst (v := 1) dX5_has_3 (by decide) ?_
  refine R_iand dX5_has_4 ?_
  refine R_iconst (v := 1) dX5_has_5 (by decide) ?_
  refine R_icmp_ne (tgt := 13) dX5_has_6 (by decide) (fun c6 => ?_) (fun c6 => ?_)
  · refine R_iconst (v := 0) dX5_has_13 (by decide) ?_
    exact R_zret dX5_has_14 rfl (by first | exact Or.inl rfl | exact Or.inr rfl | assumption | exact bl01 _ | omega) (⟨_, rfl, by simp_all [bl, hasB], rfl⟩)
  · refine R_iconst (v := 1) dX5_has_9 (by decide) ?_
    refine R_goto (tgt := 14) dX5_has_10 (by decide) ?_
    exact R_zret dX5_has_14 rfl (by first | exact Or.inl rfl | exact Or.inr rfl | assumption | exact bl01 _ | omega) (⟨_, rfl, by simp_all [bl, hasB], rfl⟩)
theorem e_inI (G : GG) (hh : HH) (x : Int32) {lo hi : Int64} {l r : Int} (hl : lo.toInt = l) (hr : hi.toInt = r) : EVp G mX5_in [.long x.toInt64, .long lo, .long hi] hh (bl (inB x.toInt l r)) := by
  have := e_in G hh x.toInt64 lo hi
  rw [hl, hr, Int32.toInt_toInt64] at this
  exact this
set_option maxRecDepth 4000 in
theorem m_isSmall (G : GG) (hh : HH) (x : Int32) : EVp G mX5_isSmall [.int x] hh (bl (inB x.toInt 97 122)) := by
  refine EV.of [(0, .int x)] (by decide +kernel) (Nat.le_of_ble_eq_true rfl) rfl ?_
  refine R_iload_n dX5_isSmall_0 rfl ?_
  refine R_i2l dX5_isSmall_1 ?_
  refine R_ldc2 dX5_isSmall_2 kc_X5_64 ?_
  refine R_ldc2 dX5_isSmall_5 kc_X5_66 ?_
  refine R_callSp (w := bl (inB x.toInt 97 122)) dX5_isSmall_8 cs_X5_57 ⟨by decide, by decide⟩ (e_inI G hh x (lo := 97) (hi := 122) rfl rfl) rfl rfl (Nat.le_of_ble_eq_true rfl) ?_
  exact R_zret dX5_isSmall_11 rfl (by first | exact Or.inl rfl | exact Or.inr rfl | assumption | exact bl01 _ | omega) (⟨_, rfl, rfl, rfl⟩)
set_option maxRecDepth 4000 in
theorem m_isDigit (G : GG) (hh : HH) (x : Int32) : EVp G mX5_isDigit [.int x] hh (bl (inB x.toInt 48 57)) := by
  refine EV.of [(0, .int x)] (by decide +kernel) (Nat.le_of_ble_eq_true rfl) rfl ?_
  refine R_iload_n dX5_isDigit_0 rfl ?_
  refine R_i2l dX5_isDigit_1 ?_
  refine R_ldc2 dX5_isDigit_2 kc_X5_68 ?_
  refine R_ldc2 dX5_isDigit_5 kc_X5_70 ?_
  refine R_callSp (w := bl (inB x.toInt 48 57)) dX5_isDigit_8 cs_X5_57 ⟨by decide, by decide⟩ (e_inI G hh x (lo := 48) (hi := 57) rfl rfl) rfl rfl (Nat.le_of_ble_eq_true rfl) ?_
  exact R_zret dX5_isDigit_11 rfl (by first | exact Or.inl rfl | exact Or.inr rfl | assumption | exact bl01 _ | omega) (⟨_, rfl, rfl, rfl⟩)
set_option maxRecDepth 4000 in
theorem m_isSubject (G : GG) (hh : HH) (x : Int32) : EVp G mX5_isSubject [.int x] hh (bl (inB x.toInt 0 4)) := by
  refine EV.of [(0, .int x)] (by decide +kernel) (Nat.le_of_ble_eq_true rfl) rfl ?_
  refine R_iload_n dX5_isSubject_0 rfl ?_
  refine R_i2l dX5_isSubject_1 ?_
  refine R_lconst (v := 0) dX5_isSubject_2 (by decide) ?_
  refine R_ldc2 dX5_isSubject_3 kc_X5_91 ?_
  refine R_callSp (w := bl (inB x.toInt 0 4)) dX5_isSubject_6 cs_X5_57 ⟨by decide, by decide⟩ (e_inI G hh x (lo := 0) (hi := 4) rfl rfl) rfl rfl (Nat.le_of_ble_eq_true rfl) ?_
  exact R_zret dX5_isSubject_9 rfl (by first | exact Or.inl rfl | exact Or.inr rfl | assumption | exact bl01 _ | omega) (⟨_, rfl, rfl, rfl⟩)
set_option maxRecDepth 4000 in
theorem m_isParty (G : GG) (hh : HH) (x : Int32) : EVp G mX5_isParty [.int x] hh (bl (inB x.toInt 0 9)) := by
  refine EV.of [(0, .int x)] (by decide +kernel) (Nat.le_of_ble_eq_true rfl) rfl ?_
  refine R_iload_n dX5_isParty_0 rfl ?_
  refine R_i2l dX5_isParty_1 ?_
  refine R_lconst (v := 0) dX5_isParty_2 (by decide) ?_
  refine R_ldc2 dX5_isParty_3 kc_X5_171 ?_
  refine R_callSp (w := bl (inB x.toInt 0 9)) dX5_isParty_6 cs_X5_57 ⟨by decide, by decide⟩ (e_inI G hh x (lo := 0) (hi := 9) rfl rfl) rfl rfl (Nat.le_of_ble_eq_true rfl) ?_
  exact R_zret dX5_isParty_9 rfl (by first | exact Or.inl rfl | exact Or.inr rfl | assumption | exact bl01 _ | omega) (⟨_, rfl, rfl, rfl⟩)
set_option maxRecDepth 4000 in
theorem m_isSlip (G : GG) (hh : HH) (x : Int32) : EVp G mX5_isSlip [.int x] hh (bl (inB x.toInt 0 2)) := by
  refine EV.of [(0, .int x)] (by decide +kernel) (Nat.le_of_ble_eq_true rfl) rfl ?_
  refine R_iload_n dX5_isSlip_0 rfl ?_
  refine R_i2l dX5_isSlip_1 ?_
  refine R_lconst (v := 0) dX5_isSlip_2 (by decide) ?_
  refine R_ldc2 dX5_isSlip_3 kc_X5_208 ?_
  refine R_callSp (w := bl (inB x.toInt 0 2)) dX5_isSlip_6 cs_X5_57 ⟨by decide, by decide⟩ (e_inI G hh x (lo := 0) (hi := 2) rfl rfl) rfl rfl (Nat.le_of_ble_eq_true rfl) ?_
  exact R_zret dX5_isSlip_9 rfl (by first | exact Or.inl rfl | exact Or.inr rfl | assumption | exact bl01 _ | omega) (⟨_, rfl, rfl, rfl⟩)
theorem pred_toInt {n : Nat} (hn : n ≤ 1000) : (nI n - 1).toInt64.toInt = (n : Int) - 1 := by
  rw [Int32.toInt_toInt64]
  exact pk_sub_toInt (b := 1) (by omega) (by decide)
set_option maxRecDepth 4000 in
theorem m_isJudge (G : GG) (hh : HH) {k : Nat} {a : AA} {v : VV} (h : MdAt G hh k a v) {n : Nat} (hn : n ≤ 6) (hv : v 1 = nI n) (j : Int32) : EVp G mX5_isJudge [.ref (ad G k), .int j] hh (bl (inB j.toInt 0 ((n : Int) - 1))) := by
  refine EV.of [(0, .ref (ad G k)), (1, .int j)] (by decide +kernel) (Nat.le_of_ble_eq_true rfl) rfl ?_
  refine R_iload_n dX5_isJudge_0 rfl ?_
  refine R_i2l dX5_isJudge_1 ?_
  refine R_lconst (v := 0) dX5_isJudge_2 (by decide) ?_
  refine R_aload_n dX5_isJudge_3 rfl ?_
  refine R_get dX5_isJudge_4 gf_X5_48 h.1 rfl ?_
  refine RR.top (y := nI n) hv ?_
  refine R_iconst (v := 1) dX5_isJudge_7 (by decide) ?_
  refine R_isub dX5_isJudge_8 ?_
  refine R_i2l dX5_isJudge_9 ?_
  refine R_callSp dX5_isJudge_10 cs_X5_57 ⟨by decide, by decide⟩ (e_inI G hh j (lo := 0) (hi := (nI n - 1).toInt64) rfl (pred_toInt (by omega))) rfl rfl (Nat.le_of_ble_eq_true rfl) ?_
  exact R_zret dX5_isJudge_13 rfl (by first | exact Or.inl rfl | exact Or.inr rfl | assumption | exact bl01 _ | omega) (⟨_, rfl, rfl, rfl⟩)
set_option maxRecDepth 4000 in
theorem m_isCase (G : GG) (hh : HH) {k : Nat} {a : AA} {v : VV} (h : MdAt G hh k a v) {m : Nat} (hm : m ≤ 20) (hc : a 0 3 = nI m) (j : Int32) : EVp G mX5_isCase [.ref (ad G k), .int j] hh (bl (inB j.toInt 0 ((m : Int) - 1))) := by
  refine EV.of [(0, .ref (ad G k)), (1, .int j)] (by decide +kernel) (Nat.le_of_ble_eq_true rfl) rfl ?_
  refine R_iload_n dX5_isCase_0 rfl ?_
  refine R_i2l dX5_isCase_1 ?_
  refine R_lconst (v := 0) dX5_isCase_2 (by decide) ?_
  refine R_aload_n dX5_isCase_3 rfl ?_
  refine R_get dX5_isCase_4 gf_X5_7 h.1 rfl ?_
  refine R_iconst (v := 3) dX5_isCase_7 (by decide) ?_
  refine R_ialdN dX5_isCase_8 h.a0 (by decide) (by decide) ?_
  refine RR.top (y := nI m) hc ?_
  refine R_iconst (v := 1) dX5_isCase_9 (by decide) ?_
  refine R_isub dX5_isCase_10 ?_
  refine R_i2l dX5_isCase_11 ?_
  refine R_callSp dX5_isCase_12 cs_X5_57 ⟨by decide, by decide⟩ (e_inI G hh j (lo := 0) (hi := (nI m - 1).toInt64) rfl (pred_toInt (by omega))) rfl rfl (Nat.le_of_ble_eq_true rfl) ?_
  exact R_zret dX5_isCase_15 rfl (by first | exact Or.inl rfl | exact Or.inr rfl | assumption | exact bl01 _ | omega) (⟨_, rfl, rfl, rfl⟩)
set_option maxRecDepth 4000 in
theorem m_turned (G : GG) (hh : HH) (x : Int32) : EVp G mX5_turned [.int x] hh (tw x) := by
  refine EV.of [(0, .int x)] (by decide +kernel) (Nat.le_of_ble_eq_true rfl) rfl ?_
  refine R_iload_n dX5_turned_0 rfl ?_
  refine R_istore_n dX5_turned_1 (by decide) ?_
  refine R_iload_n dX5_turned_2 rfl ?_
  refine R_iload_n dX5_turned_3 rfl ?_
  refine R_bipush (v := 13) dX5_turned_4 (by decide) ?_
  refine R_ishl dX5_turned_6 ?_
  refine R_ixor dX5_turned_7 ?_
  refine R_istore_n dX5_turned_8 (by decide) ?_
  refine R_iload_n dX5_turned_9 rfl ?_
  refine R_iload_n dX5_turned_10 rfl ?_
  refine R_bipush (v := 17) dX5_turned_11 (by decide) ?_
  refine R_iushr dX5_turned_13 ?_
  refine R_ixor dX5_turned_14 ?_
  refine R_istore_n dX5_turned_15 (by decide) ?_
  refine R_iload_n dX5_turned_16 rfl ?_
  refine R_iload_n dX5_turned_17 rfl ?_
  refine R_iconst (v := 5) dX5_turned_18 (by decide) ?_
  refine R_ishl dX5_turned_19 ?_
  refine R_ixor dX5_turned_20 ?_
  refine R_istore_n dX5_turned_21 (by decide) ?_
  refine R_iload_n dX5_turned_22 rfl ?_
  exact R_iret dX5_turned_23 rfl (⟨_, rfl, rfl, rfl⟩)
def cpR (r : Nat → Int32) (x y n : Nat) : Nat → Int32 := fun j => if y ≤ j ∧ j < y + n then r (x + (j - y)) else r j
theorem cpR_0 (r : Nat → Int32) (x y : Nat) : cpR r x y 0 = r := by
  funext j; unfold cpR; rw [if_neg (by omega)]
theorem cpR_s {r : Nat → Int32} {x y n : Nat} (h : x + n < y ∨ y + n ≤ x) : upd (cpR r x y n) (y + n) (cpR r x y n (x + n)) = cpR r x y (n + 1) := by
  funext j
  unfold upd cpR
  by_cases e : j = y + n
  · subst e
    rw [if_pos rfl, if_neg (by omega), if_pos (by omega), show y + n - y = n by omega]
  · rw [if_neg e]
    by_cases q : y ≤ j ∧ j < y + n
    · rw [if_pos q, if_pos (by omega)]
    · rw [if_neg q, if_neg (by omega)]
theorem MdAt.cg {G : GG} {hh : HH} {k : Nat} {a a' : AA} {v v' : VV} (h : MdAt G hh k a v) (ha : a = a') (hv : v = v') : MdAt G hh k a' v' := by subst ha; subst hv; exact h
set_option maxRecDepth 4000 in
theorem l_copyRow (G : GG) (hh0 : HH) {k : Nat} {a : AA} {v : VV} {x y : Nat} (hx : x + 77 ≤ 1001) (hy : y + 77 ≤ 1001) (hxy : x + 77 ≤ y ∨ y + 77 ≤ x) : ∀ (d i : Nat) (hh : HH), i + d = 77 → MdAt G hh k (va_up a 0 (cpR (a 0) x y i)) v → Fr k (k + 11) hh0 hh → RR G mX5_copyRow 2 [(0, .ref (ad G k)), (1, .int (nI x)), (2, .int (nI y)), (3, .int (nI i))] [] hh (fun r h1 => r = none ∧ (MdAt G h1 k (va_up a 0 (cpR (a 0) x y 77)) v ∧ Fr k (k + 11) hh0 h1)) := by
  intro d
  induction d with
  | zero =>
    intro i hh hi h hF
    refine R_iload_n dX5_copyRow_2 rfl ?_
    refine R_bipush (v := 77) dX5_copyRow_3 (by decide) ?_
    refine R_icmp_ge (tgt := 30) dX5_copyRow_5 (by decide) (fun c5 => ?_) (fun c5 => absurd (nI_le (a := 77) (by omega) (by omega)) c5)
    exact R_vret dX5_copyRow_30 rfl (by (have e : i = 77 := by omega); (subst e); exact ⟨rfl, h, hF⟩)
  | succ d ih =>
    intro i hh hi h hF
    refine R_iload_n dX5_copyRow_2 rfl ?_
    refine R_bipush (v := 77) dX5_copyRow_3 (by decide) ?_
    refine R_icmp_ge (tgt := 30) dX5_copyRow_5 (by decide) (fun c5 => absurd c5 (nI_ge (b := 77) (by omega) (by omega))) (fun c5 => ?_)
    refine R_aload_n dX5_copyRow_8 rfl ?_
    refine R_get dX5_copyRow_9 gf_X5_7 h.1 rfl ?_
    refine R_iload_n dX5_copyRow_12 rfl ?_
    refine R_iload_n dX5_copyRow_13 rfl ?_
    refine R_iadd dX5_copyRow_14 ?_
    refine RR.top (y := nI (y + i)) (nI_add (y) (i)) ?_
    refine R_aload_n dX5_copyRow_15 rfl ?_
    refine R_get dX5_copyRow_16 gf_X5_7 h.1 rfl ?_
    refine R_iload_n dX5_copyRow_19 rfl ?_
    refine R_iload_n dX5_copyRow_20 rfl ?_
    refine R_iadd dX5_copyRow_21 ?_
    refine RR.top (y := nI (x + i)) (nI_add (x) (i)) ?_
    refine R_ialdN dX5_copyRow_22 h.a0 (by omega) (by decide) ?_
    refine Md_ast0N dX5_copyRow_23 h (by omega) (fun hh h hF1 => ?_)
    have hF := hF.tr hF1 (by omega) (by omega)
    refine R_iinc (y := nI (i + 1)) dX5_copyRow_24 rfl (by decide) (nI_s (i)) ?_
    refine R_goto (tgt := 2) dX5_copyRow_27 (by decide) ?_
    have h := h.cg (a' := va_up a 0 (cpR (a 0) x y (i + 1))) (by rw [bx_uu, ← cpR_s (show x + i < y ∨ y + i ≤ x by omega)]; rfl) rfl
    exact RR.pick [1, 2, 3, 0] rfl (ih (i + 1) hh (by omega) h hF)
set_option maxRecDepth 4000 in
theorem m_copyRow (G : GG) (hh : HH) {k : Nat} {a : AA} {v : VV} (h : MdAt G hh k a v) (x y : Nat) (hx : x + 77 ≤ 1001) (hy : y + 77 ≤ 1001) (hxy : x + 77 ≤ y ∨ y + 77 ≤ x) : EVv G mX5_copyRow [.ref (ad G k), .int (nI x), .int (nI y)] hh (fun h1 => MdAt G h1 k (va_up a 0 (cpR (a 0) x y 77)) v ∧ Fr k (k + 11) hh h1) := by
  refine EV.of [(0, .ref (ad G k)), (1, .int (nI x)), (2, .int (nI y))] (by decide +kernel) (Nat.le_of_ble_eq_true rfl) rfl ?_
  refine R_iconst (v := 0) dX5_copyRow_0 (by decide) ?_
  refine R_istore_n dX5_copyRow_1 (by decide) ?_
  exact RR.pick [1, 2, 3, 0] rfl (l_copyRow G hh hx hy hxy 77 0 hh (by omega) (h.cg (by rw [cpR_0]; funext j; simp only [va_up]; split <;> simp_all) rfl) Fr.rf)
def zrF (r : Nat → Int32) (y n : Nat) : Nat → Int32 := fun j => if y ≤ j ∧ j < y + n then 0 else r j
theorem zrF_0 (r : Nat → Int32) (y : Nat) : zrF r y 0 = r := by funext j; unfold zrF; rw [if_neg (by omega)]
theorem zrF_s (r : Nat → Int32) (y n : Nat) : upd (zrF r y n) (y + n) 0 = zrF r y (n + 1) := by
  funext j
  unfold upd zrF
  by_cases e : j = y + n
  · subst e; rw [if_pos rfl, if_pos (by omega)]
  · rw [if_neg e]
    by_cases q : y ≤ j ∧ j < y + n
    · rw [if_pos q, if_pos (by omega)]
    · rw [if_neg q, if_neg (by omega)]
def anR (r : Nat → Int32) : Nat → Int32 := zrF (upd r 4 0) 5 6
def seR (r : Nat → Int32) (B : Nat) (s : Int32) : Nat → Int32 := zrF (upd (upd (upd (upd r B s) (B + 1) s) (B + 2) 0) (B + 3) 0) (B + 11) 6
theorem va_up_idA (a : AA) : a = va_up a 0 (a 0) := by funext j; simp only [va_up]; split <;> simp_all
set_option maxRecDepth 4000 in
theorem l_anew (G : GG) (hh0 : HH) {k : Nat} {a : AA} {v : VV} {rr : Nat → Int32}  : ∀ (d i : Nat) (hh : HH), i + d = 6 → MdAt G hh k (va_up a 0 (zrF rr (5) i)) v → Fr k (k + 11) hh0 hh → RR G mX5_anew 19 [(0, .ref (ad G k)), (1, .int (nI i))] [] hh (fun r h1 => r = none ∧ (MdAt G h1 k (va_up a 0 (zrF rr (5) 6)) v ∧ Fr k (k + 11) hh0 h1)) := by
  intro d
  induction d with
  | zero =>
    intro i hh hi h hF
    refine R_iload_n dX5_anew_19 rfl ?_
    refine R_bipush (v := 6) dX5_anew_20 (by decide) ?_
    refine R_icmp_ge (tgt := 40) dX5_anew_22 (by decide) (fun c22 => ?_) (fun c22 => absurd (nI_le (a := 6) (by omega) (by omega)) c22)
    exact R_vret dX5_anew_40 rfl (by (have e : i = 6 := by omega); (subst e); exact ⟨rfl, h, hF⟩)
  | succ d ih =>
    intro i hh hi h hF
    refine R_iload_n dX5_anew_19 rfl ?_
    refine R_bipush (v := 6) dX5_anew_20 (by decide) ?_
    refine R_icmp_ge (tgt := 40) dX5_anew_22 (by decide) (fun c22 => absurd c22 (nI_ge (b := 6) (by omega) (by omega))) (fun c22 => ?_)
    refine R_aload_n dX5_anew_25 rfl ?_
    refine R_get dX5_anew_26 gf_X5_7 h.1 rfl ?_
    refine R_iconst (v := 5) dX5_anew_29 (by decide) ?_
    refine R_iload_n dX5_anew_30 rfl ?_
    refine R_iadd dX5_anew_31 ?_
    refine RR.top (y := nI (5 + i)) (nI_add (5) (i)) ?_
    refine R_iconst (v := 0) dX5_anew_32 (by decide) ?_
    refine Md_ast0N dX5_anew_33 h (by omega) (fun hh h hF1 => ?_)
    have hF := hF.tr hF1 (by omega) (by omega)
    refine R_iinc (y := nI (i + 1)) dX5_anew_34 rfl (by decide) (nI_s (i)) ?_
    refine R_goto (tgt := 19) dX5_anew_37 (by decide) ?_
    have h := h.cg (a' := va_up a 0 (zrF rr (5) (i + 1))) (by rw [bx_uu, ← zrF_s]; rfl) rfl
    exact RR.pick [1, 0] rfl (ih (i + 1) hh (by omega) h hF)
set_option maxRecDepth 4000 in
theorem m_anew (G : GG) (hh : HH) {k : Nat} {a : AA} {v : VV} (h : MdAt G hh k a v) : EVv G mX5_anew [.ref (ad G k)] hh (fun h1 => MdAt G h1 k (va_up a 0 (anR (a 0))) (va_up (va_up v 1 0) 2 0) ∧ Fr k (k + 11) hh h1) := by
  refine EV.of [(0, .ref (ad G k))] (by decide +kernel) (Nat.le_of_ble_eq_true rfl) rfl ?_
  have hF : Fr k (k + 11) hh hh := Fr.rf
  refine R_aload_n dX5_anew_0 rfl ?_
  refine R_iconst (v := 0) dX5_anew_1 (by decide) ?_
  refine Md_put1 dX5_anew_2 pf_X5_48 h (fun hh h hF1 => ?_)
  have hF := hF.tr hF1 (by omega) (by omega)
  refine R_aload_n dX5_anew_5 rfl ?_
  refine R_iconst (v := 0) dX5_anew_6 (by decide) ?_
  refine Md_put2 dX5_anew_7 pf_X5_52 h (fun hh h hF1 => ?_)
  have hF := hF.tr hF1 (by omega) (by omega)
  refine R_aload_n dX5_anew_10 rfl ?_
  refine R_get dX5_anew_11 gf_X5_7 h.1 rfl ?_
  refine R_iconst (v := 4) dX5_anew_14 (by decide) ?_
  refine R_iconst (v := 0) dX5_anew_15 (by decide) ?_
  refine Md_ast0N dX5_anew_16 h (by decide) (fun hh h hF1 => ?_)
  have hF := hF.tr hF1 (by omega) (by omega)
  refine R_iconst (v := 0) dX5_anew_17 (by decide) ?_
  refine R_istore_n dX5_anew_18 (by decide) ?_
  exact RR.pick [1, 0] rfl (l_anew G _ (a := a) (rr := upd (a 0) 4 0) 6 0 hh (by omega) (h.cg (by rw [zrF_0]) rfl) hF)
set_option maxRecDepth 4000 in
theorem l_sealAt (G : GG) (hh0 : HH) {k : Nat} {a : AA} {v : VV} {rr : Nat → Int32} {B : Nat} (hB : B ≤ 924) (s : Int32) : ∀ (d i : Nat) (hh : HH), i + d = 6 → MdAt G hh k (va_up a 0 (zrF rr (B + 11) i)) v → Fr k (k + 11) hh0 hh → RR G mX5_sealAt 38 [(0, .ref (ad G k)), (1, .int (nI B)), (2, .int s), (3, .int (nI i))] [] hh (fun r h1 => r = none ∧ (MdAt G h1 k (va_up a 0 (zrF rr (B + 11) 6)) v ∧ Fr k (k + 11) hh0 h1)) := by
  intro d
  induction d with
  | zero =>
    intro i hh hi h hF
    refine R_iload_n dX5_sealAt_38 rfl ?_
    refine R_bipush (v := 6) dX5_sealAt_39 (by decide) ?_
    refine R_icmp_ge (tgt := 62) dX5_sealAt_41 (by decide) (fun c41 => ?_) (fun c41 => absurd (nI_le (a := 6) (by omega) (by omega)) c41)
    exact R_vret dX5_sealAt_62 rfl (by (have e : i = 6 := by omega); (subst e); exact ⟨rfl, h, hF⟩)
  | succ d ih =>
    intro i hh hi h hF
    refine R_iload_n dX5_sealAt_38 rfl ?_
    refine R_bipush (v := 6) dX5_sealAt_39 (by decide) ?_
    refine R_icmp_ge (tgt := 62) dX5_sealAt_41 (by decide) (fun c41 => absurd c41 (nI_ge (b := 6) (by omega) (by omega))) (fun c41 => ?_)
    refine R_aload_n dX5_sealAt_44 rfl ?_
    refine R_get dX5_sealAt_45 gf_X5_7 h.1 rfl ?_
    refine R_iload_n dX5_sealAt_48 rfl ?_
    refine R_bipush (v := 11) dX5_sealAt_49 (by decide) ?_
    refine R_iadd dX5_sealAt_51 ?_
    refine RR.top (y := nI (B + 11)) (nI_add (B) (11)) ?_
    refine R_iload_n dX5_sealAt_52 rfl ?_
    refine R_iadd dX5_sealAt_53 ?_
    refine RR.top (y := nI ((B + 11) + i)) (nI_add (B + 11) (i)) ?_
    refine R_iconst (v := 0) dX5_sealAt_54 (by decide) ?_
    refine Md_ast0N dX5_sealAt_55 h (by omega) (fun hh h hF1 => ?_)
    have hF := hF.tr hF1 (by omega) (by omega)
    refine R_iinc (y := nI (i + 1)) dX5_sealAt_56 rfl (by decide) (nI_s (i)) ?_
    refine R_goto (tgt := 38) dX5_sealAt_59 (by decide) ?_
    have h := h.cg (a' := va_up a 0 (zrF rr (B + 11) (i + 1))) (by rw [bx_uu, ← zrF_s]; rfl) rfl
    exact RR.pick [1, 2, 3, 0] rfl (ih (i + 1) hh (by omega) h hF)
set_option maxRecDepth 4000 in
theorem m_sealAt (G : GG) (hh : HH) {k : Nat} {a : AA} {v : VV} (h : MdAt G hh k a v) (B : Nat) (hB : B ≤ 924) (s : Int32) : EVv G mX5_sealAt [.ref (ad G k), .int (nI B), .int s] hh (fun h1 => MdAt G h1 k (va_up a 0 (seR (a 0) B s)) v ∧ Fr k (k + 11) hh h1) := by
  refine EV.of [(0, .ref (ad G k)), (1, .int (nI B)), (2, .int s)] (by decide +kernel) (Nat.le_of_ble_eq_true rfl) rfl ?_
  have hF : Fr k (k + 11) hh hh := Fr.rf
  refine R_aload_n dX5_sealAt_0 rfl ?_
  refine R_get dX5_sealAt_1 gf_X5_7 h.1 rfl ?_
  refine R_iload_n dX5_sealAt_4 rfl ?_
  refine R_iconst (v := 0) dX5_sealAt_5 (by decide) ?_
  refine R_iadd dX5_sealAt_6 ?_
  refine RR.top (y := nI (B + 0)) (nI_add (B) (0)) ?_
  refine R_iload_n dX5_sealAt_7 rfl ?_
  refine Md_ast0N dX5_sealAt_8 h (by omega) (fun hh h hF1 => ?_)
  have hF := hF.tr hF1 (by omega) (by omega)
  refine R_aload_n dX5_sealAt_9 rfl ?_
  refine R_get dX5_sealAt_10 gf_X5_7 h.1 rfl ?_
  refine R_iload_n dX5_sealAt_13 rfl ?_
  refine R_iconst (v := 1) dX5_sealAt_14 (by decide) ?_
  refine R_iadd dX5_sealAt_15 ?_
  refine RR.top (y := nI (B + 1)) (nI_add (B) (1)) ?_
  refine R_iload_n dX5_sealAt_16 rfl ?_
  refine Md_ast0N dX5_sealAt_17 h (by omega) (fun hh h hF1 => ?_)
  have hF := hF.tr hF1 (by omega) (by omega)
  refine R_aload_n dX5_sealAt_18 rfl ?_
  refine R_get dX5_sealAt_19 gf_X5_7 h.1 rfl ?_
  refine R_iload_n dX5_sealAt_22 rfl ?_
  refine R_iconst (v := 2) dX5_sealAt_23 (by decide) ?_
  refine R_iadd dX5_sealAt_24 ?_
  refine RR.top (y := nI (B + 2)) (nI_add (B) (2)) ?_
  refine R_iconst (v := 0) dX5_sealAt_25 (by decide) ?_
  refine Md_ast0N dX5_sealAt_26 h (by omega) (fun hh h hF1 => ?_)
  have hF := hF.tr hF1 (by omega) (by omega)
  refine R_aload_n dX5_sealAt_27 rfl ?_
  refine R_get dX5_sealAt_28 gf_X5_7 h.1 rfl ?_
  refine R_iload_n dX5_sealAt_31 rfl ?_
  refine R_iconst (v := 3) dX5_sealAt_32 (by decide) ?_
  refine R_iadd dX5_sealAt_33 ?_
  refine RR.top (y := nI (B + 3)) (nI_add (B) (3)) ?_
  refine R_iconst (v := 0) dX5_sealAt_34 (by decide) ?_
  refine Md_ast0N dX5_sealAt_35 h (by omega) (fun hh h hF1 => ?_)
  have hF := hF.tr hF1 (by omega) (by omega)
  refine R_iconst (v := 0) dX5_sealAt_36 (by decide) ?_
  refine R_istore_n dX5_sealAt_37 (by decide) ?_
  exact RR.pick [1, 2, 3, 0] rfl (l_sealAt G _ (a := a) (rr := upd (upd (upd (upd (a 0) B s) (B + 1) s) (B + 2) 0) (B + 3) 0) hB s 6 0 hh (by omega) (h.cg (by rw [zrF_0, bx_uu, bx_uu, bx_uu]; rfl) rfl) hF)
