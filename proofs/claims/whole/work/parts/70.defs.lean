/-! all cells of the class's object, and of the reference's; what holds between calls -/
abbrev SBk : Type := (Nat → Int32) × Nat × Nat × Nat × Nat × Nat × Nat
abbrev SX : Type := (Int32) × (Nat → Nat) × (Nat → Nat) × (Nat → Nat) × (Nat → Int32) × (Nat) × (Nat) × (Nat → Nat) × (Nat → Nat) × (Nat → Nat) × (Nat → Int32) × (Nat → Int32) × (Nat → Int32) × (Nat → Int32) × (Nat → Nat) × (Nat → Nat) × (Nat → Nat) × (Nat) × (Nat) × (Nat → Int32) × (Nat) × (Nat → Nat) × (Nat → Nat) × (Nat → Nat) × (Nat → Int32) × (Nat → SBk)
abbrev SM : Type := (Nat) × (Nat) × (Nat → Nat) × (Nat → Int32) × (Nat → Nat) × (Nat → Int32) × (Nat → Nat) × (Nat → Nat) × (Nat → Nat) × (Nat → Nat) × (Nat → Nat) × (Nat) × (Nat → Nat) × (Nat) × (Nat) × (Nat)
abbrev wAll (g : Gt) (A : Nat → Nat) (un : Int32) (kX : Nat → Nat) (oX : Nat → Nat) (keX : Nat → Nat) (vaX : Nat → Int32) (n : Nat) (sy : Nat) (c : Nat → Nat) (f : Nat → Nat) (tk : Nat → Nat) (tv : Nat → Int32) (me : Nat → Int32) (ms : Nat → Int32) (dk : Nat → Int32) (ds : Nat → Nat) (du : Nat → Nat) (hdX : Nat → Nat) (hc : Nat) (nx : Nat) (rv : Nat → Int32) (rr : Nat) (cR : Nat → Nat) (fR : Nat → Nat) (tkR : Nat → Nat) (tvR : Nat → Int32) (bk : Nat → SBk) : va_W := [(A 0, .inr (0, [.ref (A 1), .ref (A 6), .ref (A 11), .ref (A 26), .ref (A 17), .ref (A 19), .int un])), (A 1, .inr (1, [.ref (A 2), .ref (A 3), .ref (A 4), .ref (A 5), .int (nI n), .int (nI sy)])), (A 2, .inl (g.2.1, 512, .inl (nF kX))), (A 3, .inl (g.2.1, 512, .inl (nF oX))), (A 4, .inl (g.2.1, 512, .inl (nF keX))), (A 5, .inl (g.2.1, 512, .inl vaX)), (A 6, .inr (2, [.ref (A 7), .ref (A 8), .ref (A 9), .ref (A 10)])), (A 7, .inl (g.2.1, 3, .inl (nF c))), (A 8, .inl (g.2.1, 3, .inl (nF f))), (A 9, .inl (g.2.1, 12, .inl (nF tk))), (A 10, .inl (g.2.1, 12, .inl tv)), (A 11, .inr (3, [.ref (A 12), .ref (A 13), .ref (A 14), .ref (A 15), .ref (A 16)])), (A 12, .inl (g.2.1, 32, .inl me)), (A 13, .inl (g.2.1, 32, .inl ms)), (A 14, .inl (g.2.1, 32, .inl dk)), (A 15, .inl (g.2.1, 8, .inl (nF ds))), (A 16, .inl (g.2.1, 8, .inl (nF du))), (A 17, .inr (5, [.ref (A 18), .int (nI hc), .int (nI nx)])), (A 18, .inl (g.2.2.1, 64, .inl (nF hdX))), (A 19, .inr (6, [.ref (A 20), .ref (A 21), .int (nI rr)])), (A 20, .inl (g.2.1, 32, .inl rv)), (A 21, .inr (2, [.ref (A 22), .ref (A 23), .ref (A 24), .ref (A 25)])), (A 22, .inl (g.2.1, 3, .inl (nF cR))), (A 23, .inl (g.2.1, 3, .inl (nF fR))), (A 24, .inl (g.2.1, 12, .inl (nF tkR))), (A 25, .inl (g.2.1, 12, .inl tvR)), (A 26, .inl (g.2.2.2, 3, .inr (.inr (.inr (.inr (fun j => some (A (27 + 2 * j)))))))), (A 27, .inr (4, [.ref (A 28), .int (nI (bk 0).2.1), .int (nI (bk 0).2.2.1), .int (nI (bk 0).2.2.2.1), .int (nI (bk 0).2.2.2.2.1), .int (nI (bk 0).2.2.2.2.2.1), .int (nI (bk 0).2.2.2.2.2.2)])), (A 28, .inl (g.2.1, 32, .inl (bk 0).1)), (A 29, .inr (4, [.ref (A 30), .int (nI (bk 1).2.1), .int (nI (bk 1).2.2.1), .int (nI (bk 1).2.2.2.1), .int (nI (bk 1).2.2.2.2.1), .int (nI (bk 1).2.2.2.2.2.1), .int (nI (bk 1).2.2.2.2.2.2)])), (A 30, .inl (g.2.1, 32, .inl (bk 1).1)), (A 31, .inr (4, [.ref (A 32), .int (nI (bk 2).2.1), .int (nI (bk 2).2.2.1), .int (nI (bk 2).2.2.2.1), .int (nI (bk 2).2.2.2.2.1), .int (nI (bk 2).2.2.2.2.2.1), .int (nI (bk 2).2.2.2.2.2.2)])), (A 32, .inl (g.2.1, 32, .inl (bk 2).1))]
abbrev wS (g : Gt) (A : Nat → Nat) (s : SX) : va_W := match s with
  | (un, kX, oX, keX, vaX, n, sy, c, f, tk, tv, me, ms, dk, ds, du, hdX, hc, nx, rv, rr, cR, fR, tkR, tvR, bk) => wAll g A un kX oX keX vaX n sy c f tk tv me ms dk ds du hdX hc nx rv rr cR fR tkR tvR bk
abbrev wT (g : Gt) (B : Nat → Nat) (m : SM) : va_W := match m with
  | (n, sy, k, o, ke, va, fl, sg, cp, fs, la, nx, hd, dn, tg, bh) => wM g (B 0) (B 1) (B 2) (B 3) (B 4) (B 5) (B 6) (B 7) (B 8) (B 9) (B 10) n sy k o ke va fl sg cp fs la nx hd dn tg bh
def INV (i : Nat) (s : SX) (m : SM) : Prop := match s, m with
  | (un, kX, oX, keX, vaX, nX, syX, c, f, tk, tv, me, ms, dk, ds, du, hdX, hc, nxX, rv, rr, cR, fR, tkR, tvR, bk), (n, sy, k, o, ke, va, fl, sg, cp, fs, la, nx, hd, dn, tg, bh) =>
    n = nX ∧ sy = syX ∧ nx = nxX ∧ n ≤ i ∧ rLog k o ke va n sy kX oX keX vaX ∧ rTr k o ke va n c f tk tv ∧ rPg k o ke va n sy fl me ms dk ds du ∧ (∀ b, b < 3 → rBk k o ke va sy fl (sg b) (cp b) (fs b) (la b) (bk b).1 (bk b).2.1 (bk b).2.2.1 (bk b).2.2.2.1 (bk b).2.2.2.2.1 (bk b).2.2.2.2.2.1 (bk b).2.2.2.2.2.2) ∧ rUn un sg ∧ rAr sy nx hd hdX hc ∧ rRs k o ke va sy dn tg bh rv rr tkR
/-- one call on both sides: the same answer, and the same things hold behind it -/
def SIM (lL : Launch) (g : Gt) (A B : Nat → Nat) (i : Nat) (s : SX) (m : SM) (yX yM : MethodName) (cX cM : Cond) (av : List Value) : Prop := ∃ (r : Int32) (s' : SX) (m' : SM), Ct lL g yX cX 6 200 (.ref (A 0) :: av) (wS g A s) (exP (some (.int r)) (wS g A s')) ∧ (∃ d z, d ≤ 6 ∧ z ≤ 200 ∧ Ct lL g yM cM d z (.ref (B 0) :: av) (wT g B m) (exP (some (.int r)) (wT g B m'))) ∧ INV (i + 1) s' m'
theorem i32_cs (x : Int32) : x < 0 ∨ ∃ j : Nat, j < 2147483648 ∧ x = nI j := by
  by_cases h : x < 0
  · exact Or.inl h
  · obtain ⟨j, h1, h2⟩ := nI_of h
    exact Or.inr ⟨j, h1, h2⟩
/-- a record more in both logs -/
theorem rLog_add {k : Nat → Nat} {o : Nat → Int32} {ke : Nat → Nat} {va : Nat → Int32} {n sy : Nat} {kX oX keX : Nat → Nat} {vaX : Nat → Int32} (hL : rLog k o ke va n sy kX oX keX vaX) (kd : Nat) (ow : Int32) (ky : Nat) (vl : Int32) (owX kyX : Nat) (vlX : Int32) (h4 : kd < 4) (h3 : kd ≠ 3 → owX < 3 ∧ ow = nI owX) (h0 : kd = 0 → ky < 32 ∧ kyX = ky ∧ vlX = vl) (hb : ∀ t, t < 3 → (buf (va_up k n kd) (upd o n ow) (nI t) (n + 1)).length ≤ 4) :
    rLog (va_up k n kd) (upd o n ow) (va_up ke n ky) (upd va n vl) (n + 1) sy (va_up kX n kd) (va_up oX n owX) (va_up keX n kyX) (upd vaX n vlX) := by
  obtain ⟨l1, l2, l3⟩ := hL
  have ha := agr_add (k := k) (o := o) (ke := ke) (va := va) (n := n) kd ow ky vl
  refine ⟨by omega, fun m hm t ht => ?_, fun i hi => ?_⟩
  · by_cases hmn : m = n + 1
    · rw [hmn]; exact hb t ht
    · rw [(ha.le (show m ≤ n by omega)).buf (nI t)]; exact l2 m (by omega) t ht
  · by_cases hin : i = n
    · subst hin
      rw [va_up_self, va_up_self, va_up_self, pk_us, va_up_self, va_up_self, pk_us, pk_us]
      exact ⟨h4, rfl, h3, h0⟩
    · rw [va_up_ne _ _ hin, va_up_ne _ _ hin, va_up_ne _ _ hin, pk_un hin, va_up_ne _ _ hin, va_up_ne _ _ hin, pk_un hin, pk_un hin]
      exact l3 i (by omega)
