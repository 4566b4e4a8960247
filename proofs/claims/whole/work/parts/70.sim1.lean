/-! all cells of the class's object, and of the reference's; what holds between calls -/
abbrev SBk : Type := (Nat → Int32) × Nat × Nat × Nat × Nat × Nat × Nat
abbrev SX : Type := (Int32) × (Nat → Nat) × (Nat → Nat) × (Nat → Nat) × (Nat → Int32) × (Nat) × (Nat) × (Nat → Nat) × (Nat → Nat) × (Nat → Nat) × (Nat → Int32) × (Nat → Int32) × (Nat → Int32) × (Nat → Int32) × (Nat → Nat) × (Nat → Nat) × (Nat → Nat) × (Nat) × (Nat) × (Nat → Int32) × (Nat) × (Nat → Nat) × (Nat → Nat) × (Nat → Nat) × (Nat → Int32) × (Nat → SBk)
abbrev SM : Type := (Nat) × (Nat) × (Nat → Nat) × (Nat → Int32) × (Nat → Nat) × (Nat → Int32) × (Nat → Nat) × (Nat → Nat) × (Nat → Nat) × (Nat → Nat) × (Nat → Nat) × (Nat) × (Nat → Nat) × (Nat) × (Nat) × (Nat)
abbrev wAll (g : Gt) (A : Nat → Nat) (un : Int32) (kX : Nat → Nat) (oX : Nat → Nat) (keX : Nat → Nat) (vaX : Nat → Int32) (n : Nat) (sy : Nat) (c : Nat → Nat) (f : Nat → Nat) (tk : Nat → Nat) (tv : Nat → Int32) (me : Nat → Int32) (ms : Nat → Int32) (dk : Nat → Int32) (ds : Nat → Nat) (du : Nat → Nat) (hdX : Nat → Nat) (hc : Nat) (nx : Nat) (rv : Nat → Int32) (rr : Nat) (cR : Nat → Nat) (fR : Nat → Nat) (tkR : Nat → Nat) (tvR : Nat → Int32) (bk : Nat → SBk) : va_W := wX g (A 0) (A 1) (A 6) (A 11) (A 26) (A 17) (A 19) un ++ wLog g (A 1) (A 2) (A 3) (A 4) (A 5) kX oX keX vaX n sy ++ wTr g (A 6) (A 7) (A 8) (A 9) (A 10) c f tk tv ++ wPg g (A 11) (A 12) (A 13) (A 14) (A 15) (A 16) me ms dk ds du ++ wAr g (A 17) (A 18) hdX hc nx ++ wRs g (A 19) (A 20) (A 21) rv rr ++ wTr g (A 21) (A 22) (A 23) (A 24) (A 25) cR fR tkR tvR ++ wBA g (A 26) (fun j => A (27 + 2 * j)) ++ wBk g (A 27) (A 28) (bk 0).1 (bk 0).2.1 (bk 0).2.2.1 (bk 0).2.2.2.1 (bk 0).2.2.2.2.1 (bk 0).2.2.2.2.2.1 (bk 0).2.2.2.2.2.2 ++ wBk g (A 29) (A 30) (bk 1).1 (bk 1).2.1 (bk 1).2.2.1 (bk 1).2.2.2.1 (bk 1).2.2.2.2.1 (bk 1).2.2.2.2.2.1 (bk 1).2.2.2.2.2.2 ++ wBk g (A 31) (A 32) (bk 2).1 (bk 2).2.1 (bk 2).2.2.1 (bk 2).2.2.2.1 (bk 2).2.2.2.2.1 (bk 2).2.2.2.2.2.1 (bk 2).2.2.2.2.2.2
abbrev wS (g : Gt) (A : Nat → Nat) (s : SX) : va_W := match s with
  | (un, kX, oX, keX, vaX, n, sy, c, f, tk, tv, me, ms, dk, ds, du, hdX, hc, nx, rv, rr, cR, fR, tkR, tvR, bk) => wAll g A un kX oX keX vaX n sy c f tk tv me ms dk ds du hdX hc nx rv rr cR fR tkR tvR bk
abbrev wT (g : Gt) (B : Nat → Nat) (m : SM) : va_W := match m with
  | (n, sy, k, o, ke, va, fl, sg, cp, fs, la, nx, hd, dn, tg, bh) => wM g (B 0) (B 1) (B 2) (B 3) (B 4) (B 5) (B 6) (B 7) (B 8) (B 9) (B 10) n sy k o ke va fl sg cp fs la nx hd dn tg bh
def INV (i : Nat) (s : SX) (m : SM) : Prop := match s, m with
  | (un, kX, oX, keX, vaX, nX, syX, c, f, tk, tv, me, ms, dk, ds, du, hdX, hc, nxX, rv, rr, cR, fR, tkR, tvR, bk), (n, sy, k, o, ke, va, fl, sg, cp, fs, la, nx, hd, dn, tg, bh) =>
    n = nX ∧ sy = syX ∧ nx = nxX ∧ n ≤ i ∧ rLog k o ke va n sy kX oX keX vaX ∧ rTr k o ke va n c f tk tv ∧ rPg k o ke va n sy fl me ms dk ds du ∧ (∀ b, b < 3 → rBk k o ke va sy fl (sg b) (cp b) (fs b) (la b) (bk b).1 (bk b).2.1 (bk b).2.2.1 (bk b).2.2.2.1 (bk b).2.2.2.2.1 (bk b).2.2.2.2.2.1 (bk b).2.2.2.2.2.2) ∧ rUn un sg ∧ rAr sy nx hd hdX hc ∧ rRs k o ke va sy dn tg bh rv rr tkR
/-- one call on both sides: the same answer, and the same things hold behind it -/
def SIM (lL : Launch) (g : Gt) (A B : Nat → Nat) (i : Nat) (s : SX) (m : SM) (yX yM : MethodName) (cX cM : Cond) (av : List Value) : Prop := ∃ (r : Int32) (s' : SX) (m' : SM), Ct lL g yX cX 6 200 (.ref (A 0) :: av) (wS g A s) (exP (some (.int r)) (wS g A s')) ∧ (∃ d z, d ≤ 6 ∧ z ≤ 200 ∧ Ct lL g yM cM d z (.ref (B 0) :: av) (wT g B m) (exP (some (.int r)) (wT g B m'))) ∧ INV (i + 1) s' m'
theorem i32_cs (x : Int32) : x < 0 ∨ ∃ j : Nat, j < 2147483648 ∧ x = nI j := by
  by_cases h : x < 0
  · exact Or.inl h
  · obtain ⟨j, h1, h2⟩ := nI_of h
    exact Or.inr ⟨j, h1, h2⟩
/-- a record more in both logs -/
theorem rLog_add {k : Nat → Nat} {o : Nat → Int32} {ke : Nat → Nat} {va : Nat → Int32} {n sy : Nat} {kX oX keX : Nat → Nat} {vaX : Nat → Int32} (hL : rLog k o ke va n sy kX oX keX vaX) (kd : Nat) (ow : Int32) (ky : Nat) (vl : Int32) (owX kyX : Nat) (vlX : Int32) (h4 : kd < 4) (h3 : kd ≠ 3 → owX < 3 ∧ ow = nI owX) (h0 : kd = 0 → ky < 32 ∧ kyX = ky ∧ vlX = vl) (hb : ∀ t, t < 3 → (buf (va_up k n kd) (upd o n ow) (nI t) (n + 1)).length ≤ 4) :
    rLog (va_up k n kd) (upd o n ow) (va_up ke n ky) (upd va n vl) (n + 1) sy (va_up kX n kd) (va_up oX n owX) (va_up keX n kyX) (upd vaX n vlX) := by
  obtain ⟨l1, l2, l3⟩ := hL
  have ha := agr_add (k := k) (o := o) (ke := ke) (va := va) (n := n) kd ow ky vl
  refine ⟨by omega, fun m hm t ht => ?_, fun i hi => ?_⟩
  · by_cases hmn : m = n + 1
    · rw [hmn]; exact hb t ht
    · rw [(ha.le (show m ≤ n by omega)).buf (nI t)]; exact l2 m (by omega) t ht
  · by_cases hin : i = n
    · subst hin
      rw [va_up_self, va_up_self, va_up_self, pk_us, va_up_self, va_up_self, pk_us, pk_us]
      exact ⟨h4, rfl, h3, h0⟩
    · rw [va_up_ne _ _ hin, va_up_ne _ _ hin, va_up_ne _ _ hin, pk_un hin, va_up_ne _ _ hin, va_up_ne _ _ hin, pk_un hin, pk_un hin]
      exact l3 i (by omega)
set_option maxRecDepth 20000 in
theorem S_set (lL : Launch) (g : Gt) (A B : Nat → Nat) {i : Nat} {s : SX} {m : SM} (hi : i < 512) (h : INV i s m) (a : Int32) (b : Int32) (v : Int32) : SIM lL g A B i s m y_X_set y_M_set (.code y_X_set b_X_set 4 (some .int)) (.code y_M_set b_M_set 4 (some .int)) [.int a, .int b, .int v] := by
  obtain ⟨un, kX, oX, keX, vaX, nX, syX, c, f, tk, tv, me, ms, dk, ds, du, hdX, hc, nxX, rv, rr, cR, fR, tkR, tvR, bk⟩ := s
  obtain ⟨n, sy, k, o, ke, va, fl, sg, cp, fs, la, nx, hd, dn, tg, bh⟩ := m
  obtain ⟨e1, e2, e3, hni, hL, hT, hP, hB, hU, hR, hZ⟩ := h
  subst e1; subst e2; subst e3
  have hsame : INV (i + 1) (un, kX, oX, keX, vaX, n, sy, c, f, tk, tv, me, ms, dk, ds, du, hdX, hc, nx, rv, rr, cR, fR, tkR, tvR, bk) (n, sy, k, o, ke, va, fl, sg, cp, fs, la, nx, hd, dn, tg, bh) := ⟨rfl, rfl, rfl, by omega, hL, hT, hP, hB, hU, hR, hZ⟩
  have hsn := hL.1
  rcases i32_cs a with ha | ⟨t, ht1, rfl⟩
  · exact ⟨(-1), (un, kX, oX, keX, vaX, n, sy, c, f, tk, tv, me, ms, dk, ds, du, hdX, hc, nx, rv, rr, cR, fR, tkR, tvR, bk), (n, sy, k, o, ke, va, fl, sg, cp, fs, la, nx, hd, dn, tg, bh), (c_X_set_tn lL g (A 0) (A 1) (A 6) (A 11) (A 26) (A 17) (A 19) un a b v ha).frame [0] [1, 2, 3, 4, 5, 6, 7, 8, 9, 10, 11, 12, 13, 14, 15, 16, 17, 18, 19, 20, 21, 22, 23, 24, 25, 26, 27, 28, 29, 30, 31, 32] 33 (by decide) rfl rfl rfl rfl rfl (by decide), ⟨6, 200, by omega, by omega, c_M_set_tn lL g (B 0) (B 1) (B 2) (B 3) (B 4) (B 5) (B 6) (B 7) (B 8) (B 9) (B 10) n sy k o ke va fl sg cp fs la nx hd dn tg bh a b v ha⟩, hsame⟩
  rcases Nat.lt_or_ge t 3 with ht | ht
  · rcases i32_cs b with hb | ⟨ky, hk1, rfl⟩
    · exact ⟨(-1), (un, kX, oX, keX, vaX, n, sy, c, f, tk, tv, me, ms, dk, ds, du, hdX, hc, nx, rv, rr, cR, fR, tkR, tvR, bk), (n, sy, k, o, ke, va, fl, sg, cp, fs, la, nx, hd, dn, tg, bh), (c_X_set_kn lL g (A 0) (A 1) (A 6) (A 11) (A 26) (A 17) (A 19) un t b v (by omega) hb).frame [0] [1, 2, 3, 4, 5, 6, 7, 8, 9, 10, 11, 12, 13, 14, 15, 16, 17, 18, 19, 20, 21, 22, 23, 24, 25, 26, 27, 28, 29, 30, 31, 32] 33 (by decide) rfl rfl rfl rfl rfl (by decide), ⟨6, 200, by omega, by omega, c_M_set_kn lL g (B 0) (B 1) (B 2) (B 3) (B 4) (B 5) (B 6) (B 7) (B 8) (B 9) (B 10) n sy k o ke va fl sg cp fs la nx hd dn tg bh t b v (by omega) hb⟩, hsame⟩
    rcases Nat.lt_or_ge ky 32 with hk | hk
    · obtain ⟨a1, a2, a3, a4, a5⟩ := hT.1 t ht
      have hse : seL k o (nI t) n 0 = c t := by rw [seL_buf, a1, Nat.zero_add]
      by_cases hc4 : c t = 4
      · exact ⟨(-2), (un, kX, oX, keX, vaX, n, sy, c, f, tk, tv, me, ms, dk, ds, du, hdX, hc, nx, rv, rr, cR, fR, tkR, tvR, bk), (n, sy, k, o, ke, va, fl, sg, cp, fs, la, nx, hd, dn, tg, bh), (c_X_set_full lL g (A 0) (A 1) (A 6) (A 11) (A 26) (A 17) (A 19) un (A 2) (A 3) (A 4) (A 5) kX oX keX vaX n sy (A 7) (A 8) (A 9) (A 10) c f tk tv t ky v (by omega) (by omega) (by omega)).frame [0, 1, 2, 3, 4, 5, 6, 7, 8, 9, 10] [11, 12, 13, 14, 15, 16, 17, 18, 19, 20, 21, 22, 23, 24, 25, 26, 27, 28, 29, 30, 31, 32] 33 (by decide) rfl rfl rfl rfl rfl (by decide), ⟨6, 200, by omega, by omega, c_M_set_full lL g (B 0) (B 1) (B 2) (B 3) (B 4) (B 5) (B 6) (B 7) (B 8) (B 9) (B 10) n sy k o ke va fl sg cp fs la nx hd dn tg bh t ky v (by omega) (by omega) (by omega) (fun i hi => (hL.2.2 i (by omega)).1) (by omega)⟩, hsame⟩
      have hL2 := rLog_add hL 0 (nI t) ky v t ky v (by omega) (fun _ => ⟨ht, rfl⟩) (fun _ => ⟨hk, rfl, rfl⟩) (fun u hu => by
        rw [buf_set t u ht hu]
        obtain ⟨b1, b2, -⟩ := hT.1 u hu
        split
        · next hut => subst hut; rw [List.length_append, List.length_singleton]; omega
        · omega)
      rcases Nat.eq_zero_or_pos (c t) with hz | hz
      · exact ⟨(nI (n + 1)), (un, va_up kX n 0, va_up oX n t, va_up keX n ky, upd vaX n v, n + 1, sy, va_up c t (c t + 1), va_up f t n, va_up tk (t * 4 + c t) ky, upd tv (t * 4 + c t) v, me, ms, dk, ds, du, hdX, hc, nx, rv, rr, cR, fR, tkR, tvR, bk), (n + 1, sy, va_up k n 0, upd o n (nI t), va_up ke n ky, upd va n v, fl, sg, cp, fs, la, nx, hd, dn, tg, bh), (c_X_set_n lL g (A 0) (A 1) (A 6) (A 11) (A 26) (A 17) (A 19) un (A 2) (A 3) (A 4) (A 5) kX oX keX vaX n sy (A 7) (A 8) (A 9) (A 10) c f tk tv t ky v (by omega) (by omega) (by omega) (by omega)).frame [0, 1, 2, 3, 4, 5, 6, 7, 8, 9, 10] [11, 12, 13, 14, 15, 16, 17, 18, 19, 20, 21, 22, 23, 24, 25, 26, 27, 28, 29, 30, 31, 32] 33 (by decide) rfl rfl rfl rfl rfl (by decide), ⟨6, 200, by omega, by omega, c_M_set_ok lL g (B 0) (B 1) (B 2) (B 3) (B 4) (B 5) (B 6) (B 7) (B 8) (B 9) (B 10) n sy k o ke va fl sg cp fs la nx hd dn tg bh t ky v (by omega) (by omega) (by omega) (fun i hi => (hL.2.2 i (by omega)).1) (by omega)⟩, ⟨rfl, rfl, rfl, by omega, hL2, rTr_set ht (by omega) hk v (by omega) hT _ (if_pos hz).symm, rPg_no hL.1 0 (nI t) ky v (by omega) hP, fun b hb => rBk_agr ((agr_add 0 (nI t) ky v).le hL.1) (Nat.le_refl _) (fun _ _ _ h => h) (hB b hb), hU, hR, rRs_agr ((agr_add 0 (nI t) ky v).le hL.1) (Nat.le_refl _) hZ⟩⟩
      · exact ⟨(nI (n + 1)), (un, va_up kX n 0, va_up oX n t, va_up keX n ky, upd vaX n v, n + 1, sy, va_up c t (c t + 1), f, va_up tk (t * 4 + c t) ky, upd tv (t * 4 + c t) v, me, ms, dk, ds, du, hdX, hc, nx, rv, rr, cR, fR, tkR, tvR, bk), (n + 1, sy, va_up k n 0, upd o n (nI t), va_up ke n ky, upd va n v, fl, sg, cp, fs, la, nx, hd, dn, tg, bh), (c_X_set_o lL g (A 0) (A 1) (A 6) (A 11) (A 26) (A 17) (A 19) un (A 2) (A 3) (A 4) (A 5) kX oX keX vaX n sy (A 7) (A 8) (A 9) (A 10) c f tk tv t ky v (by omega) (by omega) (by omega) (by omega) (by omega)).frame [0, 1, 2, 3, 4, 5, 6, 7, 8, 9, 10] [11, 12, 13, 14, 15, 16, 17, 18, 19, 20, 21, 22, 23, 24, 25, 26, 27, 28, 29, 30, 31, 32] 33 (by decide) rfl rfl rfl rfl rfl (by decide), ⟨6, 200, by omega, by omega, c_M_set_ok lL g (B 0) (B 1) (B 2) (B 3) (B 4) (B 5) (B 6) (B 7) (B 8) (B 9) (B 10) n sy k o ke va fl sg cp fs la nx hd dn tg bh t ky v (by omega) (by omega) (by omega) (fun i hi => (hL.2.2 i (by omega)).1) (by omega)⟩, ⟨rfl, rfl, rfl, by omega, hL2, rTr_set ht (by omega) hk v (by omega) hT _ (if_neg (by omega)).symm, rPg_no hL.1 0 (nI t) ky v (by omega) hP, fun b hb => rBk_agr ((agr_add 0 (nI t) ky v).le hL.1) (Nat.le_refl _) (fun _ _ _ h => h) (hB b hb), hU, hR, rRs_agr ((agr_add 0 (nI t) ky v).le hL.1) (Nat.le_refl _) hZ⟩⟩
    · exact ⟨(-1), (un, kX, oX, keX, vaX, n, sy, c, f, tk, tv, me, ms, dk, ds, du, hdX, hc, nx, rv, rr, cR, fR, tkR, tvR, bk), (n, sy, k, o, ke, va, fl, sg, cp, fs, la, nx, hd, dn, tg, bh), (c_X_set_kg lL g (A 0) (A 1) (A 6) (A 11) (A 26) (A 17) (A 19) un t ky v (by omega) (by omega) (by omega)).frame [0] [1, 2, 3, 4, 5, 6, 7, 8, 9, 10, 11, 12, 13, 14, 15, 16, 17, 18, 19, 20, 21, 22, 23, 24, 25, 26, 27, 28, 29, 30, 31, 32] 33 (by decide) rfl rfl rfl rfl rfl (by decide), ⟨6, 200, by omega, by omega, c_M_set_kg lL g (B 0) (B 1) (B 2) (B 3) (B 4) (B 5) (B 6) (B 7) (B 8) (B 9) (B 10) n sy k o ke va fl sg cp fs la nx hd dn tg bh t ky v (by omega) (by omega) (by omega)⟩, hsame⟩
  · exact ⟨(-1), (un, kX, oX, keX, vaX, n, sy, c, f, tk, tv, me, ms, dk, ds, du, hdX, hc, nx, rv, rr, cR, fR, tkR, tvR, bk), (n, sy, k, o, ke, va, fl, sg, cp, fs, la, nx, hd, dn, tg, bh), (c_X_set_tg lL g (A 0) (A 1) (A 6) (A 11) (A 26) (A 17) (A 19) un t b v (by omega) (by omega)).frame [0] [1, 2, 3, 4, 5, 6, 7, 8, 9, 10, 11, 12, 13, 14, 15, 16, 17, 18, 19, 20, 21, 22, 23, 24, 25, 26, 27, 28, 29, 30, 31, 32] 33 (by decide) rfl rfl rfl rfl rfl (by decide), ⟨6, 200, by omega, by omega, c_M_set_tg lL g (B 0) (B 1) (B 2) (B 3) (B 4) (B 5) (B 6) (B 7) (B 8) (B 9) (B 10) n sy k o ke va fl sg cp fs la nx hd dn tg bh t b v (by omega) (by omega)⟩, hsame⟩
set_option maxRecDepth 20000 in
theorem S_commit (lL : Launch) (g : Gt) (A B : Nat → Nat) {i : Nat} {s : SX} {m : SM} (hi : i < 512) (h : INV i s m) (a : Int32) : SIM lL g A B i s m y_X_commit y_M_commit (.code y_X_commit b_X_commit 4 (some .int)) (.code y_M_commit b_M_commit 2 (some .int)) [.int a] := by
  obtain ⟨un, kX, oX, keX, vaX, nX, syX, c, f, tk, tv, me, ms, dk, ds, du, hdX, hc, nxX, rv, rr, cR, fR, tkR, tvR, bk⟩ := s
  obtain ⟨n, sy, k, o, ke, va, fl, sg, cp, fs, la, nx, hd, dn, tg, bh⟩ := m
  obtain ⟨e1, e2, e3, hni, hL, hT, hP, hB, hU, hR, hZ⟩ := h
  subst e1; subst e2; subst e3
  have hsame : INV (i + 1) (un, kX, oX, keX, vaX, n, sy, c, f, tk, tv, me, ms, dk, ds, du, hdX, hc, nx, rv, rr, cR, fR, tkR, tvR, bk) (n, sy, k, o, ke, va, fl, sg, cp, fs, la, nx, hd, dn, tg, bh) := ⟨rfl, rfl, rfl, by omega, hL, hT, hP, hB, hU, hR, hZ⟩
  have hsn := hL.1
  rcases i32_cs a with ha | ⟨t, ht1, rfl⟩
  · exact ⟨(-1), (un, kX, oX, keX, vaX, n, sy, c, f, tk, tv, me, ms, dk, ds, du, hdX, hc, nx, rv, rr, cR, fR, tkR, tvR, bk), (n, sy, k, o, ke, va, fl, sg, cp, fs, la, nx, hd, dn, tg, bh), (c_X_commit_n lL g (A 0) (A 1) (A 6) (A 11) (A 26) (A 17) (A 19) un a ha).frame [0] [1, 2, 3, 4, 5, 6, 7, 8, 9, 10, 11, 12, 13, 14, 15, 16, 17, 18, 19, 20, 21, 22, 23, 24, 25, 26, 27, 28, 29, 30, 31, 32] 33 (by decide) rfl rfl rfl rfl rfl (by decide), ⟨6, 200, by omega, by omega, c_M_commit_n lL g (B 0) (B 1) (B 2) (B 3) (B 4) (B 5) (B 6) (B 7) (B 8) (B 9) (B 10) n sy k o ke va fl sg cp fs la nx hd dn tg bh a ha⟩, hsame⟩
  rcases Nat.lt_or_ge t 3 with ht | ht
  · obtain ⟨a1, a2, a3, a4, a5⟩ := hT.1 t ht
    have hop := opO_buf k o (nI t) n none
    rcases Nat.eq_zero_or_pos (c t) with hz | hz
    · rw [List.length_eq_zero_iff.mp (a1.symm.trans hz)] at hop
      exact ⟨(-3), (un, kX, oX, keX, vaX, n, sy, c, f, tk, tv, me, ms, dk, ds, du, hdX, hc, nx, rv, rr, cR, fR, tkR, tvR, bk), (n, sy, k, o, ke, va, fl, sg, cp, fs, la, nx, hd, dn, tg, bh), (c_X_commit_c lL g (A 0) (A 1) (A 6) (A 11) (A 26) (A 17) (A 19) un (A 7) (A 8) (A 9) (A 10) c f tk tv t (by omega) (by omega)).frame [0, 6, 7, 8, 9, 10] [1, 2, 3, 4, 5, 11, 12, 13, 14, 15, 16, 17, 18, 19, 20, 21, 22, 23, 24, 25, 26, 27, 28, 29, 30, 31, 32] 33 (by decide) rfl rfl rfl rfl rfl (by decide), ⟨6, 200, by omega, by omega, c_M_commit_c lL g (B 0) (B 1) (B 2) (B 3) (B 4) (B 5) (B 6) (B 7) (B 8) (B 9) (B 10) n sy k o ke va fl sg cp fs la nx hd dn tg bh t (by omega) (by omega) (fun i hi => (hL.2.2 i (by omega)).1) hop⟩, hsame⟩
    · obtain ⟨x, l, hb⟩ : ∃ x l, buf k o (nI t) n = x :: l := by
        cases hb : buf k o (nI t) n with
        | nil => rw [hb] at a1; simp at a1; omega
        | cons x l => exact ⟨x, l, rfl⟩
      have hxn := (buf_mem (show x ∈ buf k o (nI t) n by rw [hb]; exact List.mem_cons_self)).1
      rw [hb] at hop
      have hop : opO k o (nI t) n none = some x := hop
      have hL2 := rLog_add hL 1 (nI t) 0 (nI 0) t 0 (nI 0) (by omega) (fun _ => ⟨ht, rfl⟩) (fun z => absurd z (by omega)) (fun u hu => by
        rw [buf_end 1 t u ht hu (by omega) (by omega)]
        obtain ⟨b1, b2, -⟩ := hT.1 u hu
        split
        · exact Nat.zero_le _
        · omega)
      have hds : ∀ j, j < 8 → ds j ≤ 512 := fun j hj => by
        obtain ⟨p1, p2, p3, p4, p5⟩ := hP.1 j hj
        rcases p2 with ⟨q1, -⟩ | ⟨-, -, q3, -⟩ <;> omega
      exact ⟨(nI (n + 1)), (un, va_up kX n 1, va_up oX n t, va_up keX n 0, upd vaX n (nI 0), n + 1, sy, va_up c t 0, f, tk, tv, wrS tk tv me (t * 4) (c t), ms, dk, (tcS tk (n + 1) ds du (t * 4) (c t)).1, (tcS tk (n + 1) ds du (t * 4) (c t)).2, hdX, hc, nx, rv, rr, cR, fR, tkR, tvR, bk), (n + 1, sy, va_up k n 1, upd o n (nI t), va_up ke n 0, upd va n (nI 0), fl, sg, cp, fs, la, nx, hd, dn, tg, bh), (c_X_commit_o lL g (A 0) (A 1) (A 6) (A 11) (A 26) (A 17) (A 19) un (A 2) (A 3) (A 4) (A 5) kX oX keX vaX n sy (A 7) (A 8) (A 9) (A 10) c f tk tv (A 12) (A 13) (A 14) (A 15) (A 16) me ms dk ds du t (by omega) (by omega) (by omega) (by omega) hT.2 (fun j hj => hds j hj)).frame [0, 1, 2, 3, 4, 5, 6, 7, 8, 9, 10, 11, 12, 13, 14, 15, 16] [17, 18, 19, 20, 21, 22, 23, 24, 25, 26, 27, 28, 29, 30, 31, 32] 33 (by decide) rfl rfl rfl rfl rfl (by decide), ⟨6, 200, by omega, by omega, c_M_commit_o lL g (B 0) (B 1) (B 2) (B 3) (B 4) (B 5) (B 6) (B 7) (B 8) (B 9) (B 10) n sy k o ke va fl sg cp fs la nx hd dn tg bh t x (by omega) (by omega) (fun i hi => (hL.2.2 i (by omega)).1) hop (by omega)⟩, ⟨rfl, rfl, rfl, by omega, hL2, rTr_end ht (by omega) (by omega) 0 (nI 0) hT, rPg_com ht hL.1 hT 0 (nI 0) hP, fun b hb => rBk_agr ((agr_add 1 (nI t) 0 (nI 0)).le hL.1) (Nat.le_refl _) (fun _ _ _ h => h) (hB b hb), hU, hR, rRs_agr ((agr_add 1 (nI t) 0 (nI 0)).le hL.1) (Nat.le_refl _) hZ⟩⟩
  · exact ⟨(-1), (un, kX, oX, keX, vaX, n, sy, c, f, tk, tv, me, ms, dk, ds, du, hdX, hc, nx, rv, rr, cR, fR, tkR, tvR, bk), (n, sy, k, o, ke, va, fl, sg, cp, fs, la, nx, hd, dn, tg, bh), (c_X_commit_g lL g (A 0) (A 1) (A 6) (A 11) (A 26) (A 17) (A 19) un t (by omega) (by omega)).frame [0] [1, 2, 3, 4, 5, 6, 7, 8, 9, 10, 11, 12, 13, 14, 15, 16, 17, 18, 19, 20, 21, 22, 23, 24, 25, 26, 27, 28, 29, 30, 31, 32] 33 (by decide) rfl rfl rfl rfl rfl (by decide), ⟨6, 200, by omega, by omega, c_M_commit_g lL g (B 0) (B 1) (B 2) (B 3) (B 4) (B 5) (B 6) (B 7) (B 8) (B 9) (B 10) n sy k o ke va fl sg cp fs la nx hd dn tg bh t (by omega) (by omega)⟩, hsame⟩
set_option maxRecDepth 20000 in
theorem S_abort (lL : Launch) (g : Gt) (A B : Nat → Nat) {i : Nat} {s : SX} {m : SM} (hi : i < 512) (h : INV i s m) (a : Int32) : SIM lL g A B i s m y_X_abort y_M_abort (.code y_X_abort b_X_abort 3 (some .int)) (.code y_M_abort b_M_abort 2 (some .int)) [.int a] := by
  obtain ⟨un, kX, oX, keX, vaX, nX, syX, c, f, tk, tv, me, ms, dk, ds, du, hdX, hc, nxX, rv, rr, cR, fR, tkR, tvR, bk⟩ := s
  obtain ⟨n, sy, k, o, ke, va, fl, sg, cp, fs, la, nx, hd, dn, tg, bh⟩ := m
  obtain ⟨e1, e2, e3, hni, hL, hT, hP, hB, hU, hR, hZ⟩ := h
  subst e1; subst e2; subst e3
  have hsame : INV (i + 1) (un, kX, oX, keX, vaX, n, sy, c, f, tk, tv, me, ms, dk, ds, du, hdX, hc, nx, rv, rr, cR, fR, tkR, tvR, bk) (n, sy, k, o, ke, va, fl, sg, cp, fs, la, nx, hd, dn, tg, bh) := ⟨rfl, rfl, rfl, by omega, hL, hT, hP, hB, hU, hR, hZ⟩
  have hsn := hL.1
  rcases i32_cs a with ha | ⟨t, ht1, rfl⟩
  · exact ⟨(-1), (un, kX, oX, keX, vaX, n, sy, c, f, tk, tv, me, ms, dk, ds, du, hdX, hc, nx, rv, rr, cR, fR, tkR, tvR, bk), (n, sy, k, o, ke, va, fl, sg, cp, fs, la, nx, hd, dn, tg, bh), (c_X_abort_n lL g (A 0) (A 1) (A 6) (A 11) (A 26) (A 17) (A 19) un a ha).frame [0] [1, 2, 3, 4, 5, 6, 7, 8, 9, 10, 11, 12, 13, 14, 15, 16, 17, 18, 19, 20, 21, 22, 23, 24, 25, 26, 27, 28, 29, 30, 31, 32] 33 (by decide) rfl rfl rfl rfl rfl (by decide), ⟨6, 200, by omega, by omega, c_M_abort_n lL g (B 0) (B 1) (B 2) (B 3) (B 4) (B 5) (B 6) (B 7) (B 8) (B 9) (B 10) n sy k o ke va fl sg cp fs la nx hd dn tg bh a ha⟩, hsame⟩
  rcases Nat.lt_or_ge t 3 with ht | ht
  · obtain ⟨a1, a2, a3, a4, a5⟩ := hT.1 t ht
    have hop := opO_buf k o (nI t) n none
    rcases Nat.eq_zero_or_pos (c t) with hz | hz
    · rw [List.length_eq_zero_iff.mp (a1.symm.trans hz)] at hop
      exact ⟨(-3), (un, kX, oX, keX, vaX, n, sy, c, f, tk, tv, me, ms, dk, ds, du, hdX, hc, nx, rv, rr, cR, fR, tkR, tvR, bk), (n, sy, k, o, ke, va, fl, sg, cp, fs, la, nx, hd, dn, tg, bh), (c_X_abort_c lL g (A 0) (A 1) (A 6) (A 11) (A 26) (A 17) (A 19) un (A 7) (A 8) (A 9) (A 10) c f tk tv t (by omega) (by omega)).frame [0, 6, 7, 8, 9, 10] [1, 2, 3, 4, 5, 11, 12, 13, 14, 15, 16, 17, 18, 19, 20, 21, 22, 23, 24, 25, 26, 27, 28, 29, 30, 31, 32] 33 (by decide) rfl rfl rfl rfl rfl (by decide), ⟨6, 200, by omega, by omega, c_M_abort_c lL g (B 0) (B 1) (B 2) (B 3) (B 4) (B 5) (B 6) (B 7) (B 8) (B 9) (B 10) n sy k o ke va fl sg cp fs la nx hd dn tg bh t (by omega) (by omega) (fun i hi => (hL.2.2 i (by omega)).1) hop⟩, hsame⟩
    · obtain ⟨x, l, hb⟩ : ∃ x l, buf k o (nI t) n = x :: l := by
        cases hb : buf k o (nI t) n with
        | nil => rw [hb] at a1; simp at a1; omega
        | cons x l => exact ⟨x, l, rfl⟩
      have hxn := (buf_mem (show x ∈ buf k o (nI t) n by rw [hb]; exact List.mem_cons_self)).1
      rw [hb] at hop
      have hop : opO k o (nI t) n none = some x := hop
      have hL2 := rLog_add hL 2 (nI t) 0 (nI 0) t 0 (nI 0) (by omega) (fun _ => ⟨ht, rfl⟩) (fun z => absurd z (by omega)) (fun u hu => by
        rw [buf_end 2 t u ht hu (by omega) (by omega)]
        obtain ⟨b1, b2, -⟩ := hT.1 u hu
        split
        · exact Nat.zero_le _
        · omega)
      exact ⟨(nI (n + 1)), (un, va_up kX n 2, va_up oX n t, va_up keX n 0, upd vaX n (nI 0), n + 1, sy, va_up c t 0, f, tk, tv, me, ms, dk, ds, du, hdX, hc, nx, rv, rr, cR, fR, tkR, tvR, bk), (n + 1, sy, va_up k n 2, upd o n (nI t), va_up ke n 0, upd va n (nI 0), fl, sg, cp, fs, la, nx, hd, dn, tg, bh), (c_X_abort_o lL g (A 0) (A 1) (A 6) (A 11) (A 26) (A 17) (A 19) un (A 2) (A 3) (A 4) (A 5) kX oX keX vaX n sy (A 7) (A 8) (A 9) (A 10) c f tk tv t (by omega) (by omega) (by omega) (by omega)).frame [0, 1, 2, 3, 4, 5, 6, 7, 8, 9, 10] [11, 12, 13, 14, 15, 16, 17, 18, 19, 20, 21, 22, 23, 24, 25, 26, 27, 28, 29, 30, 31, 32] 33 (by decide) rfl rfl rfl rfl rfl (by decide), ⟨6, 200, by omega, by omega, c_M_abort_o lL g (B 0) (B 1) (B 2) (B 3) (B 4) (B 5) (B 6) (B 7) (B 8) (B 9) (B 10) n sy k o ke va fl sg cp fs la nx hd dn tg bh t x (by omega) (by omega) (fun i hi => (hL.2.2 i (by omega)).1) hop (by omega)⟩, ⟨rfl, rfl, rfl, by omega, hL2, rTr_end ht (by omega) (by omega) 0 (nI 0) hT, rPg_no hL.1 2 (nI t) 0 (nI 0) (by omega) hP, fun b hb => rBk_agr ((agr_add 2 (nI t) 0 (nI 0)).le hL.1) (Nat.le_refl _) (fun _ _ _ h => h) (hB b hb), hU, hR, rRs_agr ((agr_add 2 (nI t) 0 (nI 0)).le hL.1) (Nat.le_refl _) hZ⟩⟩
  · exact ⟨(-1), (un, kX, oX, keX, vaX, n, sy, c, f, tk, tv, me, ms, dk, ds, du, hdX, hc, nx, rv, rr, cR, fR, tkR, tvR, bk), (n, sy, k, o, ke, va, fl, sg, cp, fs, la, nx, hd, dn, tg, bh), (c_X_abort_g lL g (A 0) (A 1) (A 6) (A 11) (A 26) (A 17) (A 19) un t (by omega) (by omega)).frame [0] [1, 2, 3, 4, 5, 6, 7, 8, 9, 10, 11, 12, 13, 14, 15, 16, 17, 18, 19, 20, 21, 22, 23, 24, 25, 26, 27, 28, 29, 30, 31, 32] 33 (by decide) rfl rfl rfl rfl rfl (by decide), ⟨6, 200, by omega, by omega, c_M_abort_g lL g (B 0) (B 1) (B 2) (B 3) (B 4) (B 5) (B 6) (B 7) (B 8) (B 9) (B 10) n sy k o ke va fl sg cp fs la nx hd dn tg bh t (by omega) (by omega)⟩, hsame⟩
set_option maxRecDepth 20000 in
theorem S_get (lL : Launch) (g : Gt) (A B : Nat → Nat) {i : Nat} {s : SX} {m : SM} (hi : i < 512) (h : INV i s m) (a : Int32) : SIM lL g A B i s m y_X_get y_M_get (.code y_X_get b_X_get 2 (some .int)) (.code y_M_get b_M_get 2 (some .int)) [.int a] := by
  obtain ⟨un, kX, oX, keX, vaX, nX, syX, c, f, tk, tv, me, ms, dk, ds, du, hdX, hc, nxX, rv, rr, cR, fR, tkR, tvR, bk⟩ := s
  obtain ⟨n, sy, k, o, ke, va, fl, sg, cp, fs, la, nx, hd, dn, tg, bh⟩ := m
  obtain ⟨e1, e2, e3, hni, hL, hT, hP, hB, hU, hR, hZ⟩ := h
  subst e1; subst e2; subst e3
  have hsame : INV (i + 1) (un, kX, oX, keX, vaX, n, sy, c, f, tk, tv, me, ms, dk, ds, du, hdX, hc, nx, rv, rr, cR, fR, tkR, tvR, bk) (n, sy, k, o, ke, va, fl, sg, cp, fs, la, nx, hd, dn, tg, bh) := ⟨rfl, rfl, rfl, by omega, hL, hT, hP, hB, hU, hR, hZ⟩
  have hsn := hL.1
  rcases i32_cs a with ha | ⟨y, hy1, rfl⟩
  · exact ⟨(nI 0), (un, kX, oX, keX, vaX, n, sy, c, f, tk, tv, me, ms, dk, ds, du, hdX, hc, nx, rv, rr, cR, fR, tkR, tvR, bk), (n, sy, k, o, ke, va, fl, sg, cp, fs, la, nx, hd, dn, tg, bh), (c_X_get_n lL g (A 0) (A 1) (A 6) (A 11) (A 26) (A 17) (A 19) un a ha).frame [0] [1, 2, 3, 4, 5, 6, 7, 8, 9, 10, 11, 12, 13, 14, 15, 16, 17, 18, 19, 20, 21, 22, 23, 24, 25, 26, 27, 28, 29, 30, 31, 32] 33 (by decide) rfl rfl rfl rfl rfl (by decide), ⟨6, 200, by omega, by omega, c_M_get_n lL g (B 0) (B 1) (B 2) (B 3) (B 4) (B 5) (B 6) (B 7) (B 8) (B 9) (B 10) n sy k o ke va fl sg cp fs la nx hd dn tg bh a ha⟩, hsame⟩
  rcases Nat.lt_or_ge y 32 with hy | hy
  · have e := (hP.2 y hy).1
    have hx := c_X_get_t lL g (A 0) (A 1) (A 6) (A 11) (A 26) (A 17) (A 19) un (A 12) (A 13) (A 14) (A 15) (A 16) me ms dk ds du y (by omega)
    rw [e] at hx
    exact ⟨_, (un, kX, oX, keX, vaX, n, sy, c, f, tk, tv, me, ms, dk, ds, du, hdX, hc, nx, rv, rr, cR, fR, tkR, tvR, bk), (n, sy, k, o, ke, va, fl, sg, cp, fs, la, nx, hd, dn, tg, bh), (hx).frame [0, 11, 12, 13, 14, 15, 16] [1, 2, 3, 4, 5, 6, 7, 8, 9, 10, 17, 18, 19, 20, 21, 22, 23, 24, 25, 26, 27, 28, 29, 30, 31, 32] 33 (by decide) rfl rfl rfl rfl rfl (by decide), ⟨6, 200, by omega, by omega, c_M_get_t lL g (B 0) (B 1) (B 2) (B 3) (B 4) (B 5) (B 6) (B 7) (B 8) (B 9) (B 10) n sy k o ke va fl sg cp fs la nx hd dn tg bh y (by omega) (by omega) (fun i hi => (hL.2.2 i (by omega)).1) (fun i hi h0 => ((hL.2.2 i (by omega)).2.2.2 h0).1)⟩, hsame⟩
  · exact ⟨(nI 0), (un, kX, oX, keX, vaX, n, sy, c, f, tk, tv, me, ms, dk, ds, du, hdX, hc, nx, rv, rr, cR, fR, tkR, tvR, bk), (n, sy, k, o, ke, va, fl, sg, cp, fs, la, nx, hd, dn, tg, bh), (c_X_get_g lL g (A 0) (A 1) (A 6) (A 11) (A 26) (A 17) (A 19) un y (by omega) (by omega)).frame [0] [1, 2, 3, 4, 5, 6, 7, 8, 9, 10, 11, 12, 13, 14, 15, 16, 17, 18, 19, 20, 21, 22, 23, 24, 25, 26, 27, 28, 29, 30, 31, 32] 33 (by decide) rfl rfl rfl rfl rfl (by decide), ⟨6, 200, by omega, by omega, c_M_get_g lL g (B 0) (B 1) (B 2) (B 3) (B 4) (B 5) (B 6) (B 7) (B 8) (B 9) (B 10) n sy k o ke va fl sg cp fs la nx hd dn tg bh y (by omega) (by omega)⟩, hsame⟩
set_option maxRecDepth 20000 in
theorem S_sync (lL : Launch) (g : Gt) (A B : Nat → Nat) {i : Nat} {s : SX} {m : SM} (hi : i < 512) (h : INV i s m) : SIM lL g A B i s m y_X_sync y_M_sync (.code y_X_sync b_X_sync 1 (some .int)) (.code y_M_sync b_M_sync 2 (some .int)) [] := by
  obtain ⟨un, kX, oX, keX, vaX, nX, syX, c, f, tk, tv, me, ms, dk, ds, du, hdX, hc, nxX, rv, rr, cR, fR, tkR, tvR, bk⟩ := s
  obtain ⟨n, sy, k, o, ke, va, fl, sg, cp, fs, la, nx, hd, dn, tg, bh⟩ := m
  obtain ⟨e1, e2, e3, hni, hL, hT, hP, hB, hU, hR, hZ⟩ := h
  subst e1; subst e2; subst e3
  have hsame : INV (i + 1) (un, kX, oX, keX, vaX, n, sy, c, f, tk, tv, me, ms, dk, ds, du, hdX, hc, nx, rv, rr, cR, fR, tkR, tvR, bk) (n, sy, k, o, ke, va, fl, sg, cp, fs, la, nx, hd, dn, tg, bh) := ⟨rfl, rfl, rfl, by omega, hL, hT, hP, hB, hU, hR, hZ⟩
  have hsn := hL.1
  exact ⟨(nI (n - sy)), (un, kX, oX, keX, vaX, n, n, c, f, tk, tv, me, va_cpy me ms 0 0 32, dk, ds, du, hdX, hc, nx, rv, rr, cR, fR, tkR, tvR, bk), (n, n, k, o, ke, va, fl, sg, cp, fs, la, nx, hd, dn, tg, bh), (c_X_sync lL g (A 0) (A 1) (A 6) (A 11) (A 26) (A 17) (A 19) un (A 2) (A 3) (A 4) (A 5) kX oX keX vaX n sy (A 12) (A 13) (A 14) (A 15) (A 16) me ms dk ds du (by omega)).frame [0, 1, 2, 3, 4, 5, 11, 12, 13, 14, 15, 16] [6, 7, 8, 9, 10, 17, 18, 19, 20, 21, 22, 23, 24, 25, 26, 27, 28, 29, 30, 31, 32] 33 (by decide) rfl rfl rfl rfl rfl (by decide), ⟨6, 200, by omega, by omega, c_M_sync lL g (B 0) (B 1) (B 2) (B 3) (B 4) (B 5) (B 6) (B 7) (B 8) (B 9) (B 10) n sy k o ke va fl sg cp fs la nx hd dn tg bh (by omega)⟩, ⟨rfl, rfl, rfl, by omega, ⟨Nat.le_refl _, hL.2⟩, hT, rPg_sync hP, fun b hb => rBk_agr (fun _ _ => ⟨rfl, rfl, rfl, rfl⟩) hL.1 (fun _ _ _ h => h) (hB b hb), hU, rAr_sy hL.1 hR, rRs_agr (fun _ _ => ⟨rfl, rfl, rfl, rfl⟩) hL.1 hZ⟩⟩
set_option maxRecDepth 20000 in
theorem S_position (lL : Launch) (g : Gt) (A B : Nat → Nat) {i : Nat} {s : SX} {m : SM} (hi : i < 512) (h : INV i s m) : SIM lL g A B i s m y_X_position y_M_position (.code y_X_position b_X_position 1 (some .int)) (.code y_M_position b_M_position 1 (some .int)) [] := by
  obtain ⟨un, kX, oX, keX, vaX, nX, syX, c, f, tk, tv, me, ms, dk, ds, du, hdX, hc, nxX, rv, rr, cR, fR, tkR, tvR, bk⟩ := s
  obtain ⟨n, sy, k, o, ke, va, fl, sg, cp, fs, la, nx, hd, dn, tg, bh⟩ := m
  obtain ⟨e1, e2, e3, hni, hL, hT, hP, hB, hU, hR, hZ⟩ := h
  subst e1; subst e2; subst e3
  have hsame : INV (i + 1) (un, kX, oX, keX, vaX, n, sy, c, f, tk, tv, me, ms, dk, ds, du, hdX, hc, nx, rv, rr, cR, fR, tkR, tvR, bk) (n, sy, k, o, ke, va, fl, sg, cp, fs, la, nx, hd, dn, tg, bh) := ⟨rfl, rfl, rfl, by omega, hL, hT, hP, hB, hU, hR, hZ⟩
  have hsn := hL.1
  exact ⟨(nI n), (un, kX, oX, keX, vaX, n, sy, c, f, tk, tv, me, ms, dk, ds, du, hdX, hc, nx, rv, rr, cR, fR, tkR, tvR, bk), (n, sy, k, o, ke, va, fl, sg, cp, fs, la, nx, hd, dn, tg, bh), (c_X_position lL g (A 0) (A 1) (A 6) (A 11) (A 26) (A 17) (A 19) un (A 2) (A 3) (A 4) (A 5) kX oX keX vaX n sy).frame [0, 1, 2, 3, 4, 5] [6, 7, 8, 9, 10, 11, 12, 13, 14, 15, 16, 17, 18, 19, 20, 21, 22, 23, 24, 25, 26, 27, 28, 29, 30, 31, 32] 33 (by decide) rfl rfl rfl rfl rfl (by decide), ⟨6, 200, by omega, by omega, c_M_position lL g (B 0) (B 1) (B 2) (B 3) (B 4) (B 5) (B 6) (B 7) (B 8) (B 9) (B 10) n sy k o ke va fl sg cp fs la nx hd dn tg bh⟩, hsame⟩
