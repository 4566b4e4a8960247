set_option maxRecDepth 20000 in
theorem S_bound (lL : Launch) (g : Gt) (A B : Nat → Nat) {i : Nat} {s : SX} {m : SM} (hi : i < 512) (h : INV i s m) (a : Int32) (b : Int32) : SIM lL g A B i s m y_X_bound y_M_bound (.code y_X_bound b_X_bound 3 (some .int)) (.code y_M_bound b_M_bound 3 (some .int)) [.int a, .int b] := by
  obtain ⟨un, kX, oX, keX, vaX, nX, syX, c, f, tk, tv, me, ms, dk, ds, du, hdX, hc, nxX, rv, rr, cR, fR, tkR, tvR, bk⟩ := s
  obtain ⟨n, sy, k, o, ke, va, fl, sg, cp, fs, la, nx, hd, dn, tg, bh⟩ := m
  obtain ⟨e1, e2, e3, hni, hL, hT, hP, hB, hU, hR, hZ⟩ := h
  subst e1; subst e2; subst e3
  have hsame : INV (i + 1) (un, kX, oX, keX, vaX, n, sy, c, f, tk, tv, me, ms, dk, ds, du, hdX, hc, nx, rv, rr, cR, fR, tkR, tvR, bk) (n, sy, k, o, ke, va, fl, sg, cp, fs, la, nx, hd, dn, tg, bh) := ⟨rfl, rfl, rfl, by omega, hL, hT, hP, hB, hU, hR, hZ⟩
  have hsn := hL.1
  rcases i32_cs a with ha | ⟨j, hj1, rfl⟩
  · exact ⟨(-1), (un, kX, oX, keX, vaX, n, sy, c, f, tk, tv, me, ms, dk, ds, du, hdX, hc, nx, rv, rr, cR, fR, tkR, tvR, bk), (n, sy, k, o, ke, va, fl, sg, cp, fs, la, nx, hd, dn, tg, bh), fr_X (c_X_bound_n lL g (A 0) (A 1) (A 6) (A 11) (A 26) (A 17) (A 19) un a b ha), ⟨6, 200, by omega, by omega, c_M_bound_n lL g (B 0) (B 1) (B 2) (B 3) (B 4) (B 5) (B 6) (B 7) (B 8) (B 9) (B 10) n sy k o ke va fl sg cp fs la nx hd dn tg bh a b ha⟩, hsame⟩
  rcases Nat.lt_or_ge j 3 with hj | hj
  · rcases (show j = 0 ∨ j = 1 ∨ j = 2 by omega) with rfl | rfl | rfl
    · obtain ⟨s0, -, f0, h4, -, h6⟩ := hB 0 (by omega)
      by_cases hz : sg 0 = 2
      · obtain ⟨e1, -⟩ := h4 (by omega)
        obtain ⟨-, e2, -⟩ := h6 hz
        rcases i32_cs b with hb | ⟨w, hw1, rfl⟩
        · exact ⟨(-1), (un, kX, oX, keX, vaX, n, sy, c, f, tk, tv, me, ms, dk, ds, du, hdX, hc, nx, rv, rr, cR, fR, tkR, tvR, bk), (n, sy, k, o, ke, va, fl, sg, cp, fs, la, nx, hd, dn, tg, bh), fr_X_BA_Bk0 (c_X_bound_x lL g (A 0) (A 1) (A 6) (A 11) (A 26) (A 17) (A 19) un (fun j => A (27 + 2 * j)) (A 28) ((bk 0).1) ((bk 0).2.1) ((bk 0).2.2.1) ((bk 0).2.2.2.1) ((bk 0).2.2.2.2.1) ((bk 0).2.2.2.2.2.1) ((bk 0).2.2.2.2.2.2) 0 b (by omega) (by rw [f0]; exact if_pos hz) (fun z => by rw [z] at hb; exact absurd hb (by decide)) (fun z => by rw [z] at hb; exact absurd hb (by decide))), ⟨6, 200, by omega, by omega, c_M_bound_xn lL g (B 0) (B 1) (B 2) (B 3) (B 4) (B 5) (B 6) (B 7) (B 8) (B 9) (B 10) n sy k o ke va fl sg cp fs la nx hd dn tg bh 0 b (by omega) hz hb⟩, hsame⟩
        rcases (show w = 0 ∨ w = 1 ∨ 2 ≤ w by omega) with rfl | rfl | hw
        · exact ⟨(nI (bk 0).2.2.2.1), (un, kX, oX, keX, vaX, n, sy, c, f, tk, tv, me, ms, dk, ds, du, hdX, hc, nx, rv, rr, cR, fR, tkR, tvR, bk), (n, sy, k, o, ke, va, fl, sg, cp, fs, la, nx, hd, dn, tg, bh), fr_X_BA_Bk0 (c_X_bound_0 lL g (A 0) (A 1) (A 6) (A 11) (A 26) (A 17) (A 19) un (fun j => A (27 + 2 * j)) (A 28) ((bk 0).1) ((bk 0).2.1) ((bk 0).2.2.1) ((bk 0).2.2.2.1) ((bk 0).2.2.2.2.1) ((bk 0).2.2.2.2.2.1) ((bk 0).2.2.2.2.2.2) 0 (by omega) (by rw [f0]; exact if_pos hz)), ⟨6, 200, by omega, by omega, Ct.res (congrArg nI e1) (c_M_bound_0 lL g (B 0) (B 1) (B 2) (B 3) (B 4) (B 5) (B 6) (B 7) (B 8) (B 9) (B 10) n sy k o ke va fl sg cp fs la nx hd dn tg bh 0 (by omega) hz)⟩, hsame⟩
        · exact ⟨(nI (bk 0).2.2.2.2.2.1), (un, kX, oX, keX, vaX, n, sy, c, f, tk, tv, me, ms, dk, ds, du, hdX, hc, nx, rv, rr, cR, fR, tkR, tvR, bk), (n, sy, k, o, ke, va, fl, sg, cp, fs, la, nx, hd, dn, tg, bh), fr_X_BA_Bk0 (c_X_bound_1 lL g (A 0) (A 1) (A 6) (A 11) (A 26) (A 17) (A 19) un (fun j => A (27 + 2 * j)) (A 28) ((bk 0).1) ((bk 0).2.1) ((bk 0).2.2.1) ((bk 0).2.2.2.1) ((bk 0).2.2.2.2.1) ((bk 0).2.2.2.2.2.1) ((bk 0).2.2.2.2.2.2) 0 (by omega) (by rw [f0]; exact if_pos hz)), ⟨6, 200, by omega, by omega, Ct.res (congrArg nI e2) (c_M_bound_1 lL g (B 0) (B 1) (B 2) (B 3) (B 4) (B 5) (B 6) (B 7) (B 8) (B 9) (B 10) n sy k o ke va fl sg cp fs la nx hd dn tg bh 0 (by omega) hz)⟩, hsame⟩
        · exact ⟨(-1), (un, kX, oX, keX, vaX, n, sy, c, f, tk, tv, me, ms, dk, ds, du, hdX, hc, nx, rv, rr, cR, fR, tkR, tvR, bk), (n, sy, k, o, ke, va, fl, sg, cp, fs, la, nx, hd, dn, tg, bh), fr_X_BA_Bk0 (c_X_bound_x lL g (A 0) (A 1) (A 6) (A 11) (A 26) (A 17) (A 19) un (fun j => A (27 + 2 * j)) (A 28) ((bk 0).1) ((bk 0).2.1) ((bk 0).2.2.1) ((bk 0).2.2.2.1) ((bk 0).2.2.2.2.1) ((bk 0).2.2.2.2.2.1) ((bk 0).2.2.2.2.2.2) 0 (nI w) (by omega) (by rw [f0]; exact if_pos hz) (fun z => by have := ni_inj (b := 0) (by omega) (by omega) z; omega) (fun z => by have := ni_inj (b := 1) (by omega) (by omega) z; omega)), ⟨6, 200, by omega, by omega, c_M_bound_xg lL g (B 0) (B 1) (B 2) (B 3) (B 4) (B 5) (B 6) (B 7) (B 8) (B 9) (B 10) n sy k o ke va fl sg cp fs la nx hd dn tg bh 0 w (by omega) hz (by omega) (by omega)⟩, hsame⟩
      · exact ⟨(-1), (un, kX, oX, keX, vaX, n, sy, c, f, tk, tv, me, ms, dk, ds, du, hdX, hc, nx, rv, rr, cR, fR, tkR, tvR, bk), (n, sy, k, o, ke, va, fl, sg, cp, fs, la, nx, hd, dn, tg, bh), fr_X_BA_Bk0 (c_X_bound_f lL g (A 0) (A 1) (A 6) (A 11) (A 26) (A 17) (A 19) un (fun j => A (27 + 2 * j)) (A 28) ((bk 0).1) ((bk 0).2.1) ((bk 0).2.2.1) ((bk 0).2.2.2.1) ((bk 0).2.2.2.2.1) ((bk 0).2.2.2.2.2.1) ((bk 0).2.2.2.2.2.2) 0 b (by omega) (by rw [f0]; exact if_neg hz)), ⟨6, 200, by omega, by omega, c_M_bound_f lL g (B 0) (B 1) (B 2) (B 3) (B 4) (B 5) (B 6) (B 7) (B 8) (B 9) (B 10) n sy k o ke va fl sg cp fs la nx hd dn tg bh 0 b (by omega) hz s0⟩, hsame⟩
    · obtain ⟨s0, -, f0, h4, -, h6⟩ := hB 1 (by omega)
      by_cases hz : sg 1 = 2
      · obtain ⟨e1, -⟩ := h4 (by omega)
        obtain ⟨-, e2, -⟩ := h6 hz
        rcases i32_cs b with hb | ⟨w, hw1, rfl⟩
        · exact ⟨(-1), (un, kX, oX, keX, vaX, n, sy, c, f, tk, tv, me, ms, dk, ds, du, hdX, hc, nx, rv, rr, cR, fR, tkR, tvR, bk), (n, sy, k, o, ke, va, fl, sg, cp, fs, la, nx, hd, dn, tg, bh), fr_X_BA_Bk1 (c_X_bound_x lL g (A 0) (A 1) (A 6) (A 11) (A 26) (A 17) (A 19) un (fun j => A (27 + 2 * j)) (A 30) ((bk 1).1) ((bk 1).2.1) ((bk 1).2.2.1) ((bk 1).2.2.2.1) ((bk 1).2.2.2.2.1) ((bk 1).2.2.2.2.2.1) ((bk 1).2.2.2.2.2.2) 1 b (by omega) (by rw [f0]; exact if_pos hz) (fun z => by rw [z] at hb; exact absurd hb (by decide)) (fun z => by rw [z] at hb; exact absurd hb (by decide))), ⟨6, 200, by omega, by omega, c_M_bound_xn lL g (B 0) (B 1) (B 2) (B 3) (B 4) (B 5) (B 6) (B 7) (B 8) (B 9) (B 10) n sy k o ke va fl sg cp fs la nx hd dn tg bh 1 b (by omega) hz hb⟩, hsame⟩
        rcases (show w = 0 ∨ w = 1 ∨ 2 ≤ w by omega) with rfl | rfl | hw
        · exact ⟨(nI (bk 1).2.2.2.1), (un, kX, oX, keX, vaX, n, sy, c, f, tk, tv, me, ms, dk, ds, du, hdX, hc, nx, rv, rr, cR, fR, tkR, tvR, bk), (n, sy, k, o, ke, va, fl, sg, cp, fs, la, nx, hd, dn, tg, bh), fr_X_BA_Bk1 (c_X_bound_0 lL g (A 0) (A 1) (A 6) (A 11) (A 26) (A 17) (A 19) un (fun j => A (27 + 2 * j)) (A 30) ((bk 1).1) ((bk 1).2.1) ((bk 1).2.2.1) ((bk 1).2.2.2.1) ((bk 1).2.2.2.2.1) ((bk 1).2.2.2.2.2.1) ((bk 1).2.2.2.2.2.2) 1 (by omega) (by rw [f0]; exact if_pos hz)), ⟨6, 200, by omega, by omega, Ct.res (congrArg nI e1) (c_M_bound_0 lL g (B 0) (B 1) (B 2) (B 3) (B 4) (B 5) (B 6) (B 7) (B 8) (B 9) (B 10) n sy k o ke va fl sg cp fs la nx hd dn tg bh 1 (by omega) hz)⟩, hsame⟩
        · exact ⟨(nI (bk 1).2.2.2.2.2.1), (un, kX, oX, keX, vaX, n, sy, c, f, tk, tv, me, ms, dk, ds, du, hdX, hc, nx, rv, rr, cR, fR, tkR, tvR, bk), (n, sy, k, o, ke, va, fl, sg, cp, fs, la, nx, hd, dn, tg, bh), fr_X_BA_Bk1 (c_X_bound_1 lL g (A 0) (A 1) (A 6) (A 11) (A 26) (A 17) (A 19) un (fun j => A (27 + 2 * j)) (A 30) ((bk 1).1) ((bk 1).2.1) ((bk 1).2.2.1) ((bk 1).2.2.2.1) ((bk 1).2.2.2.2.1) ((bk 1).2.2.2.2.2.1) ((bk 1).2.2.2.2.2.2) 1 (by omega) (by rw [f0]; exact if_pos hz)), ⟨6, 200, by omega, by omega, Ct.res (congrArg nI e2) (c_M_bound_1 lL g (B 0) (B 1) (B 2) (B 3) (B 4) (B 5) (B 6) (B 7) (B 8) (B 9) (B 10) n sy k o ke va fl sg cp fs la nx hd dn tg bh 1 (by omega) hz)⟩, hsame⟩
        · exact ⟨(-1), (un, kX, oX, keX, vaX, n, sy, c, f, tk, tv, me, ms, dk, ds, du, hdX, hc, nx, rv, rr, cR, fR, tkR, tvR, bk), (n, sy, k, o, ke, va, fl, sg, cp, fs, la, nx, hd, dn, tg, bh), fr_X_BA_Bk1 (c_X_bound_x lL g (A 0) (A 1) (A 6) (A 11) (A 26) (A 17) (A 19) un (fun j => A (27 + 2 * j)) (A 30) ((bk 1).1) ((bk 1).2.1) ((bk 1).2.2.1) ((bk 1).2.2.2.1) ((bk 1).2.2.2.2.1) ((bk 1).2.2.2.2.2.1) ((bk 1).2.2.2.2.2.2) 1 (nI w) (by omega) (by rw [f0]; exact if_pos hz) (fun z => by have := ni_inj (b := 0) (by omega) (by omega) z; omega) (fun z => by have := ni_inj (b := 1) (by omega) (by omega) z; omega)), ⟨6, 200, by omega, by omega, c_M_bound_xg lL g (B 0) (B 1) (B 2) (B 3) (B 4) (B 5) (B 6) (B 7) (B 8) (B 9) (B 10) n sy k o ke va fl sg cp fs la nx hd dn tg bh 1 w (by omega) hz (by omega) (by omega)⟩, hsame⟩
      · exact ⟨(-1), (un, kX, oX, keX, vaX, n, sy, c, f, tk, tv, me, ms, dk, ds, du, hdX, hc, nx, rv, rr, cR, fR, tkR, tvR, bk), (n, sy, k, o, ke, va, fl, sg, cp, fs, la, nx, hd, dn, tg, bh), fr_X_BA_Bk1 (c_X_bound_f lL g (A 0) (A 1) (A 6) (A 11) (A 26) (A 17) (A 19) un (fun j => A (27 + 2 * j)) (A 30) ((bk 1).1) ((bk 1).2.1) ((bk 1).2.2.1) ((bk 1).2.2.2.1) ((bk 1).2.2.2.2.1) ((bk 1).2.2.2.2.2.1) ((bk 1).2.2.2.2.2.2) 1 b (by omega) (by rw [f0]; exact if_neg hz)), ⟨6, 200, by omega, by omega, c_M_bound_f lL g (B 0) (B 1) (B 2) (B 3) (B 4) (B 5) (B 6) (B 7) (B 8) (B 9) (B 10) n sy k o ke va fl sg cp fs la nx hd dn tg bh 1 b (by omega) hz s0⟩, hsame⟩
    · obtain ⟨s0, -, f0, h4, -, h6⟩ := hB 2 (by omega)
      by_cases hz : sg 2 = 2
      · obtain ⟨e1, -⟩ := h4 (by omega)
        obtain ⟨-, e2, -⟩ := h6 hz
        rcases i32_cs b with hb | ⟨w, hw1, rfl⟩
        · exact ⟨(-1), (un, kX, oX, keX, vaX, n, sy, c, f, tk, tv, me, ms, dk, ds, du, hdX, hc, nx, rv, rr, cR, fR, tkR, tvR, bk), (n, sy, k, o, ke, va, fl, sg, cp, fs, la, nx, hd, dn, tg, bh), fr_X_BA_Bk2 (c_X_bound_x lL g (A 0) (A 1) (A 6) (A 11) (A 26) (A 17) (A 19) un (fun j => A (27 + 2 * j)) (A 32) ((bk 2).1) ((bk 2).2.1) ((bk 2).2.2.1) ((bk 2).2.2.2.1) ((bk 2).2.2.2.2.1) ((bk 2).2.2.2.2.2.1) ((bk 2).2.2.2.2.2.2) 2 b (by omega) (by rw [f0]; exact if_pos hz) (fun z => by rw [z] at hb; exact absurd hb (by decide)) (fun z => by rw [z] at hb; exact absurd hb (by decide))), ⟨6, 200, by omega, by omega, c_M_bound_xn lL g (B 0) (B 1) (B 2) (B 3) (B 4) (B 5) (B 6) (B 7) (B 8) (B 9) (B 10) n sy k o ke va fl sg cp fs la nx hd dn tg bh 2 b (by omega) hz hb⟩, hsame⟩
        rcases (show w = 0 ∨ w = 1 ∨ 2 ≤ w by omega) with rfl | rfl | hw
        · exact ⟨(nI (bk 2).2.2.2.1), (un, kX, oX, keX, vaX, n, sy, c, f, tk, tv, me, ms, dk, ds, du, hdX, hc, nx, rv, rr, cR, fR, tkR, tvR, bk), (n, sy, k, o, ke, va, fl, sg, cp, fs, la, nx, hd, dn, tg, bh), fr_X_BA_Bk2 (c_X_bound_0 lL g (A 0) (A 1) (A 6) (A 11) (A 26) (A 17) (A 19) un (fun j => A (27 + 2 * j)) (A 32) ((bk 2).1) ((bk 2).2.1) ((bk 2).2.2.1) ((bk 2).2.2.2.1) ((bk 2).2.2.2.2.1) ((bk 2).2.2.2.2.2.1) ((bk 2).2.2.2.2.2.2) 2 (by omega) (by rw [f0]; exact if_pos hz)), ⟨6, 200, by omega, by omega, Ct.res (congrArg nI e1) (c_M_bound_0 lL g (B 0) (B 1) (B 2) (B 3) (B 4) (B 5) (B 6) (B 7) (B 8) (B 9) (B 10) n sy k o ke va fl sg cp fs la nx hd dn tg bh 2 (by omega) hz)⟩, hsame⟩
        · exact ⟨(nI (bk 2).2.2.2.2.2.1), (un, kX, oX, keX, vaX, n, sy, c, f, tk, tv, me, ms, dk, ds, du, hdX, hc, nx, rv, rr, cR, fR, tkR, tvR, bk), (n, sy, k, o, ke, va, fl, sg, cp, fs, la, nx, hd, dn, tg, bh), fr_X_BA_Bk2 (c_X_bound_1 lL g (A 0) (A 1) (A 6) (A 11) (A 26) (A 17) (A 19) un (fun j => A (27 + 2 * j)) (A 32) ((bk 2).1) ((bk 2).2.1) ((bk 2).2.2.1) ((bk 2).2.2.2.1) ((bk 2).2.2.2.2.1) ((bk 2).2.2.2.2.2.1) ((bk 2).2.2.2.2.2.2) 2 (by omega) (by rw [f0]; exact if_pos hz)), ⟨6, 200, by omega, by omega, Ct.res (congrArg nI e2) (c_M_bound_1 lL g (B 0) (B 1) (B 2) (B 3) (B 4) (B 5) (B 6) (B 7) (B 8) (B 9) (B 10) n sy k o ke va fl sg cp fs la nx hd dn tg bh 2 (by omega) hz)⟩, hsame⟩
        · exact ⟨(-1), (un, kX, oX, keX, vaX, n, sy, c, f, tk, tv, me, ms, dk, ds, du, hdX, hc, nx, rv, rr, cR, fR, tkR, tvR, bk), (n, sy, k, o, ke, va, fl, sg, cp, fs, la, nx, hd, dn, tg, bh), fr_X_BA_Bk2 (c_X_bound_x lL g (A 0) (A 1) (A 6) (A 11) (A 26) (A 17) (A 19) un (fun j => A (27 + 2 * j)) (A 32) ((bk 2).1) ((bk 2).2.1) ((bk 2).2.2.1) ((bk 2).2.2.2.1) ((bk 2).2.2.2.2.1) ((bk 2).2.2.2.2.2.1) ((bk 2).2.2.2.2.2.2) 2 (nI w) (by omega) (by rw [f0]; exact if_pos hz) (fun z => by have := ni_inj (b := 0) (by omega) (by omega) z; omega) (fun z => by have := ni_inj (b := 1) (by omega) (by omega) z; omega)), ⟨6, 200, by omega, by omega, c_M_bound_xg lL g (B 0) (B 1) (B 2) (B 3) (B 4) (B 5) (B 6) (B 7) (B 8) (B 9) (B 10) n sy k o ke va fl sg cp fs la nx hd dn tg bh 2 w (by omega) hz (by omega) (by omega)⟩, hsame⟩
      · exact ⟨(-1), (un, kX, oX, keX, vaX, n, sy, c, f, tk, tv, me, ms, dk, ds, du, hdX, hc, nx, rv, rr, cR, fR, tkR, tvR, bk), (n, sy, k, o, ke, va, fl, sg, cp, fs, la, nx, hd, dn, tg, bh), fr_X_BA_Bk2 (c_X_bound_f lL g (A 0) (A 1) (A 6) (A 11) (A 26) (A 17) (A 19) un (fun j => A (27 + 2 * j)) (A 32) ((bk 2).1) ((bk 2).2.1) ((bk 2).2.2.1) ((bk 2).2.2.2.1) ((bk 2).2.2.2.2.1) ((bk 2).2.2.2.2.2.1) ((bk 2).2.2.2.2.2.2) 2 b (by omega) (by rw [f0]; exact if_neg hz)), ⟨6, 200, by omega, by omega, c_M_bound_f lL g (B 0) (B 1) (B 2) (B 3) (B 4) (B 5) (B 6) (B 7) (B 8) (B 9) (B 10) n sy k o ke va fl sg cp fs la nx hd dn tg bh 2 b (by omega) hz s0⟩, hsame⟩
  · exact ⟨(-1), (un, kX, oX, keX, vaX, n, sy, c, f, tk, tv, me, ms, dk, ds, du, hdX, hc, nx, rv, rr, cR, fR, tkR, tvR, bk), (n, sy, k, o, ke, va, fl, sg, cp, fs, la, nx, hd, dn, tg, bh), fr_X (c_X_bound_g lL g (A 0) (A 1) (A 6) (A 11) (A 26) (A 17) (A 19) un j b hj hj1), ⟨6, 200, by omega, by omega, c_M_bound_g lL g (B 0) (B 1) (B 2) (B 3) (B 4) (B 5) (B 6) (B 7) (B 8) (B 9) (B 10) n sy k o ke va fl sg cp fs la nx hd dn tg bh j b (by omega) (by omega)⟩, hsame⟩
set_option maxRecDepth 20000 in
theorem S_archive (lL : Launch) (g : Gt) (A B : Nat → Nat) {i : Nat} {s : SX} {m : SM} (hi : i < 512) (h : INV i s m) : SIM lL g A B i s m y_X_archive y_M_archive (.code y_X_archive b_X_archive 1 (some .int)) (.code y_M_archive b_M_archive 1 (some .int)) [] := by
  obtain ⟨un, kX, oX, keX, vaX, nX, syX, c, f, tk, tv, me, ms, dk, ds, du, hdX, hc, nxX, rv, rr, cR, fR, tkR, tvR, bk⟩ := s
  obtain ⟨n, sy, k, o, ke, va, fl, sg, cp, fs, la, nx, hd, dn, tg, bh⟩ := m
  obtain ⟨e1, e2, e3, hni, hL, hT, hP, hB, hU, hR, hZ⟩ := h
  subst e1; subst e2; subst e3
  have hsame : INV (i + 1) (un, kX, oX, keX, vaX, n, sy, c, f, tk, tv, me, ms, dk, ds, du, hdX, hc, nx, rv, rr, cR, fR, tkR, tvR, bk) (n, sy, k, o, ke, va, fl, sg, cp, fs, la, nx, hd, dn, tg, bh) := ⟨rfl, rfl, rfl, by omega, hL, hT, hP, hB, hU, hR, hZ⟩
  have hsn := hL.1
  have hR0 := hR
  obtain ⟨r1, r2, r3, r4, r5, r6, r7⟩ := hR0
  rcases Nat.lt_or_ge sy (8 * nx + 8) with hw | hw
  · by_cases hx : nx = 64
    · exact ⟨(-3), (un, kX, oX, keX, vaX, n, sy, c, f, tk, tv, me, ms, dk, ds, du, hdX, hc, nx, rv, rr, cR, fR, tkR, tvR, bk), (n, sy, k, o, ke, va, fl, sg, cp, fs, la, nx, hd, dn, tg, bh), fr_X_Log_Ar (c_X_archive_e lL g (A 0) (A 1) (A 6) (A 11) (A 26) (A 17) (A 19) un (A 2) (A 3) (A 4) (A 5) kX oX keX vaX n sy (A 18) hdX hc nx (by omega)), ⟨6, 200, by omega, by omega, c_M_archive_n lL g (B 0) (B 1) (B 2) (B 3) (B 4) (B 5) (B 6) (B 7) (B 8) (B 9) (B 10) n sy k o ke va fl sg cp fs la nx hd dn tg bh (by omega) (by omega) (by omega)⟩, hsame⟩
    · exact ⟨(-3), (un, kX, oX, keX, vaX, n, sy, c, f, tk, tv, me, ms, dk, ds, du, hdX, hc, nx, rv, rr, cR, fR, tkR, tvR, bk), (n, sy, k, o, ke, va, fl, sg, cp, fs, la, nx, hd, dn, tg, bh), fr_X_Log_Ar (c_X_archive_n lL g (A 0) (A 1) (A 6) (A 11) (A 26) (A 17) (A 19) un (A 2) (A 3) (A 4) (A 5) kX oX keX vaX n sy (A 18) hdX hc nx (by omega) (by omega) (by omega)), ⟨6, 200, by omega, by omega, c_M_archive_n lL g (B 0) (B 1) (B 2) (B 3) (B 4) (B 5) (B 6) (B 7) (B 8) (B 9) (B 10) n sy k o ke va fl sg cp fs la nx hd dn tg bh (by omega) (by omega) (by omega)⟩, hsame⟩
  · by_cases hh : hc = 10
    · exact ⟨(-2), (un, kX, oX, keX, vaX, n, sy, c, f, tk, tv, me, ms, dk, ds, du, hdX, hc, nx, rv, rr, cR, fR, tkR, tvR, bk), (n, sy, k, o, ke, va, fl, sg, cp, fs, la, nx, hd, dn, tg, bh), fr_X_Log_Ar (c_X_archive_f lL g (A 0) (A 1) (A 6) (A 11) (A 26) (A 17) (A 19) un (A 2) (A 3) (A 4) (A 5) kX oX keX vaX n sy (A 18) hdX hc nx (by omega) (by omega) (by omega)), ⟨6, 200, by omega, by omega, c_M_archive_f lL g (B 0) (B 1) (B 2) (B 3) (B 4) (B 5) (B 6) (B 7) (B 8) (B 9) (B 10) n sy k o ke va fl sg cp fs la nx hd dn tg bh (by omega) (by omega) (by omega) r3 (by omega)⟩, hsame⟩
    · have hn0 := r5 nx (Nat.le_refl _) (by omega)
      have hup := hoS_up hd 66 0 (s := nx) (v := 1) (by omega) (by omega)
      rw [if_neg (by omega), if_pos (by decide)] at hup
      refine ⟨(nI nx), (un, kX, oX, keX, vaX, n, sy, c, f, tk, tv, me, ms, dk, ds, du, va_up hdX nx 1, hc + 1, nx + 1, rv, rr, cR, fR, tkR, tvR, bk), (n, sy, k, o, ke, va, fl, sg, cp, fs, la, nx + 1, va_up hd nx 1, dn, tg, bh), fr_X_Log_Arx (c_X_archive_t lL g (A 0) (A 1) (A 6) (A 11) (A 26) (A 17) (A 19) un (A 2) (A 3) (A 4) (A 5) kX oX keX vaX n sy (A 18) hdX hc nx (by omega) (by omega) (by omega)), ⟨6, 200, by omega, by omega, Ct.res (congrArg nI (by omega)) (c_M_archive_t lL g (B 0) (B 1) (B 2) (B 3) (B 4) (B 5) (B 6) (B 7) (B 8) (B 9) (B 10) n sy k o ke va fl sg cp fs la nx hd dn tg bh (by omega) (by omega) (by omega) r3 (by omega))⟩, ⟨rfl, rfl, rfl, by omega, hL, hT, hP, hB, hU, ⟨by omega, by omega, ?_, ?_, ?_, by omega, by omega⟩, hZ⟩⟩
      · intro q hq
        unfold va_up
        split
        · exact Or.inr rfl
        · exact r3 q hq
      · intro q hq
        unfold va_up
        split
        · rfl
        · exact r4 q hq
      · intro q h1 h2
        rw [va_up_ne _ _ (by omega)]
        exact r5 q (by omega) h2
set_option maxRecDepth 20000 in
theorem S_drop (lL : Launch) (g : Gt) (A B : Nat → Nat) {i : Nat} {s : SX} {m : SM} (hi : i < 512) (h : INV i s m) (a : Int32) : SIM lL g A B i s m y_X_drop y_M_drop (.code y_X_drop b_X_drop 2 (some .boolean)) (.code y_M_drop b_M_drop 2 (some .boolean)) [.int a] := by
  obtain ⟨un, kX, oX, keX, vaX, nX, syX, c, f, tk, tv, me, ms, dk, ds, du, hdX, hc, nxX, rv, rr, cR, fR, tkR, tvR, bk⟩ := s
  obtain ⟨n, sy, k, o, ke, va, fl, sg, cp, fs, la, nx, hd, dn, tg, bh⟩ := m
  obtain ⟨e1, e2, e3, hni, hL, hT, hP, hB, hU, hR, hZ⟩ := h
  subst e1; subst e2; subst e3
  have hsame : INV (i + 1) (un, kX, oX, keX, vaX, n, sy, c, f, tk, tv, me, ms, dk, ds, du, hdX, hc, nx, rv, rr, cR, fR, tkR, tvR, bk) (n, sy, k, o, ke, va, fl, sg, cp, fs, la, nx, hd, dn, tg, bh) := ⟨rfl, rfl, rfl, by omega, hL, hT, hP, hB, hU, hR, hZ⟩
  have hsn := hL.1
  have hR0 := hR
  obtain ⟨r1, r2, r3, r4, r5, r6, r7⟩ := hR0
  rcases i32_cs a with ha | ⟨q, hq1, rfl⟩
  · exact ⟨(nI 0), (un, kX, oX, keX, vaX, n, sy, c, f, tk, tv, me, ms, dk, ds, du, hdX, hc, nx, rv, rr, cR, fR, tkR, tvR, bk), (n, sy, k, o, ke, va, fl, sg, cp, fs, la, nx, hd, dn, tg, bh), fr_X_Ar (c_X_drop_n lL g (A 0) (A 1) (A 6) (A 11) (A 26) (A 17) (A 19) un (A 18) hdX hc nx a ha), ⟨6, 200, by omega, by omega, c_M_drop_n lL g (B 0) (B 1) (B 2) (B 3) (B 4) (B 5) (B 6) (B 7) (B 8) (B 9) (B 10) n sy k o ke va fl sg cp fs la nx hd dn tg bh a ha⟩, hsame⟩
  rcases Nat.lt_or_ge q nx with hx | hx
  · have e := r4 q (by omega)
    rcases r3 q (by omega) with hz | hz
    · exact ⟨(nI 0), (un, kX, oX, keX, vaX, n, sy, c, f, tk, tv, me, ms, dk, ds, du, hdX, hc, nx, rv, rr, cR, fR, tkR, tvR, bk), (n, sy, k, o, ke, va, fl, sg, cp, fs, la, nx, hd, dn, tg, bh), fr_X_Ar (c_X_drop_f lL g (A 0) (A 1) (A 6) (A 11) (A 26) (A 17) (A 19) un (A 18) hdX hc nx q (by omega) (by omega) (e.trans hz)), ⟨6, 200, by omega, by omega, c_M_drop_f lL g (B 0) (B 1) (B 2) (B 3) (B 4) (B 5) (B 6) (B 7) (B 8) (B 9) (B 10) n sy k o ke va fl sg cp fs la nx hd dn tg bh q (by omega) hz⟩, hsame⟩
    · have hup := hoS_up hd 66 0 (s := q) (v := 0) (by omega) (by omega)
      rw [if_pos (by omega), if_neg (by decide)] at hup
      refine ⟨(nI 1), (un, kX, oX, keX, vaX, n, sy, c, f, tk, tv, me, ms, dk, ds, du, va_up hdX q 0, hc - 1, nx, rv, rr, cR, fR, tkR, tvR, bk), (n, sy, k, o, ke, va, fl, sg, cp, fs, la, nx, va_up hd q 0, dn, tg, bh), fr_X_Arx (c_X_drop_t lL g (A 0) (A 1) (A 6) (A 11) (A 26) (A 17) (A 19) un (A 18) hdX hc nx q (by omega) (by omega) (e.trans hz) (by omega)), ⟨6, 200, by omega, by omega, c_M_drop_t lL g (B 0) (B 1) (B 2) (B 3) (B 4) (B 5) (B 6) (B 7) (B 8) (B 9) (B 10) n sy k o ke va fl sg cp fs la nx hd dn tg bh q (by omega) hz⟩, ⟨rfl, rfl, rfl, by omega, hL, hT, hP, hB, hU, ⟨r1, r2, ?_, ?_, ?_, by omega, by omega⟩, hZ⟩⟩
      · intro p hp
        unfold va_up
        split
        · exact Or.inl rfl
        · exact r3 p hp
      · intro p hp
        unfold va_up
        split
        · rfl
        · exact r4 p hp
      · intro p h1 h2
        unfold va_up
        split
        · rfl
        · exact r5 p h1 h2
  · rcases Nat.lt_or_ge q 66 with h6 | h6
    · exact ⟨(nI 0), (un, kX, oX, keX, vaX, n, sy, c, f, tk, tv, me, ms, dk, ds, du, hdX, hc, nx, rv, rr, cR, fR, tkR, tvR, bk), (n, sy, k, o, ke, va, fl, sg, cp, fs, la, nx, hd, dn, tg, bh), fr_X_Ar (c_X_drop_g lL g (A 0) (A 1) (A 6) (A 11) (A 26) (A 17) (A 19) un (A 18) hdX hc nx q (by omega) (by omega) (by omega)), ⟨6, 200, by omega, by omega, c_M_drop_f lL g (B 0) (B 1) (B 2) (B 3) (B 4) (B 5) (B 6) (B 7) (B 8) (B 9) (B 10) n sy k o ke va fl sg cp fs la nx hd dn tg bh q (by omega) (r5 q hx h6)⟩, hsame⟩
    · exact ⟨(nI 0), (un, kX, oX, keX, vaX, n, sy, c, f, tk, tv, me, ms, dk, ds, du, hdX, hc, nx, rv, rr, cR, fR, tkR, tvR, bk), (n, sy, k, o, ke, va, fl, sg, cp, fs, la, nx, hd, dn, tg, bh), fr_X_Ar (c_X_drop_g lL g (A 0) (A 1) (A 6) (A 11) (A 26) (A 17) (A 19) un (A 18) hdX hc nx q (by omega) (by omega) (by omega)), ⟨6, 200, by omega, by omega, c_M_drop_g lL g (B 0) (B 1) (B 2) (B 3) (B 4) (B 5) (B 6) (B 7) (B 8) (B 9) (B 10) n sy k o ke va fl sg cp fs la nx hd dn tg bh q (by omega) (by omega)⟩, hsame⟩
set_option maxRecDepth 20000 in
theorem S_reach (lL : Launch) (g : Gt) (A B : Nat → Nat) {i : Nat} {s : SX} {m : SM} (hi : i < 512) (h : INV i s m) (a : Int32) : SIM lL g A B i s m y_X_reach y_M_reach (.code y_X_reach b_X_reach 5 (some .int)) (.code y_M_reach b_M_reach 3 (some .int)) [.int a] := by
  obtain ⟨un, kX, oX, keX, vaX, nX, syX, c, f, tk, tv, me, ms, dk, ds, du, hdX, hc, nxX, rv, rr, cR, fR, tkR, tvR, bk⟩ := s
  obtain ⟨n, sy, k, o, ke, va, fl, sg, cp, fs, la, nx, hd, dn, tg, bh⟩ := m
  obtain ⟨e1, e2, e3, hni, hL, hT, hP, hB, hU, hR, hZ⟩ := h
  subst e1; subst e2; subst e3
  have hsame : INV (i + 1) (un, kX, oX, keX, vaX, n, sy, c, f, tk, tv, me, ms, dk, ds, du, hdX, hc, nx, rv, rr, cR, fR, tkR, tvR, bk) (n, sy, k, o, ke, va, fl, sg, cp, fs, la, nx, hd, dn, tg, bh) := ⟨rfl, rfl, rfl, by omega, hL, hT, hP, hB, hU, hR, hZ⟩
  have hsn := hL.1
  rcases i32_cs a with ha | ⟨j, hj1, rfl⟩
  · exact ⟨(-1), (un, kX, oX, keX, vaX, n, sy, c, f, tk, tv, me, ms, dk, ds, du, hdX, hc, nx, rv, rr, cR, fR, tkR, tvR, bk), (n, sy, k, o, ke, va, fl, sg, cp, fs, la, nx, hd, dn, tg, bh), fr_X (c_X_reach_n lL g (A 0) (A 1) (A 6) (A 11) (A 26) (A 17) (A 19) un a ha), ⟨6, 200, by omega, by omega, c_M_reach_n lL g (B 0) (B 1) (B 2) (B 3) (B 4) (B 5) (B 6) (B 7) (B 8) (B 9) (B 10) n sy k o ke va fl sg cp fs la nx hd dn tg bh a ha⟩, hsame⟩
  rcases Nat.lt_or_ge j 3 with hj | hj
  · rcases (show j = 0 ∨ j = 1 ∨ j = 2 by omega) with rfl | rfl | rfl
    · obtain ⟨s0, -, f0, h4, -, h6⟩ := hB 0 (by omega)
      by_cases hz : sg 0 = 2
      · obtain ⟨e1, -, e3, e4, -⟩ := h4 (by omega)
        obtain ⟨-, e2, e5, e6⟩ := h6 hz
        obtain ⟨g1, g2, g3, g4, g5⟩ := rAr_gap hR (st := (bk 0).2.2.2.1) (by omega) _ rfl
        have hGn : ∀ i, (bk 0).2.2.2.1 < i → i ≤ hgS hdX nx ((bk 0).2.2.2.1 / 8) (64 - (bk 0).2.2.2.1 / 8) * 8 → i ≤ n := fun i i1 i2 => by
          have := g5 (by omega)
          omega
        have hk8 : ∀ i, i < 8 * hgS hdX nx ((bk 0).2.2.2.1 / 8) (64 - (bk 0).2.2.2.1 / 8) → k i < 4 := fun i hi => (hL.2.2 i (by
          rcases Nat.lt_or_ge ((bk 0).2.2.2.1 / 8) (hgS hdX nx ((bk 0).2.2.2.1 / 8) (64 - (bk 0).2.2.2.1 / 8)) with z | z
          · have := g5 z; omega
          · omega)).1
        have er : rcR kX (bk 0).2.2.2.1 (bk 0).2.2.2.2.2.1 (hgS hdX nx ((bk 0).2.2.2.1 / 8) (64 - (bk 0).2.2.2.1 / 8) * 8) = reS k (fs 0) (la 0) (hgS hdX nx ((bk 0).2.2.2.1 / 8) (64 - (bk 0).2.2.2.1 / 8)) 529 := by
          rw [e1, e2, reach_eq (by omega) (by omega) g2]
          exact rcR_congr _ (fun i i1 i2 => (hL.2.2 i (by have := hGn (i + 1) (by omega) (by omega); omega)).2.1)
        exact ⟨_, (un, kX, oX, keX, vaX, n, sy, c, f, tk, tv, me, ms, dk, ds, du, hdX, hc, nx, rv, rr, cR, fR, tkR, tvR, bk), (n, sy, k, o, ke, va, fl, sg, cp, fs, la, nx, hd, dn, tg, bh), Ct.res er (fr_X_BA_Bk0_Ar_Log (c_X_reach_t lL g (A 0) (A 1) (A 6) (A 11) (A 26) (A 17) (A 19) un (fun j => A (27 + 2 * j)) (A 28) ((bk 0).1) ((bk 0).2.1) ((bk 0).2.2.1) ((bk 0).2.2.2.1) ((bk 0).2.2.2.2.1) ((bk 0).2.2.2.2.2.1) ((bk 0).2.2.2.2.2.2) (A 18) hdX hc nx (A 2) (A 3) (A 4) (A 5) kX oX keX vaX n sy 0 (by omega) (by rw [f0]; exact if_pos hz) (by omega) (by omega) hR.1 (fun q hq => by rw [hR.2.2.2.1 q hq]; exact hR.2.2.1 q (by omega)) (by omega) (fun i hi => by rw [(hL.2.2 i hi).2.1]; exact (hL.2.2 i hi).1) hGn)), ⟨6, 200, by omega, by omega, c_M_reach_t lL g (B 0) (B 1) (B 2) (B 3) (B 4) (B 5) (B 6) (B 7) (B 8) (B 9) (B 10) n sy k o ke va fl sg cp fs la nx hd dn tg bh 0 (hgS hdX nx ((bk 0).2.2.2.1 / 8) (64 - (bk 0).2.2.2.1 / 8)) (by omega) hz (by omega) (by omega) (by omega) (by rw [e1]; exact g1) (by omega) (by rw [e1]; exact g3) g4 (fun i hi => hk8 i hi)⟩, hsame⟩
      · exact ⟨(-1), (un, kX, oX, keX, vaX, n, sy, c, f, tk, tv, me, ms, dk, ds, du, hdX, hc, nx, rv, rr, cR, fR, tkR, tvR, bk), (n, sy, k, o, ke, va, fl, sg, cp, fs, la, nx, hd, dn, tg, bh), fr_X_BA_Bk0 (c_X_reach_f lL g (A 0) (A 1) (A 6) (A 11) (A 26) (A 17) (A 19) un (fun j => A (27 + 2 * j)) (A 28) ((bk 0).1) ((bk 0).2.1) ((bk 0).2.2.1) ((bk 0).2.2.2.1) ((bk 0).2.2.2.2.1) ((bk 0).2.2.2.2.2.1) ((bk 0).2.2.2.2.2.2) 0 (by omega) (by rw [f0]; exact if_neg hz)), ⟨6, 200, by omega, by omega, c_M_reach_f lL g (B 0) (B 1) (B 2) (B 3) (B 4) (B 5) (B 6) (B 7) (B 8) (B 9) (B 10) n sy k o ke va fl sg cp fs la nx hd dn tg bh 0 (by omega) hz s0⟩, hsame⟩
    · obtain ⟨s0, -, f0, h4, -, h6⟩ := hB 1 (by omega)
      by_cases hz : sg 1 = 2
      · obtain ⟨e1, -, e3, e4, -⟩ := h4 (by omega)
        obtain ⟨-, e2, e5, e6⟩ := h6 hz
        obtain ⟨g1, g2, g3, g4, g5⟩ := rAr_gap hR (st := (bk 1).2.2.2.1) (by omega) _ rfl
        have hGn : ∀ i, (bk 1).2.2.2.1 < i → i ≤ hgS hdX nx ((bk 1).2.2.2.1 / 8) (64 - (bk 1).2.2.2.1 / 8) * 8 → i ≤ n := fun i i1 i2 => by
          have := g5 (by omega)
          omega
        have hk8 : ∀ i, i < 8 * hgS hdX nx ((bk 1).2.2.2.1 / 8) (64 - (bk 1).2.2.2.1 / 8) → k i < 4 := fun i hi => (hL.2.2 i (by
          rcases Nat.lt_or_ge ((bk 1).2.2.2.1 / 8) (hgS hdX nx ((bk 1).2.2.2.1 / 8) (64 - (bk 1).2.2.2.1 / 8)) with z | z
          · have := g5 z; omega
          · omega)).1
        have er : rcR kX (bk 1).2.2.2.1 (bk 1).2.2.2.2.2.1 (hgS hdX nx ((bk 1).2.2.2.1 / 8) (64 - (bk 1).2.2.2.1 / 8) * 8) = reS k (fs 1) (la 1) (hgS hdX nx ((bk 1).2.2.2.1 / 8) (64 - (bk 1).2.2.2.1 / 8)) 529 := by
          rw [e1, e2, reach_eq (by omega) (by omega) g2]
          exact rcR_congr _ (fun i i1 i2 => (hL.2.2 i (by have := hGn (i + 1) (by omega) (by omega); omega)).2.1)
        exact ⟨_, (un, kX, oX, keX, vaX, n, sy, c, f, tk, tv, me, ms, dk, ds, du, hdX, hc, nx, rv, rr, cR, fR, tkR, tvR, bk), (n, sy, k, o, ke, va, fl, sg, cp, fs, la, nx, hd, dn, tg, bh), Ct.res er (fr_X_BA_Bk1_Ar_Log (c_X_reach_t lL g (A 0) (A 1) (A 6) (A 11) (A 26) (A 17) (A 19) un (fun j => A (27 + 2 * j)) (A 30) ((bk 1).1) ((bk 1).2.1) ((bk 1).2.2.1) ((bk 1).2.2.2.1) ((bk 1).2.2.2.2.1) ((bk 1).2.2.2.2.2.1) ((bk 1).2.2.2.2.2.2) (A 18) hdX hc nx (A 2) (A 3) (A 4) (A 5) kX oX keX vaX n sy 1 (by omega) (by rw [f0]; exact if_pos hz) (by omega) (by omega) hR.1 (fun q hq => by rw [hR.2.2.2.1 q hq]; exact hR.2.2.1 q (by omega)) (by omega) (fun i hi => by rw [(hL.2.2 i hi).2.1]; exact (hL.2.2 i hi).1) hGn)), ⟨6, 200, by omega, by omega, c_M_reach_t lL g (B 0) (B 1) (B 2) (B 3) (B 4) (B 5) (B 6) (B 7) (B 8) (B 9) (B 10) n sy k o ke va fl sg cp fs la nx hd dn tg bh 1 (hgS hdX nx ((bk 1).2.2.2.1 / 8) (64 - (bk 1).2.2.2.1 / 8)) (by omega) hz (by omega) (by omega) (by omega) (by rw [e1]; exact g1) (by omega) (by rw [e1]; exact g3) g4 (fun i hi => hk8 i hi)⟩, hsame⟩
      · exact ⟨(-1), (un, kX, oX, keX, vaX, n, sy, c, f, tk, tv, me, ms, dk, ds, du, hdX, hc, nx, rv, rr, cR, fR, tkR, tvR, bk), (n, sy, k, o, ke, va, fl, sg, cp, fs, la, nx, hd, dn, tg, bh), fr_X_BA_Bk1 (c_X_reach_f lL g (A 0) (A 1) (A 6) (A 11) (A 26) (A 17) (A 19) un (fun j => A (27 + 2 * j)) (A 30) ((bk 1).1) ((bk 1).2.1) ((bk 1).2.2.1) ((bk 1).2.2.2.1) ((bk 1).2.2.2.2.1) ((bk 1).2.2.2.2.2.1) ((bk 1).2.2.2.2.2.2) 1 (by omega) (by rw [f0]; exact if_neg hz)), ⟨6, 200, by omega, by omega, c_M_reach_f lL g (B 0) (B 1) (B 2) (B 3) (B 4) (B 5) (B 6) (B 7) (B 8) (B 9) (B 10) n sy k o ke va fl sg cp fs la nx hd dn tg bh 1 (by omega) hz s0⟩, hsame⟩
    · obtain ⟨s0, -, f0, h4, -, h6⟩ := hB 2 (by omega)
      by_cases hz : sg 2 = 2
      · obtain ⟨e1, -, e3, e4, -⟩ := h4 (by omega)
        obtain ⟨-, e2, e5, e6⟩ := h6 hz
        obtain ⟨g1, g2, g3, g4, g5⟩ := rAr_gap hR (st := (bk 2).2.2.2.1) (by omega) _ rfl
        have hGn : ∀ i, (bk 2).2.2.2.1 < i → i ≤ hgS hdX nx ((bk 2).2.2.2.1 / 8) (64 - (bk 2).2.2.2.1 / 8) * 8 → i ≤ n := fun i i1 i2 => by
          have := g5 (by omega)
          omega
        have hk8 : ∀ i, i < 8 * hgS hdX nx ((bk 2).2.2.2.1 / 8) (64 - (bk 2).2.2.2.1 / 8) → k i < 4 := fun i hi => (hL.2.2 i (by
          rcases Nat.lt_or_ge ((bk 2).2.2.2.1 / 8) (hgS hdX nx ((bk 2).2.2.2.1 / 8) (64 - (bk 2).2.2.2.1 / 8)) with z | z
          · have := g5 z; omega
          · omega)).1
        have er : rcR kX (bk 2).2.2.2.1 (bk 2).2.2.2.2.2.1 (hgS hdX nx ((bk 2).2.2.2.1 / 8) (64 - (bk 2).2.2.2.1 / 8) * 8) = reS k (fs 2) (la 2) (hgS hdX nx ((bk 2).2.2.2.1 / 8) (64 - (bk 2).2.2.2.1 / 8)) 529 := by
          rw [e1, e2, reach_eq (by omega) (by omega) g2]
          exact rcR_congr _ (fun i i1 i2 => (hL.2.2 i (by have := hGn (i + 1) (by omega) (by omega); omega)).2.1)
        exact ⟨_, (un, kX, oX, keX, vaX, n, sy, c, f, tk, tv, me, ms, dk, ds, du, hdX, hc, nx, rv, rr, cR, fR, tkR, tvR, bk), (n, sy, k, o, ke, va, fl, sg, cp, fs, la, nx, hd, dn, tg, bh), Ct.res er (fr_X_BA_Bk2_Ar_Log (c_X_reach_t lL g (A 0) (A 1) (A 6) (A 11) (A 26) (A 17) (A 19) un (fun j => A (27 + 2 * j)) (A 32) ((bk 2).1) ((bk 2).2.1) ((bk 2).2.2.1) ((bk 2).2.2.2.1) ((bk 2).2.2.2.2.1) ((bk 2).2.2.2.2.2.1) ((bk 2).2.2.2.2.2.2) (A 18) hdX hc nx (A 2) (A 3) (A 4) (A 5) kX oX keX vaX n sy 2 (by omega) (by rw [f0]; exact if_pos hz) (by omega) (by omega) hR.1 (fun q hq => by rw [hR.2.2.2.1 q hq]; exact hR.2.2.1 q (by omega)) (by omega) (fun i hi => by rw [(hL.2.2 i hi).2.1]; exact (hL.2.2 i hi).1) hGn)), ⟨6, 200, by omega, by omega, c_M_reach_t lL g (B 0) (B 1) (B 2) (B 3) (B 4) (B 5) (B 6) (B 7) (B 8) (B 9) (B 10) n sy k o ke va fl sg cp fs la nx hd dn tg bh 2 (hgS hdX nx ((bk 2).2.2.2.1 / 8) (64 - (bk 2).2.2.2.1 / 8)) (by omega) hz (by omega) (by omega) (by omega) (by rw [e1]; exact g1) (by omega) (by rw [e1]; exact g3) g4 (fun i hi => hk8 i hi)⟩, hsame⟩
      · exact ⟨(-1), (un, kX, oX, keX, vaX, n, sy, c, f, tk, tv, me, ms, dk, ds, du, hdX, hc, nx, rv, rr, cR, fR, tkR, tvR, bk), (n, sy, k, o, ke, va, fl, sg, cp, fs, la, nx, hd, dn, tg, bh), fr_X_BA_Bk2 (c_X_reach_f lL g (A 0) (A 1) (A 6) (A 11) (A 26) (A 17) (A 19) un (fun j => A (27 + 2 * j)) (A 32) ((bk 2).1) ((bk 2).2.1) ((bk 2).2.2.1) ((bk 2).2.2.2.1) ((bk 2).2.2.2.2.1) ((bk 2).2.2.2.2.2.1) ((bk 2).2.2.2.2.2.2) 2 (by omega) (by rw [f0]; exact if_neg hz)), ⟨6, 200, by omega, by omega, c_M_reach_f lL g (B 0) (B 1) (B 2) (B 3) (B 4) (B 5) (B 6) (B 7) (B 8) (B 9) (B 10) n sy k o ke va fl sg cp fs la nx hd dn tg bh 2 (by omega) hz s0⟩, hsame⟩
  · exact ⟨(-1), (un, kX, oX, keX, vaX, n, sy, c, f, tk, tv, me, ms, dk, ds, du, hdX, hc, nx, rv, rr, cR, fR, tkR, tvR, bk), (n, sy, k, o, ke, va, fl, sg, cp, fs, la, nx, hd, dn, tg, bh), fr_X (c_X_reach_g lL g (A 0) (A 1) (A 6) (A 11) (A 26) (A 17) (A 19) un j hj hj1), ⟨6, 200, by omega, by omega, c_M_reach_g lL g (B 0) (B 1) (B 2) (B 3) (B 4) (B 5) (B 6) (B 7) (B 8) (B 9) (B 10) n sy k o ke va fl sg cp fs la nx hd dn tg bh j (by omega) (by omega)⟩, hsame⟩
