theorem Ct.res {l : Launch} {g : Gt} {y : MethodName} {cy : Cond} {d z : Nat} {av : List Value} {w w' : va_W} {r r' : Int32} (e : r = r') (h : Ct l g y cy d z av w (exP (some (.int r)) w')) : Ct l g y cy d z av w (exP (some (.int r')) w') := by subst e; exact h
theorem rPg_ds {k : Nat → Nat} {o : Nat → Int32} {ke : Nat → Nat} {va : Nat → Int32} {n sy : Nat} {fl : Nat → Nat} {me ms dk : Nat → Int32} {ds du : Nat → Nat} (hn : n ≤ 512) (h : rPg k o ke va n sy fl me ms dk ds du) : ∀ j, j < 8 → ds j ≤ 512 := fun j hj => by
  obtain ⟨p1, p2, p3, p4, p5⟩ := h.1 j hj
  rcases p2 with ⟨q1, -⟩ | ⟨-, -, q3, -⟩ <;> omega
theorem up_ge {x : Nat} {f : Nat → Nat} {q n p : Nat} (h1 : x ≤ f p) (h2 : f p ≤ n) : x ≤ va_up f q n p := by
  unfold va_up
  split <;> omega
set_option maxRecDepth 20000 in
theorem S_flush (lL : Launch) (g : Gt) (A B : Nat → Nat) {i : Nat} {s : SX} {m : SM} (hi : i < 512) (h : INV i s m) (a : Int32) : SIM lL g A B i s m y_X_flush y_M_flush (.code y_X_flush b_X_flush 2 (some .int)) (.code y_M_flush b_M_flush 3 (some .int)) [.int a] := by
  obtain ⟨un, kX, oX, keX, vaX, nX, syX, c, f, tk, tv, me, ms, dk, ds, du, hdX, hc, nxX, rv, rr, cR, fR, tkR, tvR, bk⟩ := s
  obtain ⟨n, sy, k, o, ke, va, fl, sg, cp, fs, la, nx, hd, dn, tg, bh⟩ := m
  obtain ⟨e1, e2, e3, hni, hL, hT, hP, hB, hU, hR, hZ⟩ := h
  subst e1; subst e2; subst e3
  have hsame : INV (i + 1) (un, kX, oX, keX, vaX, n, sy, c, f, tk, tv, me, ms, dk, ds, du, hdX, hc, nx, rv, rr, cR, fR, tkR, tvR, bk) (n, sy, k, o, ke, va, fl, sg, cp, fs, la, nx, hd, dn, tg, bh) := ⟨rfl, rfl, rfl, by omega, hL, hT, hP, hB, hU, hR, hZ⟩
  have hsn := hL.1
  rcases i32_cs a with ha | ⟨q, hq1, rfl⟩
  · exact ⟨(-1), (un, kX, oX, keX, vaX, n, sy, c, f, tk, tv, me, ms, dk, ds, du, hdX, hc, nx, rv, rr, cR, fR, tkR, tvR, bk), (n, sy, k, o, ke, va, fl, sg, cp, fs, la, nx, hd, dn, tg, bh), fr_X (c_X_flush_n lL g (A 0) (A 1) (A 6) (A 11) (A 26) (A 17) (A 19) un a ha), ⟨6, 200, by omega, by omega, c_M_flush_n lL g (B 0) (B 1) (B 2) (B 3) (B 4) (B 5) (B 6) (B 7) (B 8) (B 9) (B 10) n sy k o ke va fl sg cp fs la nx hd dn tg bh a ha⟩, hsame⟩
  rcases Nat.lt_or_ge q 8 with hq | hq
  · obtain ⟨w1, w2⟩ := rPg_wait hq hP
    have hdq := rPg_ds (n := n) (by omega) hP q hq
    have huq := (hP.1 q hq).2.2.1
    rcases Nat.eq_zero_or_pos (ds q) with hz | hz
    · exact ⟨(nI 0), (un, kX, oX, keX, vaX, n, sy, c, f, tk, tv, me, ms, dk, ds, du, hdX, hc, nx, rv, rr, cR, fR, tkR, tvR, bk), (n, sy, k, o, ke, va, fl, sg, cp, fs, la, nx, hd, dn, tg, bh), fr_X_Log_Pg (c_X_flush_c lL g (A 0) (A 1) (A 6) (A 11) (A 26) (A 17) (A 19) un (A 2) (A 3) (A 4) (A 5) kX oX keX vaX n sy (A 12) (A 13) (A 14) (A 15) (A 16) me ms dk ds du q (by omega) (by omega)), ⟨6, 200, by omega, by omega, c_M_flush_c lL g (B 0) (B 1) (B 2) (B 3) (B 4) (B 5) (B 6) (B 7) (B 8) (B 9) (B 10) n sy k o ke va fl sg cp fs la nx hd dn tg bh q (by omega) (by omega) (fun i hi => (hL.2.2 i (by omega)).1) (fun i hi h0 => ((hL.2.2 i (by omega)).2.2.2 h0).1) (Nat.le_trans (hP.1 q hq).1 (by omega)) (w1.mpr hz)⟩, hsame⟩
    · have hwp : 0 < wtL k o ke (fl q) q n := Nat.pos_of_ne_zero (fun z => by have := w1.mp z; omega)
      rcases Nat.lt_or_ge sy (du q) with hu | hu
      · exact ⟨(nI 1), (un, kX, oX, keX, vaX, n, n, c, f, tk, tv, me, va_cpy me ms 0 0 32, va_cpy me dk (q * 4) (q * 4) 4, va_up ds q 0, va_up du q 0, hdX, hc, nx, rv, rr, cR, fR, tkR, tvR, bk), (n, n, k, o, ke, va, va_up fl q n, sg, cp, fs, la, nx, hd, dn, tg, bh), fr_X_Logx_Pgx (c_X_flush_s lL g (A 0) (A 1) (A 6) (A 11) (A 26) (A 17) (A 19) un (A 2) (A 3) (A 4) (A 5) kX oX keX vaX n sy (A 12) (A 13) (A 14) (A 15) (A 16) me ms dk ds du q (by omega) (by omega) (by omega) (by omega) (by omega) (by omega) (by omega)), ⟨6, 200, by omega, by omega, c_M_flush_s lL g (B 0) (B 1) (B 2) (B 3) (B 4) (B 5) (B 6) (B 7) (B 8) (B 9) (B 10) n sy k o ke va fl sg cp fs la nx hd dn tg bh q (by omega) (by omega) (fun i hi => (hL.2.2 i (by omega)).1) (fun i hi h0 => ((hL.2.2 i (by omega)).2.2.2 h0).1) (Nat.le_trans (hP.1 q hq).1 (by omega)) (by omega) (w2.mpr hu)⟩, ⟨rfl, rfl, rfl, by omega, ⟨Nat.le_refl _, hL.2⟩, hT, rPg_flush hq huq (rPg_sync hP), fun b hb => rBk_agr (fun _ _ => ⟨rfl, rfl, rfl, rfl⟩) hL.1 (fun _ p hp h => up_ge h (hP.1 p hp).1) (hB b hb), hU, rAr_sy hL.1 hR, rRs_agr (fun _ _ => ⟨rfl, rfl, rfl, rfl⟩) hL.1 hZ⟩⟩
      · have hw2 : wtL k o ke (fl q) q n ≤ sy := Nat.le_of_not_lt (fun z => by have := w2.mp z; omega)
        exact ⟨(nI 1), (un, kX, oX, keX, vaX, n, sy, c, f, tk, tv, me, ms, va_cpy me dk (q * 4) (q * 4) 4, va_up ds q 0, va_up du q 0, hdX, hc, nx, rv, rr, cR, fR, tkR, tvR, bk), (n, sy, k, o, ke, va, va_up fl q n, sg, cp, fs, la, nx, hd, dn, tg, bh), fr_X_Log_Pgx (c_X_flush_d lL g (A 0) (A 1) (A 6) (A 11) (A 26) (A 17) (A 19) un (A 2) (A 3) (A 4) (A 5) kX oX keX vaX n sy (A 12) (A 13) (A 14) (A 15) (A 16) me ms dk ds du q (by omega) (by omega) (by omega) (by omega) (by omega) (by omega)), ⟨6, 200, by omega, by omega, c_M_flush_d lL g (B 0) (B 1) (B 2) (B 3) (B 4) (B 5) (B 6) (B 7) (B 8) (B 9) (B 10) n sy k o ke va fl sg cp fs la nx hd dn tg bh q (by omega) (by omega) (fun i hi => (hL.2.2 i (by omega)).1) (fun i hi h0 => ((hL.2.2 i (by omega)).2.2.2 h0).1) (Nat.le_trans (hP.1 q hq).1 (by omega)) (by omega) hwp hw2⟩, ⟨rfl, rfl, rfl, by omega, hL, hT, rPg_flush hq hu hP, fun b hb => rBk_agr (fun _ _ => ⟨rfl, rfl, rfl, rfl⟩) (Nat.le_refl _) (fun _ p hp h => up_ge h (hP.1 p hp).1) (hB b hb), hU, hR, hZ⟩⟩
  · exact ⟨(-1), (un, kX, oX, keX, vaX, n, sy, c, f, tk, tv, me, ms, dk, ds, du, hdX, hc, nx, rv, rr, cR, fR, tkR, tvR, bk), (n, sy, k, o, ke, va, fl, sg, cp, fs, la, nx, hd, dn, tg, bh), fr_X (c_X_flush_g lL g (A 0) (A 1) (A 6) (A 11) (A 26) (A 17) (A 19) un q (by omega) (by omega)), ⟨6, 200, by omega, by omega, c_M_flush_g lL g (B 0) (B 1) (B 2) (B 3) (B 4) (B 5) (B 6) (B 7) (B 8) (B 9) (B 10) n sy k o ke va fl sg cp fs la nx hd dn tg bh q (by omega) (by omega)⟩, hsame⟩
set_option maxRecDepth 20000 in
theorem S_checkpoint (lL : Launch) (g : Gt) (A B : Nat → Nat) {i : Nat} {s : SX} {m : SM} (hi : i < 512) (h : INV i s m) : SIM lL g A B i s m y_X_checkpoint y_M_checkpoint (.code y_X_checkpoint b_X_checkpoint 1 (some .int)) (.code y_M_checkpoint b_M_checkpoint 4 (some .int)) [] := by
  obtain ⟨un, kX, oX, keX, vaX, nX, syX, c, f, tk, tv, me, ms, dk, ds, du, hdX, hc, nxX, rv, rr, cR, fR, tkR, tvR, bk⟩ := s
  obtain ⟨n, sy, k, o, ke, va, fl, sg, cp, fs, la, nx, hd, dn, tg, bh⟩ := m
  obtain ⟨e1, e2, e3, hni, hL, hT, hP, hB, hU, hR, hZ⟩ := h
  subst e1; subst e2; subst e3
  have hsame : INV (i + 1) (un, kX, oX, keX, vaX, n, sy, c, f, tk, tv, me, ms, dk, ds, du, hdX, hc, nx, rv, rr, cR, fR, tkR, tvR, bk) (n, sy, k, o, ke, va, fl, sg, cp, fs, la, nx, hd, dn, tg, bh) := ⟨rfl, rfl, rfl, by omega, hL, hT, hP, hB, hU, hR, hZ⟩
  have hsn := hL.1
  have hm := c_M_checkpoint lL g (B 0) (B 1) (B 2) (B 3) (B 4) (B 5) (B 6) (B 7) (B 8) (B 9) (B 10) n sy k o ke va fl sg cp fs la nx hd dn tg bh (by omega) (fun i hi => (hL.2.2 i (by omega)).1)
  rw [← lfs_ck hT 3 0 n rfl] at hm
  exact ⟨(nI (lfs c f 0 3 n)), (un, kX, oX, keX, vaX, n, n, c, f, tk, tv, me, va_cpy me ms 0 0 32, (mcS me dk ds du 0 8).1, (mcS me dk ds du 0 8).2.1, (mcS me dk ds du 0 8).2.2, hdX, hc, nx, rv, rr, cR, fR, tkR, tvR, bk), (n, n, k, o, ke, va, ffS n fl 0 8, sg, cp, fs, la, nx, hd, dn, tg, bh), fr_X_Logx_Tr_Pgx (c_X_checkpoint lL g (A 0) (A 1) (A 6) (A 11) (A 26) (A 17) (A 19) un (A 2) (A 3) (A 4) (A 5) kX oX keX vaX n sy (A 7) (A 8) (A 9) (A 10) c f tk tv (A 12) (A 13) (A 14) (A 15) (A 16) me ms dk ds du (by omega) (by omega) (rPg_ds (by omega) hP) (fun j hj => (hP.1 j hj).2.2.1) (fun t ht => (hT.1 t ht).2.1) (fun t ht => (hT.1 t ht).2.2.1)), ⟨5, 150, by omega, by omega, hm⟩, ⟨rfl, rfl, rfl, by omega, ⟨Nat.le_refl _, hL.2⟩, hT, rPg_all 8 0 fl dk ds du rfl (rPg_sync hP), fun b hb => rBk_agr (fun _ _ => ⟨rfl, rfl, rfl, rfl⟩) hL.1 (fun _ p hp h => by rw [ffS_at, if_pos (by omega)]; exact Nat.le_trans h (hP.1 p hp).1) (hB b hb), hU, rAr_sy hL.1 hR, rRs_agr (fun _ _ => ⟨rfl, rfl, rfl, rfl⟩) hL.1 hZ⟩⟩
theorem rLog_cut {k : Nat → Nat} {o : Nat → Int32} {ke : Nat → Nat} {va : Nat → Int32} {n sy : Nat} {kX oX keX : Nat → Nat} {vaX : Nat → Int32} (hL : rLog k o ke va n sy kX oX keX vaX) : rLog k o ke va sy sy kX oX keX vaX :=
  ⟨Nat.le_refl _, fun m hm => hL.2.1 m (Nat.le_trans hm hL.1), fun i hi => hL.2.2 i (Nat.lt_of_lt_of_le hi hL.1)⟩
set_option maxRecDepth 20000 in
theorem S_crash (lL : Launch) (g : Gt) (A B : Nat → Nat) {i : Nat} {s : SX} {m : SM} (hi : i < 512) (h : INV i s m) : SIM lL g A B i s m y_X_crash y_M_crash (.code y_X_crash b_X_crash 2 (some .int)) (.code y_M_crash b_M_crash 3 (some .int)) [] := by
  obtain ⟨un, kX, oX, keX, vaX, nX, syX, c, f, tk, tv, me, ms, dk, ds, du, hdX, hc, nxX, rv, rr, cR, fR, tkR, tvR, bk⟩ := s
  obtain ⟨n, sy, k, o, ke, va, fl, sg, cp, fs, la, nx, hd, dn, tg, bh⟩ := m
  obtain ⟨e1, e2, e3, hni, hL, hT, hP, hB, hU, hR, hZ⟩ := h
  subst e1; subst e2; subst e3
  have hsame : INV (i + 1) (un, kX, oX, keX, vaX, n, sy, c, f, tk, tv, me, ms, dk, ds, du, hdX, hc, nx, rv, rr, cR, fR, tkR, tvR, bk) (n, sy, k, o, ke, va, fl, sg, cp, fs, la, nx, hd, dn, tg, bh) := ⟨rfl, rfl, rfl, by omega, hL, hT, hP, hB, hU, hR, hZ⟩
  have hsn := hL.1
  have hL2 : rLog (va_up k sy 3) (upd o sy (-1)) (va_up ke sy 0) (upd va sy (nI 0)) (sy + 1) (sy + 1) (va_up kX sy 3) (va_up oX sy 0) (va_up keX sy 0) (upd vaX sy (nI 0)) := ⟨Nat.le_refl _, (rLog_add (rLog_cut hL) 3 (-1) 0 (nI 0) 0 0 (nI 0) (by omega) (fun z => absurd rfl z) (fun z => absurd z (by omega)) (fun u _ => by rw [buf_res]; exact Nat.zero_le _)).2⟩
  have hme : ∀ y, y < 32 → va_cpy ms me 0 0 32 y = ms y ∧ va_cpy (va_cpy ms me 0 0 32) ms 0 0 32 y = ms y := fun y hy => by
    have e1 : va_cpy ms me 0 0 32 y = ms y := by rw [pk_cpy_in (by omega) (by omega)]; simp
    refine ⟨e1, ?_⟩
    rw [pk_cpy_in (by omega) (by omega)]
    simpa using e1
  have hkeep : ∀ b, b < 3 → sg b ≠ 1 → rBk (va_up k sy 3) (upd o sy (-1)) (va_up ke sy 0) (upd va sy (nI 0)) (sy + 1) (crS sy fl 0 8) (sgS sg 0 3 b) (cp b) (fs b) (la b) (bk b).1 (bk b).2.1 (bk b).2.2.1 (bk b).2.2.2.1 (bk b).2.2.2.2.1 (bk b).2.2.2.2.2.1 (bk b).2.2.2.2.2.2 := fun b hb h1 => by
    rw [sgS_at, if_pos (by omega), if_neg h1]
    exact rBk_agr (agr_add 3 (-1) 0 (nI 0)) (Nat.le_succ _) (fun z => absurd z h1) (hB b hb)
  rcases hU with ⟨rfl, hU⟩ | ⟨j, hj, rfl, hj1, hU⟩
  · exact ⟨(nI (n - sy)), ((-1), va_up kX sy 3, va_up oX sy 0, va_up keX sy 0, upd vaX sy (nI 0), sy + 1, sy + 1, va_up (va_up (va_up c 0 0) 1 0) 2 0, f, tk, tv, va_cpy ms me 0 0 32, va_cpy (va_cpy ms me 0 0 32) ms 0 0 32, dk, (lcS sy ds du 0 8).1, (lcS sy ds du 0 8).2, hdX, hc, nx, rv, rr, cR, fR, tkR, tvR, bk), (sy + 1, sy + 1, va_up k sy 3, upd o sy (-1), va_up ke sy 0, upd va sy (nI 0), crS sy fl 0 8, sgS sg 0 3, cp, fs, la, nx, hd, dn, tg, bh), fr_X_Logx_Trx_Pgx (c_X_crash_i lL g (A 0) (A 1) (A 6) (A 11) (A 26) (A 17) (A 19) (A 2) (A 3) (A 4) (A 5) kX oX keX vaX n sy (A 7) (A 8) (A 9) (A 10) c f tk tv (A 12) (A 13) (A 14) (A 15) (A 16) me ms dk ds du (by omega) (by omega) (rPg_ds (by omega) hP) (fun j hj => Nat.le_trans (hP.1 j hj).2.2.1 (by omega))), ⟨6, 200, by omega, by omega, c_M_crash lL g (B 0) (B 1) (B 2) (B 3) (B 4) (B 5) (B 6) (B 7) (B 8) (B 9) (B 10) n sy k o ke va fl sg cp fs la nx hd dn tg bh (by omega) (by omega) (fun q hq => Nat.le_trans (hP.1 q hq).1 (by omega)) (fun b hb => (hB b hb).1)⟩, ⟨rfl, rfl, rfl, by omega, hL2, rTr_crash sy (-1) 0 (nI 0) hT, rPg_crash hL.1 (-1) 0 (nI 0) hP hme, fun b hb => hkeep b hb (hU b hb), Or.inl ⟨rfl, fun b hb => by rw [sgS_at, if_pos (by omega)]; split <;> omega⟩, rAr_sy (Nat.le_succ _) hR, rRs_agr (agr_add 3 (-1) 0 (nI 0)) (Nat.le_succ _) hZ⟩⟩
  rcases (show j = 0 ∨ j = 1 ∨ j = 2 by omega) with rfl | rfl | rfl
  · refine ⟨(nI (n - sy)), ((-1), va_up kX sy 3, va_up oX sy 0, va_up keX sy 0, upd vaX sy (nI 0), sy + 1, sy + 1, va_up (va_up (va_up c 0 0) 1 0) 2 0, f, tk, tv, va_cpy ms me 0 0 32, va_cpy (va_cpy ms me 0 0 32) ms 0 0 32, dk, (lcS sy ds du 0 8).1, (lcS sy ds du 0 8).2, hdX, hc, nx, rv, rr, cR, fR, tkR, tvR, va_up bk 0 ((bk 0).1, 0, 0, (bk 0).2.2.2.1, (bk 0).2.2.2.2.1, (bk 0).2.2.2.2.2.1, (bk 0).2.2.2.2.2.2)), (sy + 1, sy + 1, va_up k sy 3, upd o sy (-1), va_up ke sy 0, upd va sy (nI 0), crS sy fl 0 8, sgS sg 0 3, cp, fs, la, nx, hd, dn, tg, bh), fr_Xx_Logx_Trx_Pgx_BA_Bk0x (c_X_crash_b lL g (A 0) (A 1) (A 6) (A 11) (A 26) (A 17) (A 19) (A 2) (A 3) (A 4) (A 5) kX oX keX vaX n sy (A 7) (A 8) (A 9) (A 10) c f tk tv (A 12) (A 13) (A 14) (A 15) (A 16) me ms dk ds du (fun j => A (27 + 2 * j)) (A 28) ((bk 0).1) ((bk 0).2.1) ((bk 0).2.2.1) ((bk 0).2.2.2.1) ((bk 0).2.2.2.2.1) ((bk 0).2.2.2.2.2.1) ((bk 0).2.2.2.2.2.2) 0 (by omega) (by omega) (rPg_ds (by omega) hP) (fun j hj => Nat.le_trans (hP.1 j hj).2.2.1 (by omega)) (by omega)), ⟨6, 200, by omega, by omega, c_M_crash lL g (B 0) (B 1) (B 2) (B 3) (B 4) (B 5) (B 6) (B 7) (B 8) (B 9) (B 10) n sy k o ke va fl sg cp fs la nx hd dn tg bh (by omega) (by omega) (fun q hq => Nat.le_trans (hP.1 q hq).1 (by omega)) (fun b hb => (hB b hb).1)⟩, ⟨rfl, rfl, rfl, by omega, hL2, rTr_crash sy (-1) 0 (nI 0) hT, rPg_crash hL.1 (-1) 0 (nI 0) hP hme, fun b hb => ?_, Or.inl ⟨rfl, fun b hb => by rw [sgS_at, if_pos (by omega)]; split <;> omega⟩, rAr_sy (Nat.le_succ _) hR, rRs_agr (agr_add 3 (-1) 0 (nI 0)) (Nat.le_succ _) hZ⟩⟩
    by_cases hbj : b = 0
    · subst hbj
      rw [sgS_at, if_pos (by omega), if_pos hj1, va_up_self]
      exact rBk_gone _ _ _ _ _ _
    · rw [va_up_ne _ _ hbj]
      exact hkeep b hb (hU b hb hbj)
  · refine ⟨(nI (n - sy)), ((-1), va_up kX sy 3, va_up oX sy 0, va_up keX sy 0, upd vaX sy (nI 0), sy + 1, sy + 1, va_up (va_up (va_up c 0 0) 1 0) 2 0, f, tk, tv, va_cpy ms me 0 0 32, va_cpy (va_cpy ms me 0 0 32) ms 0 0 32, dk, (lcS sy ds du 0 8).1, (lcS sy ds du 0 8).2, hdX, hc, nx, rv, rr, cR, fR, tkR, tvR, va_up bk 1 ((bk 1).1, 0, 0, (bk 1).2.2.2.1, (bk 1).2.2.2.2.1, (bk 1).2.2.2.2.2.1, (bk 1).2.2.2.2.2.2)), (sy + 1, sy + 1, va_up k sy 3, upd o sy (-1), va_up ke sy 0, upd va sy (nI 0), crS sy fl 0 8, sgS sg 0 3, cp, fs, la, nx, hd, dn, tg, bh), fr_Xx_Logx_Trx_Pgx_BA_Bk1x (c_X_crash_b lL g (A 0) (A 1) (A 6) (A 11) (A 26) (A 17) (A 19) (A 2) (A 3) (A 4) (A 5) kX oX keX vaX n sy (A 7) (A 8) (A 9) (A 10) c f tk tv (A 12) (A 13) (A 14) (A 15) (A 16) me ms dk ds du (fun j => A (27 + 2 * j)) (A 30) ((bk 1).1) ((bk 1).2.1) ((bk 1).2.2.1) ((bk 1).2.2.2.1) ((bk 1).2.2.2.2.1) ((bk 1).2.2.2.2.2.1) ((bk 1).2.2.2.2.2.2) 1 (by omega) (by omega) (rPg_ds (by omega) hP) (fun j hj => Nat.le_trans (hP.1 j hj).2.2.1 (by omega)) (by omega)), ⟨6, 200, by omega, by omega, c_M_crash lL g (B 0) (B 1) (B 2) (B 3) (B 4) (B 5) (B 6) (B 7) (B 8) (B 9) (B 10) n sy k o ke va fl sg cp fs la nx hd dn tg bh (by omega) (by omega) (fun q hq => Nat.le_trans (hP.1 q hq).1 (by omega)) (fun b hb => (hB b hb).1)⟩, ⟨rfl, rfl, rfl, by omega, hL2, rTr_crash sy (-1) 0 (nI 0) hT, rPg_crash hL.1 (-1) 0 (nI 0) hP hme, fun b hb => ?_, Or.inl ⟨rfl, fun b hb => by rw [sgS_at, if_pos (by omega)]; split <;> omega⟩, rAr_sy (Nat.le_succ _) hR, rRs_agr (agr_add 3 (-1) 0 (nI 0)) (Nat.le_succ _) hZ⟩⟩
    by_cases hbj : b = 1
    · subst hbj
      rw [sgS_at, if_pos (by omega), if_pos hj1, va_up_self]
      exact rBk_gone _ _ _ _ _ _
    · rw [va_up_ne _ _ hbj]
      exact hkeep b hb (hU b hb hbj)
  · refine ⟨(nI (n - sy)), ((-1), va_up kX sy 3, va_up oX sy 0, va_up keX sy 0, upd vaX sy (nI 0), sy + 1, sy + 1, va_up (va_up (va_up c 0 0) 1 0) 2 0, f, tk, tv, va_cpy ms me 0 0 32, va_cpy (va_cpy ms me 0 0 32) ms 0 0 32, dk, (lcS sy ds du 0 8).1, (lcS sy ds du 0 8).2, hdX, hc, nx, rv, rr, cR, fR, tkR, tvR, va_up bk 2 ((bk 2).1, 0, 0, (bk 2).2.2.2.1, (bk 2).2.2.2.2.1, (bk 2).2.2.2.2.2.1, (bk 2).2.2.2.2.2.2)), (sy + 1, sy + 1, va_up k sy 3, upd o sy (-1), va_up ke sy 0, upd va sy (nI 0), crS sy fl 0 8, sgS sg 0 3, cp, fs, la, nx, hd, dn, tg, bh), fr_Xx_Logx_Trx_Pgx_BA_Bk2x (c_X_crash_b lL g (A 0) (A 1) (A 6) (A 11) (A 26) (A 17) (A 19) (A 2) (A 3) (A 4) (A 5) kX oX keX vaX n sy (A 7) (A 8) (A 9) (A 10) c f tk tv (A 12) (A 13) (A 14) (A 15) (A 16) me ms dk ds du (fun j => A (27 + 2 * j)) (A 32) ((bk 2).1) ((bk 2).2.1) ((bk 2).2.2.1) ((bk 2).2.2.2.1) ((bk 2).2.2.2.2.1) ((bk 2).2.2.2.2.2.1) ((bk 2).2.2.2.2.2.2) 2 (by omega) (by omega) (rPg_ds (by omega) hP) (fun j hj => Nat.le_trans (hP.1 j hj).2.2.1 (by omega)) (by omega)), ⟨6, 200, by omega, by omega, c_M_crash lL g (B 0) (B 1) (B 2) (B 3) (B 4) (B 5) (B 6) (B 7) (B 8) (B 9) (B 10) n sy k o ke va fl sg cp fs la nx hd dn tg bh (by omega) (by omega) (fun q hq => Nat.le_trans (hP.1 q hq).1 (by omega)) (fun b hb => (hB b hb).1)⟩, ⟨rfl, rfl, rfl, by omega, hL2, rTr_crash sy (-1) 0 (nI 0) hT, rPg_crash hL.1 (-1) 0 (nI 0) hP hme, fun b hb => ?_, Or.inl ⟨rfl, fun b hb => by rw [sgS_at, if_pos (by omega)]; split <;> omega⟩, rAr_sy (Nat.le_succ _) hR, rRs_agr (agr_add 3 (-1) 0 (nI 0)) (Nat.le_succ _) hZ⟩⟩
    by_cases hbj : b = 2
    · subst hbj
      rw [sgS_at, if_pos (by omega), if_pos hj1, va_up_self]
      exact rBk_gone _ _ _ _ _ _
    · rw [va_up_ne _ _ hbj]
      exact hkeep b hb (hU b hb hbj)
theorem cd_dy {k : Nat → Nat} {o : Nat → Int32} {ke : Nat → Nat} {va : Nat → Int32} {n sy : Nat} {fl : Nat → Nat} {me ms dk : Nat → Int32} {ds du : Nat → Nat} (h : rPg k o ke va n sy fl me ms dk ds du) : ∀ (r q : Nat), q + r ≤ 8 → cdS ds q r = dyS k o ke fl n q r
  | 0, q, _ => rfl
  | r + 1, q, hr => by
    show (if 0 < ds q then 1 else 0) + cdS ds (q + 1) r = (if 0 < wtL k o ke (fl q) q n then 1 else 0) + dyS k o ke fl n (q + 1) r
    rw [cd_dy h r (q + 1) (by omega)]
    have hw := (rPg_wait (show q < 8 by omega) h).1
    by_cases hz : ds q = 0
    · rw [if_neg (by omega), if_neg (by have := hw.mpr hz; omega)]
    · rw [if_pos (by omega), if_pos (Nat.pos_of_ne_zero (fun z => hz (hw.mp z)))]
set_option maxRecDepth 20000 in
theorem S_dirty (lL : Launch) (g : Gt) (A B : Nat → Nat) {i : Nat} {s : SX} {m : SM} (hi : i < 512) (h : INV i s m) : SIM lL g A B i s m y_X_dirty y_M_dirty (.code y_X_dirty b_X_dirty 1 (some .int)) (.code y_M_dirty b_M_dirty 3 (some .int)) [] := by
  obtain ⟨un, kX, oX, keX, vaX, nX, syX, c, f, tk, tv, me, ms, dk, ds, du, hdX, hc, nxX, rv, rr, cR, fR, tkR, tvR, bk⟩ := s
  obtain ⟨n, sy, k, o, ke, va, fl, sg, cp, fs, la, nx, hd, dn, tg, bh⟩ := m
  obtain ⟨e1, e2, e3, hni, hL, hT, hP, hB, hU, hR, hZ⟩ := h
  subst e1; subst e2; subst e3
  have hsame : INV (i + 1) (un, kX, oX, keX, vaX, n, sy, c, f, tk, tv, me, ms, dk, ds, du, hdX, hc, nx, rv, rr, cR, fR, tkR, tvR, bk) (n, sy, k, o, ke, va, fl, sg, cp, fs, la, nx, hd, dn, tg, bh) := ⟨rfl, rfl, rfl, by omega, hL, hT, hP, hB, hU, hR, hZ⟩
  have hsn := hL.1
  exact ⟨(nI (cdS ds 0 8)), (un, kX, oX, keX, vaX, n, sy, c, f, tk, tv, me, ms, dk, ds, du, hdX, hc, nx, rv, rr, cR, fR, tkR, tvR, bk), (n, sy, k, o, ke, va, fl, sg, cp, fs, la, nx, hd, dn, tg, bh), fr_X_Pg (c_X_dirty lL g (A 0) (A 1) (A 6) (A 11) (A 26) (A 17) (A 19) un (A 12) (A 13) (A 14) (A 15) (A 16) me ms dk ds du (rPg_ds (by omega) hP)), ⟨6, 200, by omega, by omega, Ct.res (congrArg nI (cd_dy hP 8 0 (by omega)).symm) (c_M_dirty lL g (B 0) (B 1) (B 2) (B 3) (B 4) (B 5) (B 6) (B 7) (B 8) (B 9) (B 10) n sy k o ke va fl sg cp fs la nx hd dn tg bh (by omega) (fun i hi => (hL.2.2 i (by omega)).1) (fun i hi h0 => ((hL.2.2 i (by omega)).2.2.2 h0).1) (fun q hq => Nat.le_trans (hP.1 q hq).1 (by omega)))⟩, hsame⟩
set_option maxRecDepth 20000 in
theorem S_replayed (lL : Launch) (g : Gt) (A B : Nat → Nat) {i : Nat} {s : SX} {m : SM} (hi : i < 512) (h : INV i s m) : SIM lL g A B i s m y_X_replayed y_M_replayed (.code y_X_replayed b_X_replayed 1 (some .int)) (.code y_M_replayed b_M_replayed 1 (some .int)) [] := by
  obtain ⟨un, kX, oX, keX, vaX, nX, syX, c, f, tk, tv, me, ms, dk, ds, du, hdX, hc, nxX, rv, rr, cR, fR, tkR, tvR, bk⟩ := s
  obtain ⟨n, sy, k, o, ke, va, fl, sg, cp, fs, la, nx, hd, dn, tg, bh⟩ := m
  obtain ⟨e1, e2, e3, hni, hL, hT, hP, hB, hU, hR, hZ⟩ := h
  subst e1; subst e2; subst e3
  have hsame : INV (i + 1) (un, kX, oX, keX, vaX, n, sy, c, f, tk, tv, me, ms, dk, ds, du, hdX, hc, nx, rv, rr, cR, fR, tkR, tvR, bk) (n, sy, k, o, ke, va, fl, sg, cp, fs, la, nx, hd, dn, tg, bh) := ⟨rfl, rfl, rfl, by omega, hL, hT, hP, hB, hU, hR, hZ⟩
  have hsn := hL.1
  obtain ⟨hz0, ⟨rfl, rfl, hz⟩ | ⟨rfl, hz1, rfl, hz⟩⟩ := hZ
  · exact ⟨(nI 0), (un, kX, oX, keX, vaX, n, sy, c, f, tk, tv, me, ms, dk, ds, du, hdX, hc, nx, rv, 0, cR, fR, tkR, tvR, bk), (n, sy, k, o, ke, va, fl, sg, cp, fs, la, nx, hd, 0, tg, bh), fr_X_Rs (c_X_replayed lL g (A 0) (A 1) (A 6) (A 11) (A 26) (A 17) (A 19) un (A 20) (A 21) rv 0), ⟨6, 200, by omega, by omega, c_M_replayed_z lL g (B 0) (B 1) (B 2) (B 3) (B 4) (B 5) (B 6) (B 7) (B 8) (B 9) (B 10) n sy k o ke va fl sg cp fs la nx hd tg bh⟩, hsame⟩
  · exact ⟨(nI rr), (un, kX, oX, keX, vaX, n, sy, c, f, tk, tv, me, ms, dk, ds, du, hdX, hc, nx, rv, rr, cR, fR, tkR, tvR, bk), (n, sy, k, o, ke, va, fl, sg, cp, fs, la, nx, hd, 1, tg, rr), fr_X_Rs (c_X_replayed lL g (A 0) (A 1) (A 6) (A 11) (A 26) (A 17) (A 19) un (A 20) (A 21) rv rr), ⟨6, 200, by omega, by omega, c_M_replayed_d lL g (B 0) (B 1) (B 2) (B 3) (B 4) (B 5) (B 6) (B 7) (B 8) (B 9) (B 10) n sy k o ke va fl sg cp fs la nx hd tg rr⟩, hsame⟩
set_option maxRecDepth 20000 in
theorem S_restored (lL : Launch) (g : Gt) (A B : Nat → Nat) {i : Nat} {s : SX} {m : SM} (hi : i < 512) (h : INV i s m) (a : Int32) : SIM lL g A B i s m y_X_restored y_M_restored (.code y_X_restored b_X_restored 2 (some .int)) (.code y_M_restored b_M_restored 2 (some .int)) [.int a] := by
  obtain ⟨un, kX, oX, keX, vaX, nX, syX, c, f, tk, tv, me, ms, dk, ds, du, hdX, hc, nxX, rv, rr, cR, fR, tkR, tvR, bk⟩ := s
  obtain ⟨n, sy, k, o, ke, va, fl, sg, cp, fs, la, nx, hd, dn, tg, bh⟩ := m
  obtain ⟨e1, e2, e3, hni, hL, hT, hP, hB, hU, hR, hZ⟩ := h
  subst e1; subst e2; subst e3
  have hsame : INV (i + 1) (un, kX, oX, keX, vaX, n, sy, c, f, tk, tv, me, ms, dk, ds, du, hdX, hc, nx, rv, rr, cR, fR, tkR, tvR, bk) (n, sy, k, o, ke, va, fl, sg, cp, fs, la, nx, hd, dn, tg, bh) := ⟨rfl, rfl, rfl, by omega, hL, hT, hP, hB, hU, hR, hZ⟩
  have hsn := hL.1
  obtain ⟨hz0, ⟨rfl, rfl, hz⟩ | ⟨rfl, hz1, hz2, hz⟩⟩ := hZ
  · rcases i32_cs a with ha | ⟨y, hy1, rfl⟩
    · exact ⟨(nI 0), (un, kX, oX, keX, vaX, n, sy, c, f, tk, tv, me, ms, dk, ds, du, hdX, hc, nx, rv, 0, cR, fR, tkR, tvR, bk), (n, sy, k, o, ke, va, fl, sg, cp, fs, la, nx, hd, 0, tg, bh), fr_X (c_X_restored_n lL g (A 0) (A 1) (A 6) (A 11) (A 26) (A 17) (A 19) un a ha), ⟨6, 200, by omega, by omega, c_M_restored_z lL g (B 0) (B 1) (B 2) (B 3) (B 4) (B 5) (B 6) (B 7) (B 8) (B 9) (B 10) n sy k o ke va fl sg cp fs la nx hd tg bh a⟩, hsame⟩
    rcases Nat.lt_or_ge y 32 with hy | hy
    · exact ⟨(nI 0), (un, kX, oX, keX, vaX, n, sy, c, f, tk, tv, me, ms, dk, ds, du, hdX, hc, nx, rv, 0, cR, fR, tkR, tvR, bk), (n, sy, k, o, ke, va, fl, sg, cp, fs, la, nx, hd, 0, tg, bh), Ct.res (hz y hy) (fr_X_Rs (c_X_restored_t lL g (A 0) (A 1) (A 6) (A 11) (A 26) (A 17) (A 19) un (A 20) (A 21) rv 0 y (by omega))), ⟨6, 200, by omega, by omega, c_M_restored_z lL g (B 0) (B 1) (B 2) (B 3) (B 4) (B 5) (B 6) (B 7) (B 8) (B 9) (B 10) n sy k o ke va fl sg cp fs la nx hd tg bh (nI y)⟩, hsame⟩
    · exact ⟨(nI 0), (un, kX, oX, keX, vaX, n, sy, c, f, tk, tv, me, ms, dk, ds, du, hdX, hc, nx, rv, 0, cR, fR, tkR, tvR, bk), (n, sy, k, o, ke, va, fl, sg, cp, fs, la, nx, hd, 0, tg, bh), fr_X (c_X_restored_g lL g (A 0) (A 1) (A 6) (A 11) (A 26) (A 17) (A 19) un y (by omega) (by omega)), ⟨6, 200, by omega, by omega, c_M_restored_z lL g (B 0) (B 1) (B 2) (B 3) (B 4) (B 5) (B 6) (B 7) (B 8) (B 9) (B 10) n sy k o ke va fl sg cp fs la nx hd tg bh (nI y)⟩, hsame⟩
  · rcases i32_cs a with ha | ⟨y, hy1, rfl⟩
    · exact ⟨(nI 0), (un, kX, oX, keX, vaX, n, sy, c, f, tk, tv, me, ms, dk, ds, du, hdX, hc, nx, rv, rr, cR, fR, tkR, tvR, bk), (n, sy, k, o, ke, va, fl, sg, cp, fs, la, nx, hd, 1, tg, bh), fr_X (c_X_restored_n lL g (A 0) (A 1) (A 6) (A 11) (A 26) (A 17) (A 19) un a ha), ⟨6, 200, by omega, by omega, c_M_restored_n lL g (B 0) (B 1) (B 2) (B 3) (B 4) (B 5) (B 6) (B 7) (B 8) (B 9) (B 10) n sy k o ke va fl sg cp fs la nx hd tg bh a ha⟩, hsame⟩
    rcases Nat.lt_or_ge y 32 with hy | hy
    · exact ⟨_, (un, kX, oX, keX, vaX, n, sy, c, f, tk, tv, me, ms, dk, ds, du, hdX, hc, nx, rv, rr, cR, fR, tkR, tvR, bk), (n, sy, k, o, ke, va, fl, sg, cp, fs, la, nx, hd, 1, tg, bh), Ct.res (hz y hy) (fr_X_Rs (c_X_restored_t lL g (A 0) (A 1) (A 6) (A 11) (A 26) (A 17) (A 19) un (A 20) (A 21) rv rr y (by omega))), ⟨6, 200, by omega, by omega, c_M_restored_t lL g (B 0) (B 1) (B 2) (B 3) (B 4) (B 5) (B 6) (B 7) (B 8) (B 9) (B 10) n sy k o ke va fl sg cp fs la nx hd tg bh y (by omega) (by omega) (fun i hi => (hL.2.2 i (by omega)).1) (fun i hi h0 => ((hL.2.2 i (by omega)).2.2.2 h0).1)⟩, hsame⟩
    · exact ⟨(nI 0), (un, kX, oX, keX, vaX, n, sy, c, f, tk, tv, me, ms, dk, ds, du, hdX, hc, nx, rv, rr, cR, fR, tkR, tvR, bk), (n, sy, k, o, ke, va, fl, sg, cp, fs, la, nx, hd, 1, tg, bh), fr_X (c_X_restored_g lL g (A 0) (A 1) (A 6) (A 11) (A 26) (A 17) (A 19) un y (by omega) (by omega)), ⟨6, 200, by omega, by omega, c_M_restored_g lL g (B 0) (B 1) (B 2) (B 3) (B 4) (B 5) (B 6) (B 7) (B 8) (B 9) (B 10) n sy k o ke va fl sg cp fs la nx hd tg bh y (by omega) (by omega)⟩, hsame⟩
