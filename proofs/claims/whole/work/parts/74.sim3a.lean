set_option maxRecDepth 20000 in
theorem S_backup (lL : Launch) (g : Gt) (A B : Nat → Nat) {i : Nat} {s : SX} {m : SM} (hi : i < 512) (h : INV i s m) : SIM lL g A B i s m y_X_backup y_M_backup (.code y_X_backup b_X_backup 3 (some .int)) (.code y_M_backup b_M_backup 2 (some .int)) [] := by
  obtain ⟨un, kX, oX, keX, vaX, nX, syX, c, f, tk, tv, me, ms, dk, ds, du, hdX, hc, nxX, rv, rr, cR, fR, tkR, tvR, bk⟩ := s
  obtain ⟨n, sy, k, o, ke, va, fl, sg, cp, fs, la, nx, hd, dn, tg, bh⟩ := m
  obtain ⟨e1, e2, e3, hni, hL, hT, hP, hB, hU, hR, hZ⟩ := h
  subst e1; subst e2; subst e3
  have hsame : INV (i + 1) (un, kX, oX, keX, vaX, n, sy, c, f, tk, tv, me, ms, dk, ds, du, hdX, hc, nx, rv, rr, cR, fR, tkR, tvR, bk) (n, sy, k, o, ke, va, fl, sg, cp, fs, la, nx, hd, dn, tg, bh) := ⟨rfl, rfl, rfl, by omega, hL, hT, hP, hB, hU, hR, hZ⟩
  have hsn := hL.1
  rcases hU with ⟨rfl, hU⟩ | ⟨j, hj, rfl, hj1, hU⟩
  · have u0 := hU 0 (by omega)
    have u1 := hU 1 (by omega)
    have u2 := hU 2 (by omega)
    obtain ⟨s0, q0, -⟩ := hB 0 (by omega)
    obtain ⟨s1, q1, -⟩ := hB 1 (by omega)
    obtain ⟨s2, q2, -⟩ := hB 2 (by omega)
    have hck := lfs_ck hT 3 0 n rfl
    by_cases hz0 : sg 0 = 0
    · have hm := c_M_backup_0 lL g (B 0) (B 1) (B 2) (B 3) (B 4) (B 5) (B 6) (B 7) (B 8) (B 9) (B 10) n sy k o ke va fl sg cp fs la nx hd dn tg bh (fun b hb => (hB b hb).1) (by omega) (by omega) (by omega) (by omega) (fun i hi => (hL.2.2 i (by omega)).1) (by omega)
      refine ⟨(nI 0), (nI 0, kX, oX, keX, vaX, n, n, c, f, tk, tv, me, va_cpy me ms 0 0 32, (mcS me dk ds du 0 8).1, (mcS me dk ds du 0 8).2.1, (mcS me dk ds du 0 8).2.2, hdX, hc, nx, rv, rr, cR, fR, tkR, tvR, va_up bk 0 ((bk 0).1, 1, 0, lfs c f 0 3 n, n, (bk 0).2.2.2.2.2.1, 0)), (n, n, k, o, ke, va, ffS n fl 0 8, va_up sg 0 1, va_up cp 0 0, va_up fs 0 (ckS k o n 0 3 n), la, nx, hd, dn, tg, bh), fr_Xx_Logx_Tr_Pgx_BA_Bk0x_Bk1_Bk2 (c_X_backup_0 lL g (A 0) (A 1) (A 6) (A 11) (A 26) (A 17) (A 19) (A 2) (A 3) (A 4) (A 5) kX oX keX vaX n sy (A 7) (A 8) (A 9) (A 10) c f tk tv (A 12) (A 13) (A 14) (A 15) (A 16) me ms dk ds du (fun j => A (27 + 2 * j)) (A 28) ((bk 0).1) ((bk 0).2.1) ((bk 0).2.2.1) ((bk 0).2.2.2.1) ((bk 0).2.2.2.2.1) ((bk 0).2.2.2.2.2.1) ((bk 0).2.2.2.2.2.2) (A 30) ((bk 1).1) ((bk 1).2.1) ((bk 1).2.2.1) ((bk 1).2.2.2.1) ((bk 1).2.2.2.2.1) ((bk 1).2.2.2.2.2.1) ((bk 1).2.2.2.2.2.2) (A 32) ((bk 2).1) ((bk 2).2.1) ((bk 2).2.2.1) ((bk 2).2.2.2.1) ((bk 2).2.2.2.2.1) ((bk 2).2.2.2.2.2.1) ((bk 2).2.2.2.2.2.2) (by omega) (by omega) (rPg_ds (by omega) hP) (fun j hj => (hP.1 j hj).2.2.1) (fun t ht => (hT.1 t ht).2.1) (fun t ht => (hT.1 t ht).2.2.1) (by rw [q0]; exact if_pos hz0)), ⟨6, 200, by omega, by omega, hm⟩, ⟨rfl, rfl, rfl, by omega, ⟨Nat.le_refl _, hL.2⟩, hT, rPg_all 8 0 fl dk ds du rfl (rPg_sync hP), ?_, Or.inr ⟨0, by omega, rfl, va_up_self _ _ _, fun b hb hbj => by rw [va_up_ne _ _ hbj]; exact hU b hb⟩, rAr_sy hL.1 hR, rRs_agr (fun _ _ => ⟨rfl, rfl, rfl, rfl⟩) hL.1 hZ⟩⟩
      intro b hb
      by_cases hbj : b = 0
      · subst hbj
        rw [va_up_self, va_up_self, va_up_self, va_up_self, ← hck]
        exact rBk_begin hT (fun p hp => by rw [ffS_at, if_pos (by omega)]; exact Nat.le_refl _)
      · rw [va_up_ne _ _ hbj, va_up_ne _ _ hbj, va_up_ne _ _ hbj, va_up_ne _ _ hbj]
        exact rBk_agr (fun _ _ => ⟨rfl, rfl, rfl, rfl⟩) hL.1 (fun _ p hp h => by rw [ffS_at, if_pos (by omega)]; exact Nat.le_trans h (hP.1 p hp).1) (hB b hb)
    by_cases hz1 : sg 1 = 0
    · have hm := c_M_backup_1 lL g (B 0) (B 1) (B 2) (B 3) (B 4) (B 5) (B 6) (B 7) (B 8) (B 9) (B 10) n sy k o ke va fl sg cp fs la nx hd dn tg bh (fun b hb => (hB b hb).1) (by omega) (by omega) (by omega) (by omega) (fun i hi => (hL.2.2 i (by omega)).1) (by omega) (by omega)
      refine ⟨(nI 1), (nI 1, kX, oX, keX, vaX, n, n, c, f, tk, tv, me, va_cpy me ms 0 0 32, (mcS me dk ds du 0 8).1, (mcS me dk ds du 0 8).2.1, (mcS me dk ds du 0 8).2.2, hdX, hc, nx, rv, rr, cR, fR, tkR, tvR, va_up bk 1 ((bk 1).1, 1, 0, lfs c f 0 3 n, n, (bk 1).2.2.2.2.2.1, 0)), (n, n, k, o, ke, va, ffS n fl 0 8, va_up sg 1 1, va_up cp 1 0, va_up fs 1 (ckS k o n 0 3 n), la, nx, hd, dn, tg, bh), fr_Xx_Logx_Tr_Pgx_BA_Bk0_Bk1x_Bk2 (c_X_backup_1 lL g (A 0) (A 1) (A 6) (A 11) (A 26) (A 17) (A 19) (A 2) (A 3) (A 4) (A 5) kX oX keX vaX n sy (A 7) (A 8) (A 9) (A 10) c f tk tv (A 12) (A 13) (A 14) (A 15) (A 16) me ms dk ds du (fun j => A (27 + 2 * j)) (A 28) ((bk 0).1) ((bk 0).2.1) ((bk 0).2.2.1) ((bk 0).2.2.2.1) ((bk 0).2.2.2.2.1) ((bk 0).2.2.2.2.2.1) ((bk 0).2.2.2.2.2.2) (A 30) ((bk 1).1) ((bk 1).2.1) ((bk 1).2.2.1) ((bk 1).2.2.2.1) ((bk 1).2.2.2.2.1) ((bk 1).2.2.2.2.2.1) ((bk 1).2.2.2.2.2.2) (A 32) ((bk 2).1) ((bk 2).2.1) ((bk 2).2.2.1) ((bk 2).2.2.2.1) ((bk 2).2.2.2.2.1) ((bk 2).2.2.2.2.2.1) ((bk 2).2.2.2.2.2.2) (by omega) (by omega) (rPg_ds (by omega) hP) (fun j hj => (hP.1 j hj).2.2.1) (fun t ht => (hT.1 t ht).2.1) (fun t ht => (hT.1 t ht).2.2.1) (by rw [q0]; exact if_neg hz0) (by rw [q1]; exact if_pos hz1)), ⟨6, 200, by omega, by omega, hm⟩, ⟨rfl, rfl, rfl, by omega, ⟨Nat.le_refl _, hL.2⟩, hT, rPg_all 8 0 fl dk ds du rfl (rPg_sync hP), ?_, Or.inr ⟨1, by omega, rfl, va_up_self _ _ _, fun b hb hbj => by rw [va_up_ne _ _ hbj]; exact hU b hb⟩, rAr_sy hL.1 hR, rRs_agr (fun _ _ => ⟨rfl, rfl, rfl, rfl⟩) hL.1 hZ⟩⟩
      intro b hb
      by_cases hbj : b = 1
      · subst hbj
        rw [va_up_self, va_up_self, va_up_self, va_up_self, ← hck]
        exact rBk_begin hT (fun p hp => by rw [ffS_at, if_pos (by omega)]; exact Nat.le_refl _)
      · rw [va_up_ne _ _ hbj, va_up_ne _ _ hbj, va_up_ne _ _ hbj, va_up_ne _ _ hbj]
        exact rBk_agr (fun _ _ => ⟨rfl, rfl, rfl, rfl⟩) hL.1 (fun _ p hp h => by rw [ffS_at, if_pos (by omega)]; exact Nat.le_trans h (hP.1 p hp).1) (hB b hb)
    by_cases hz2 : sg 2 = 0
    · have hm := c_M_backup_2 lL g (B 0) (B 1) (B 2) (B 3) (B 4) (B 5) (B 6) (B 7) (B 8) (B 9) (B 10) n sy k o ke va fl sg cp fs la nx hd dn tg bh (fun b hb => (hB b hb).1) (by omega) (by omega) (by omega) (by omega) (fun i hi => (hL.2.2 i (by omega)).1) (by omega) (by omega) (by omega)
      refine ⟨(nI 2), (nI 2, kX, oX, keX, vaX, n, n, c, f, tk, tv, me, va_cpy me ms 0 0 32, (mcS me dk ds du 0 8).1, (mcS me dk ds du 0 8).2.1, (mcS me dk ds du 0 8).2.2, hdX, hc, nx, rv, rr, cR, fR, tkR, tvR, va_up bk 2 ((bk 2).1, 1, 0, lfs c f 0 3 n, n, (bk 2).2.2.2.2.2.1, 0)), (n, n, k, o, ke, va, ffS n fl 0 8, va_up sg 2 1, va_up cp 2 0, va_up fs 2 (ckS k o n 0 3 n), la, nx, hd, dn, tg, bh), fr_Xx_Logx_Tr_Pgx_BA_Bk0_Bk1_Bk2x (c_X_backup_2 lL g (A 0) (A 1) (A 6) (A 11) (A 26) (A 17) (A 19) (A 2) (A 3) (A 4) (A 5) kX oX keX vaX n sy (A 7) (A 8) (A 9) (A 10) c f tk tv (A 12) (A 13) (A 14) (A 15) (A 16) me ms dk ds du (fun j => A (27 + 2 * j)) (A 28) ((bk 0).1) ((bk 0).2.1) ((bk 0).2.2.1) ((bk 0).2.2.2.1) ((bk 0).2.2.2.2.1) ((bk 0).2.2.2.2.2.1) ((bk 0).2.2.2.2.2.2) (A 30) ((bk 1).1) ((bk 1).2.1) ((bk 1).2.2.1) ((bk 1).2.2.2.1) ((bk 1).2.2.2.2.1) ((bk 1).2.2.2.2.2.1) ((bk 1).2.2.2.2.2.2) (A 32) ((bk 2).1) ((bk 2).2.1) ((bk 2).2.2.1) ((bk 2).2.2.2.1) ((bk 2).2.2.2.2.1) ((bk 2).2.2.2.2.2.1) ((bk 2).2.2.2.2.2.2) (by omega) (by omega) (rPg_ds (by omega) hP) (fun j hj => (hP.1 j hj).2.2.1) (fun t ht => (hT.1 t ht).2.1) (fun t ht => (hT.1 t ht).2.2.1) (by rw [q0]; exact if_neg hz0) (by rw [q1]; exact if_neg hz1) (by rw [q2]; exact if_pos hz2)), ⟨6, 200, by omega, by omega, hm⟩, ⟨rfl, rfl, rfl, by omega, ⟨Nat.le_refl _, hL.2⟩, hT, rPg_all 8 0 fl dk ds du rfl (rPg_sync hP), ?_, Or.inr ⟨2, by omega, rfl, va_up_self _ _ _, fun b hb hbj => by rw [va_up_ne _ _ hbj]; exact hU b hb⟩, rAr_sy hL.1 hR, rRs_agr (fun _ _ => ⟨rfl, rfl, rfl, rfl⟩) hL.1 hZ⟩⟩
      intro b hb
      by_cases hbj : b = 2
      · subst hbj
        rw [va_up_self, va_up_self, va_up_self, va_up_self, ← hck]
        exact rBk_begin hT (fun p hp => by rw [ffS_at, if_pos (by omega)]; exact Nat.le_refl _)
      · rw [va_up_ne _ _ hbj, va_up_ne _ _ hbj, va_up_ne _ _ hbj, va_up_ne _ _ hbj]
        exact rBk_agr (fun _ _ => ⟨rfl, rfl, rfl, rfl⟩) hL.1 (fun _ p hp h => by rw [ffS_at, if_pos (by omega)]; exact Nat.le_trans h (hP.1 p hp).1) (hB b hb)
    exact ⟨(-2), ((-1), kX, oX, keX, vaX, n, sy, c, f, tk, tv, me, ms, dk, ds, du, hdX, hc, nx, rv, rr, cR, fR, tkR, tvR, bk), (n, sy, k, o, ke, va, fl, sg, cp, fs, la, nx, hd, dn, tg, bh), fr_X_BA_Bk0_Bk1_Bk2 (c_X_backup_x lL g (A 0) (A 1) (A 6) (A 11) (A 26) (A 17) (A 19) (fun j => A (27 + 2 * j)) (A 28) ((bk 0).1) ((bk 0).2.1) ((bk 0).2.2.1) ((bk 0).2.2.2.1) ((bk 0).2.2.2.2.1) ((bk 0).2.2.2.2.2.1) ((bk 0).2.2.2.2.2.2) (A 30) ((bk 1).1) ((bk 1).2.1) ((bk 1).2.2.1) ((bk 1).2.2.2.1) ((bk 1).2.2.2.2.1) ((bk 1).2.2.2.2.2.1) ((bk 1).2.2.2.2.2.2) (A 32) ((bk 2).1) ((bk 2).2.1) ((bk 2).2.2.1) ((bk 2).2.2.2.1) ((bk 2).2.2.2.2.1) ((bk 2).2.2.2.2.2.1) ((bk 2).2.2.2.2.2.2) (by rw [q0]; exact if_neg hz0) (by rw [q1]; exact if_neg hz1) (by rw [q2]; exact if_neg hz2)), ⟨6, 200, by omega, by omega, c_M_backup_x lL g (B 0) (B 1) (B 2) (B 3) (B 4) (B 5) (B 6) (B 7) (B 8) (B 9) (B 10) n sy k o ke va fl sg cp fs la nx hd dn tg bh (fun b hb => (hB b hb).1) (by omega) (by omega) (by omega) (by omega) (by omega) (by omega)⟩, hsame⟩
  rcases (show j = 0 ∨ j = 1 ∨ j = 2 by omega) with rfl | rfl | rfl
  · exact ⟨(-1), (nI 0, kX, oX, keX, vaX, n, sy, c, f, tk, tv, me, ms, dk, ds, du, hdX, hc, nx, rv, rr, cR, fR, tkR, tvR, bk), (n, sy, k, o, ke, va, fl, sg, cp, fs, la, nx, hd, dn, tg, bh), fr_X (c_X_backup_u lL g (A 0) (A 1) (A 6) (A 11) (A 26) (A 17) (A 19) 0 (by omega)), ⟨6, 200, by omega, by omega, c_M_backup_u0 lL g (B 0) (B 1) (B 2) (B 3) (B 4) (B 5) (B 6) (B 7) (B 8) (B 9) (B 10) n sy k o ke va fl sg cp fs la nx hd dn tg bh (fun b hb => (hB b hb).1) hj1⟩, hsame⟩
  · exact ⟨(-1), (nI 1, kX, oX, keX, vaX, n, sy, c, f, tk, tv, me, ms, dk, ds, du, hdX, hc, nx, rv, rr, cR, fR, tkR, tvR, bk), (n, sy, k, o, ke, va, fl, sg, cp, fs, la, nx, hd, dn, tg, bh), fr_X (c_X_backup_u lL g (A 0) (A 1) (A 6) (A 11) (A 26) (A 17) (A 19) 1 (by omega)), ⟨6, 200, by omega, by omega, c_M_backup_u1 lL g (B 0) (B 1) (B 2) (B 3) (B 4) (B 5) (B 6) (B 7) (B 8) (B 9) (B 10) n sy k o ke va fl sg cp fs la nx hd dn tg bh (fun b hb => (hB b hb).1) (hU 0 (by omega) (by omega)) hj1⟩, hsame⟩
  · exact ⟨(-1), (nI 2, kX, oX, keX, vaX, n, sy, c, f, tk, tv, me, ms, dk, ds, du, hdX, hc, nx, rv, rr, cR, fR, tkR, tvR, bk), (n, sy, k, o, ke, va, fl, sg, cp, fs, la, nx, hd, dn, tg, bh), fr_X (c_X_backup_u lL g (A 0) (A 1) (A 6) (A 11) (A 26) (A 17) (A 19) 2 (by omega)), ⟨6, 200, by omega, by omega, c_M_backup_u2 lL g (B 0) (B 1) (B 2) (B 3) (B 4) (B 5) (B 6) (B 7) (B 8) (B 9) (B 10) n sy k o ke va fl sg cp fs la nx hd dn tg bh (fun b hb => (hB b hb).1) (hU 0 (by omega) (by omega)) (hU 1 (by omega) (by omega)) hj1⟩, hsame⟩
set_option maxRecDepth 20000 in
theorem S_copy (lL : Launch) (g : Gt) (A B : Nat → Nat) {i : Nat} {s : SX} {m : SM} (hi : i < 512) (h : INV i s m) : SIM lL g A B i s m y_X_copy y_M_copy (.code y_X_copy b_X_copy 3 (some .int)) (.code y_M_copy b_M_copy 2 (some .int)) [] := by
  obtain ⟨un, kX, oX, keX, vaX, nX, syX, c, f, tk, tv, me, ms, dk, ds, du, hdX, hc, nxX, rv, rr, cR, fR, tkR, tvR, bk⟩ := s
  obtain ⟨n, sy, k, o, ke, va, fl, sg, cp, fs, la, nx, hd, dn, tg, bh⟩ := m
  obtain ⟨e1, e2, e3, hni, hL, hT, hP, hB, hU, hR, hZ⟩ := h
  subst e1; subst e2; subst e3
  have hsame : INV (i + 1) (un, kX, oX, keX, vaX, n, sy, c, f, tk, tv, me, ms, dk, ds, du, hdX, hc, nx, rv, rr, cR, fR, tkR, tvR, bk) (n, sy, k, o, ke, va, fl, sg, cp, fs, la, nx, hd, dn, tg, bh) := ⟨rfl, rfl, rfl, by omega, hL, hT, hP, hB, hU, hR, hZ⟩
  have hsn := hL.1
  rcases hU with ⟨rfl, hU⟩ | ⟨j, hj, rfl, hj1, hU⟩
  · exact ⟨(-3), ((-1), kX, oX, keX, vaX, n, sy, c, f, tk, tv, me, ms, dk, ds, du, hdX, hc, nx, rv, rr, cR, fR, tkR, tvR, bk), (n, sy, k, o, ke, va, fl, sg, cp, fs, la, nx, hd, dn, tg, bh), fr_X (c_X_copy_x lL g (A 0) (A 1) (A 6) (A 11) (A 26) (A 17) (A 19)), ⟨6, 200, by omega, by omega, c_M_copy_x lL g (B 0) (B 1) (B 2) (B 3) (B 4) (B 5) (B 6) (B 7) (B 8) (B 9) (B 10) n sy k o ke va fl sg cp fs la nx hd dn tg bh (fun b hb => (hB b hb).1) (hU 0 (by omega)) (hU 1 (by omega)) (hU 2 (by omega))⟩, hsame⟩
  rcases (show j = 0 ∨ j = 1 ∨ j = 2 by omega) with rfl | rfl | rfl
  · have hBj := hB 0 (by omega)
    rw [hj1] at hBj
    obtain ⟨-, -, -, c4, c5, -⟩ := hBj
    obtain ⟨-, ecp, -⟩ := c4 (by omega)
    have hp8 := (c5 rfl).1
    have hBj := hB 0 (by omega)
    rw [hj1] at hBj
    rcases Nat.lt_or_ge (bk 0).2.2.2.2.2.2 7 with h7 | h7
    · refine ⟨(nI (8 - ((bk 0).2.2.2.2.2.2 + 1))), (nI 0, kX, oX, keX, vaX, n, sy, c, f, tk, tv, me, ms, dk, ds, du, hdX, hc, nx, rv, rr, cR, fR, tkR, tvR, va_up bk 0 (va_cpy dk (bk 0).1 ((bk 0).2.2.2.2.2.2 * 4) ((bk 0).2.2.2.2.2.2 * 4) 4, (bk 0).2.1, (bk 0).2.2.1, (bk 0).2.2.2.1, (bk 0).2.2.2.2.1, (bk 0).2.2.2.2.2.1, (bk 0).2.2.2.2.2.2 + 1)), (n, sy, k, o, ke, va, fl, sg, va_up cp 0 (cp 0 + 1), fs, la, nx, hd, dn, tg, bh), fr_X_Log_Pg_BA_Bk0x (c_X_copy_m lL g (A 0) (A 1) (A 6) (A 11) (A 26) (A 17) (A 19) (A 2) (A 3) (A 4) (A 5) kX oX keX vaX n sy (A 12) (A 13) (A 14) (A 15) (A 16) me ms dk ds du (fun j => A (27 + 2 * j)) (A 28) ((bk 0).1) ((bk 0).2.1) ((bk 0).2.2.1) ((bk 0).2.2.2.1) ((bk 0).2.2.2.2.1) ((bk 0).2.2.2.2.2.1) ((bk 0).2.2.2.2.2.2) 0 (by omega) (by omega)), ⟨6, 200, by omega, by omega, Ct.res (congrArg nI (by rw [ecp])) (c_M_copy_m0 lL g (B 0) (B 1) (B 2) (B 3) (B 4) (B 5) (B 6) (B 7) (B 8) (B 9) (B 10) n sy k o ke va fl sg cp fs la nx hd dn tg bh (fun b hb => (hB b hb).1) hj1 (by omega))⟩, ⟨rfl, rfl, rfl, by omega, hL, hT, hP, ?_, Or.inr ⟨0, by omega, rfl, hj1, hU⟩, hR, hZ⟩⟩
      intro b hb
      by_cases hbj : b = 0
      · subst hbj
        rw [va_up_self, va_up_self, hj1]
        exact rBk_copy hP hL.1 hBj h7
      · rw [va_up_ne _ _ hbj, va_up_ne _ _ hbj]
        exact hB b hb
    · have h7 : (bk 0).2.2.2.2.2.2 = 7 := by omega
      refine ⟨(nI (8 - ((bk 0).2.2.2.2.2.2 + 1))), ((-1), kX, oX, keX, vaX, n, sy, c, f, tk, tv, me, ms, dk, ds, du, hdX, hc, nx, rv, rr, cR, fR, tkR, tvR, va_up bk 0 (va_cpy dk (bk 0).1 ((bk 0).2.2.2.2.2.2 * 4) ((bk 0).2.2.2.2.2.2 * 4) 4, (bk 0).2.1, 1, (bk 0).2.2.2.1, (bk 0).2.2.2.2.1, sy, (bk 0).2.2.2.2.2.2 + 1)), (n, sy, k, o, ke, va, fl, va_up sg 0 2, va_up cp 0 (cp 0 + 1), fs, va_up la 0 sy, nx, hd, dn, tg, bh), fr_Xx_Log_Pg_BA_Bk0x (c_X_copy_l lL g (A 0) (A 1) (A 6) (A 11) (A 26) (A 17) (A 19) (A 2) (A 3) (A 4) (A 5) kX oX keX vaX n sy (A 12) (A 13) (A 14) (A 15) (A 16) me ms dk ds du (fun j => A (27 + 2 * j)) (A 28) ((bk 0).1) ((bk 0).2.1) ((bk 0).2.2.1) ((bk 0).2.2.2.1) ((bk 0).2.2.2.2.1) ((bk 0).2.2.2.2.2.1) ((bk 0).2.2.2.2.2.2) 0 (by omega) (by omega)), ⟨6, 200, by omega, by omega, Ct.res (congrArg nI (by rw [ecp])) (c_M_copy_l0 lL g (B 0) (B 1) (B 2) (B 3) (B 4) (B 5) (B 6) (B 7) (B 8) (B 9) (B 10) n sy k o ke va fl sg cp fs la nx hd dn tg bh (fun b hb => (hB b hb).1) hj1 (by omega))⟩, ⟨rfl, rfl, rfl, by omega, hL, hT, hP, ?_, Or.inl ⟨rfl, fun b hb => ?_⟩, hR, hZ⟩⟩
      · intro b hb
        by_cases hbj : b = 0
        · subst hbj
          rw [va_up_self, va_up_self, va_up_self, va_up_self]
          exact rBk_last hP hL.1 hBj h7
        · rw [va_up_ne _ _ hbj, va_up_ne _ _ hbj, va_up_ne _ _ hbj, va_up_ne _ _ hbj]
          exact hB b hb
      · by_cases hbj : b = 0
        · rw [hbj, va_up_self]; omega
        · rw [va_up_ne _ _ hbj]; exact hU b hb hbj
  · have hBj := hB 1 (by omega)
    rw [hj1] at hBj
    obtain ⟨-, -, -, c4, c5, -⟩ := hBj
    obtain ⟨-, ecp, -⟩ := c4 (by omega)
    have hp8 := (c5 rfl).1
    have hBj := hB 1 (by omega)
    rw [hj1] at hBj
    rcases Nat.lt_or_ge (bk 1).2.2.2.2.2.2 7 with h7 | h7
    · refine ⟨(nI (8 - ((bk 1).2.2.2.2.2.2 + 1))), (nI 1, kX, oX, keX, vaX, n, sy, c, f, tk, tv, me, ms, dk, ds, du, hdX, hc, nx, rv, rr, cR, fR, tkR, tvR, va_up bk 1 (va_cpy dk (bk 1).1 ((bk 1).2.2.2.2.2.2 * 4) ((bk 1).2.2.2.2.2.2 * 4) 4, (bk 1).2.1, (bk 1).2.2.1, (bk 1).2.2.2.1, (bk 1).2.2.2.2.1, (bk 1).2.2.2.2.2.1, (bk 1).2.2.2.2.2.2 + 1)), (n, sy, k, o, ke, va, fl, sg, va_up cp 1 (cp 1 + 1), fs, la, nx, hd, dn, tg, bh), fr_X_Log_Pg_BA_Bk1x (c_X_copy_m lL g (A 0) (A 1) (A 6) (A 11) (A 26) (A 17) (A 19) (A 2) (A 3) (A 4) (A 5) kX oX keX vaX n sy (A 12) (A 13) (A 14) (A 15) (A 16) me ms dk ds du (fun j => A (27 + 2 * j)) (A 30) ((bk 1).1) ((bk 1).2.1) ((bk 1).2.2.1) ((bk 1).2.2.2.1) ((bk 1).2.2.2.2.1) ((bk 1).2.2.2.2.2.1) ((bk 1).2.2.2.2.2.2) 1 (by omega) (by omega)), ⟨6, 200, by omega, by omega, Ct.res (congrArg nI (by rw [ecp])) (c_M_copy_m1 lL g (B 0) (B 1) (B 2) (B 3) (B 4) (B 5) (B 6) (B 7) (B 8) (B 9) (B 10) n sy k o ke va fl sg cp fs la nx hd dn tg bh (fun b hb => (hB b hb).1) (hU 0 (by omega) (by omega)) hj1 (by omega))⟩, ⟨rfl, rfl, rfl, by omega, hL, hT, hP, ?_, Or.inr ⟨1, by omega, rfl, hj1, hU⟩, hR, hZ⟩⟩
      intro b hb
      by_cases hbj : b = 1
      · subst hbj
        rw [va_up_self, va_up_self, hj1]
        exact rBk_copy hP hL.1 hBj h7
      · rw [va_up_ne _ _ hbj, va_up_ne _ _ hbj]
        exact hB b hb
    · have h7 : (bk 1).2.2.2.2.2.2 = 7 := by omega
      refine ⟨(nI (8 - ((bk 1).2.2.2.2.2.2 + 1))), ((-1), kX, oX, keX, vaX, n, sy, c, f, tk, tv, me, ms, dk, ds, du, hdX, hc, nx, rv, rr, cR, fR, tkR, tvR, va_up bk 1 (va_cpy dk (bk 1).1 ((bk 1).2.2.2.2.2.2 * 4) ((bk 1).2.2.2.2.2.2 * 4) 4, (bk 1).2.1, 1, (bk 1).2.2.2.1, (bk 1).2.2.2.2.1, sy, (bk 1).2.2.2.2.2.2 + 1)), (n, sy, k, o, ke, va, fl, va_up sg 1 2, va_up cp 1 (cp 1 + 1), fs, va_up la 1 sy, nx, hd, dn, tg, bh), fr_Xx_Log_Pg_BA_Bk1x (c_X_copy_l lL g (A 0) (A 1) (A 6) (A 11) (A 26) (A 17) (A 19) (A 2) (A 3) (A 4) (A 5) kX oX keX vaX n sy (A 12) (A 13) (A 14) (A 15) (A 16) me ms dk ds du (fun j => A (27 + 2 * j)) (A 30) ((bk 1).1) ((bk 1).2.1) ((bk 1).2.2.1) ((bk 1).2.2.2.1) ((bk 1).2.2.2.2.1) ((bk 1).2.2.2.2.2.1) ((bk 1).2.2.2.2.2.2) 1 (by omega) (by omega)), ⟨6, 200, by omega, by omega, Ct.res (congrArg nI (by rw [ecp])) (c_M_copy_l1 lL g (B 0) (B 1) (B 2) (B 3) (B 4) (B 5) (B 6) (B 7) (B 8) (B 9) (B 10) n sy k o ke va fl sg cp fs la nx hd dn tg bh (fun b hb => (hB b hb).1) (hU 0 (by omega) (by omega)) hj1 (by omega))⟩, ⟨rfl, rfl, rfl, by omega, hL, hT, hP, ?_, Or.inl ⟨rfl, fun b hb => ?_⟩, hR, hZ⟩⟩
      · intro b hb
        by_cases hbj : b = 1
        · subst hbj
          rw [va_up_self, va_up_self, va_up_self, va_up_self]
          exact rBk_last hP hL.1 hBj h7
        · rw [va_up_ne _ _ hbj, va_up_ne _ _ hbj, va_up_ne _ _ hbj, va_up_ne _ _ hbj]
          exact hB b hb
      · by_cases hbj : b = 1
        · rw [hbj, va_up_self]; omega
        · rw [va_up_ne _ _ hbj]; exact hU b hb hbj
  · have hBj := hB 2 (by omega)
    rw [hj1] at hBj
    obtain ⟨-, -, -, c4, c5, -⟩ := hBj
    obtain ⟨-, ecp, -⟩ := c4 (by omega)
    have hp8 := (c5 rfl).1
    have hBj := hB 2 (by omega)
    rw [hj1] at hBj
    rcases Nat.lt_or_ge (bk 2).2.2.2.2.2.2 7 with h7 | h7
    · refine ⟨(nI (8 - ((bk 2).2.2.2.2.2.2 + 1))), (nI 2, kX, oX, keX, vaX, n, sy, c, f, tk, tv, me, ms, dk, ds, du, hdX, hc, nx, rv, rr, cR, fR, tkR, tvR, va_up bk 2 (va_cpy dk (bk 2).1 ((bk 2).2.2.2.2.2.2 * 4) ((bk 2).2.2.2.2.2.2 * 4) 4, (bk 2).2.1, (bk 2).2.2.1, (bk 2).2.2.2.1, (bk 2).2.2.2.2.1, (bk 2).2.2.2.2.2.1, (bk 2).2.2.2.2.2.2 + 1)), (n, sy, k, o, ke, va, fl, sg, va_up cp 2 (cp 2 + 1), fs, la, nx, hd, dn, tg, bh), fr_X_Log_Pg_BA_Bk2x (c_X_copy_m lL g (A 0) (A 1) (A 6) (A 11) (A 26) (A 17) (A 19) (A 2) (A 3) (A 4) (A 5) kX oX keX vaX n sy (A 12) (A 13) (A 14) (A 15) (A 16) me ms dk ds du (fun j => A (27 + 2 * j)) (A 32) ((bk 2).1) ((bk 2).2.1) ((bk 2).2.2.1) ((bk 2).2.2.2.1) ((bk 2).2.2.2.2.1) ((bk 2).2.2.2.2.2.1) ((bk 2).2.2.2.2.2.2) 2 (by omega) (by omega)), ⟨6, 200, by omega, by omega, Ct.res (congrArg nI (by rw [ecp])) (c_M_copy_m2 lL g (B 0) (B 1) (B 2) (B 3) (B 4) (B 5) (B 6) (B 7) (B 8) (B 9) (B 10) n sy k o ke va fl sg cp fs la nx hd dn tg bh (fun b hb => (hB b hb).1) (hU 0 (by omega) (by omega)) (hU 1 (by omega) (by omega)) hj1 (by omega))⟩, ⟨rfl, rfl, rfl, by omega, hL, hT, hP, ?_, Or.inr ⟨2, by omega, rfl, hj1, hU⟩, hR, hZ⟩⟩
      intro b hb
      by_cases hbj : b = 2
      · subst hbj
        rw [va_up_self, va_up_self, hj1]
        exact rBk_copy hP hL.1 hBj h7
      · rw [va_up_ne _ _ hbj, va_up_ne _ _ hbj]
        exact hB b hb
    · have h7 : (bk 2).2.2.2.2.2.2 = 7 := by omega
      refine ⟨(nI (8 - ((bk 2).2.2.2.2.2.2 + 1))), ((-1), kX, oX, keX, vaX, n, sy, c, f, tk, tv, me, ms, dk, ds, du, hdX, hc, nx, rv, rr, cR, fR, tkR, tvR, va_up bk 2 (va_cpy dk (bk 2).1 ((bk 2).2.2.2.2.2.2 * 4) ((bk 2).2.2.2.2.2.2 * 4) 4, (bk 2).2.1, 1, (bk 2).2.2.2.1, (bk 2).2.2.2.2.1, sy, (bk 2).2.2.2.2.2.2 + 1)), (n, sy, k, o, ke, va, fl, va_up sg 2 2, va_up cp 2 (cp 2 + 1), fs, va_up la 2 sy, nx, hd, dn, tg, bh), fr_Xx_Log_Pg_BA_Bk2x (c_X_copy_l lL g (A 0) (A 1) (A 6) (A 11) (A 26) (A 17) (A 19) (A 2) (A 3) (A 4) (A 5) kX oX keX vaX n sy (A 12) (A 13) (A 14) (A 15) (A 16) me ms dk ds du (fun j => A (27 + 2 * j)) (A 32) ((bk 2).1) ((bk 2).2.1) ((bk 2).2.2.1) ((bk 2).2.2.2.1) ((bk 2).2.2.2.2.1) ((bk 2).2.2.2.2.2.1) ((bk 2).2.2.2.2.2.2) 2 (by omega) (by omega)), ⟨6, 200, by omega, by omega, Ct.res (congrArg nI (by rw [ecp])) (c_M_copy_l2 lL g (B 0) (B 1) (B 2) (B 3) (B 4) (B 5) (B 6) (B 7) (B 8) (B 9) (B 10) n sy k o ke va fl sg cp fs la nx hd dn tg bh (fun b hb => (hB b hb).1) (hU 0 (by omega) (by omega)) (hU 1 (by omega) (by omega)) hj1 (by omega))⟩, ⟨rfl, rfl, rfl, by omega, hL, hT, hP, ?_, Or.inl ⟨rfl, fun b hb => ?_⟩, hR, hZ⟩⟩
      · intro b hb
        by_cases hbj : b = 2
        · subst hbj
          rw [va_up_self, va_up_self, va_up_self, va_up_self]
          exact rBk_last hP hL.1 hBj h7
        · rw [va_up_ne _ _ hbj, va_up_ne _ _ hbj, va_up_ne _ _ hbj, va_up_ne _ _ hbj]
          exact hB b hb
      · by_cases hbj : b = 2
        · rw [hbj, va_up_self]; omega
        · rw [va_up_ne _ _ hbj]; exact hU b hb hbj
set_option maxRecDepth 20000 in
theorem S_forget (lL : Launch) (g : Gt) (A B : Nat → Nat) {i : Nat} {s : SX} {m : SM} (hi : i < 512) (h : INV i s m) (a : Int32) : SIM lL g A B i s m y_X_forget y_M_forget (.code y_X_forget b_X_forget 2 (some .boolean)) (.code y_M_forget b_M_forget 2 (some .boolean)) [.int a] := by
  obtain ⟨un, kX, oX, keX, vaX, nX, syX, c, f, tk, tv, me, ms, dk, ds, du, hdX, hc, nxX, rv, rr, cR, fR, tkR, tvR, bk⟩ := s
  obtain ⟨n, sy, k, o, ke, va, fl, sg, cp, fs, la, nx, hd, dn, tg, bh⟩ := m
  obtain ⟨e1, e2, e3, hni, hL, hT, hP, hB, hU, hR, hZ⟩ := h
  subst e1; subst e2; subst e3
  have hsame : INV (i + 1) (un, kX, oX, keX, vaX, n, sy, c, f, tk, tv, me, ms, dk, ds, du, hdX, hc, nx, rv, rr, cR, fR, tkR, tvR, bk) (n, sy, k, o, ke, va, fl, sg, cp, fs, la, nx, hd, dn, tg, bh) := ⟨rfl, rfl, rfl, by omega, hL, hT, hP, hB, hU, hR, hZ⟩
  have hsn := hL.1
  rcases i32_cs a with ha | ⟨j, hj1, rfl⟩
  · exact ⟨(nI 0), (un, kX, oX, keX, vaX, n, sy, c, f, tk, tv, me, ms, dk, ds, du, hdX, hc, nx, rv, rr, cR, fR, tkR, tvR, bk), (n, sy, k, o, ke, va, fl, sg, cp, fs, la, nx, hd, dn, tg, bh), fr_X (c_X_forget_n lL g (A 0) (A 1) (A 6) (A 11) (A 26) (A 17) (A 19) un a ha), ⟨6, 200, by omega, by omega, c_M_forget_n lL g (B 0) (B 1) (B 2) (B 3) (B 4) (B 5) (B 6) (B 7) (B 8) (B 9) (B 10) n sy k o ke va fl sg cp fs la nx hd dn tg bh a ha⟩, hsame⟩
  rcases Nat.lt_or_ge j 3 with hj | hj
  · rcases (show j = 0 ∨ j = 1 ∨ j = 2 by omega) with rfl | rfl | rfl
    · obtain ⟨s0, -, f0, -⟩ := hB 0 (by omega)
      by_cases hz : sg 0 = 2
      · refine ⟨(nI 1), (un, kX, oX, keX, vaX, n, sy, c, f, tk, tv, me, ms, dk, ds, du, hdX, hc, nx, rv, rr, cR, fR, tkR, tvR, va_up bk 0 ((bk 0).1, 0, 0, (bk 0).2.2.2.1, (bk 0).2.2.2.2.1, (bk 0).2.2.2.2.2.1, (bk 0).2.2.2.2.2.2)), (n, sy, k, o, ke, va, fl, va_up sg 0 0, cp, fs, la, nx, hd, dn, tg, bh), fr_X_BA_Bk0x (c_X_forget_t lL g (A 0) (A 1) (A 6) (A 11) (A 26) (A 17) (A 19) un (fun j => A (27 + 2 * j)) (A 28) ((bk 0).1) ((bk 0).2.1) ((bk 0).2.2.1) ((bk 0).2.2.2.1) ((bk 0).2.2.2.2.1) ((bk 0).2.2.2.2.2.1) ((bk 0).2.2.2.2.2.2) 0 (by omega) (by rw [f0]; exact if_pos hz)), ⟨6, 200, by omega, by omega, c_M_forget_t lL g (B 0) (B 1) (B 2) (B 3) (B 4) (B 5) (B 6) (B 7) (B 8) (B 9) (B 10) n sy k o ke va fl sg cp fs la nx hd dn tg bh 0 (by omega) hz⟩, ⟨rfl, rfl, rfl, by omega, hL, hT, hP, ?_, ?_, hR, hZ⟩⟩
        · intro b hb
          by_cases hbj : b = 0
          · subst hbj
            rw [va_up_self, va_up_self]
            exact rBk_gone _ _ _ _ _ _
          · rw [va_up_ne _ _ hbj, va_up_ne _ _ hbj]
            exact hB b hb
        · rcases hU with ⟨e, hU⟩ | ⟨j, hj, e, hj1, hU⟩
          · exact Or.inl ⟨e, fun b hb => by unfold va_up; split <;> first | exact hU b hb | omega⟩
          · refine Or.inr ⟨j, hj, e, ?_, fun b hb hbj => by unfold va_up; split <;> first | exact hU b hb hbj | omega⟩
            rw [va_up_ne _ _ (fun z => by rw [z] at hj1; omega)]; exact hj1
      · exact ⟨(nI 0), (un, kX, oX, keX, vaX, n, sy, c, f, tk, tv, me, ms, dk, ds, du, hdX, hc, nx, rv, rr, cR, fR, tkR, tvR, bk), (n, sy, k, o, ke, va, fl, sg, cp, fs, la, nx, hd, dn, tg, bh), fr_X_BA_Bk0 (c_X_forget_f lL g (A 0) (A 1) (A 6) (A 11) (A 26) (A 17) (A 19) un (fun j => A (27 + 2 * j)) (A 28) ((bk 0).1) ((bk 0).2.1) ((bk 0).2.2.1) ((bk 0).2.2.2.1) ((bk 0).2.2.2.2.1) ((bk 0).2.2.2.2.2.1) ((bk 0).2.2.2.2.2.2) 0 (by omega) (by rw [f0]; exact if_neg hz)), ⟨6, 200, by omega, by omega, c_M_forget_f lL g (B 0) (B 1) (B 2) (B 3) (B 4) (B 5) (B 6) (B 7) (B 8) (B 9) (B 10) n sy k o ke va fl sg cp fs la nx hd dn tg bh 0 (by omega) hz s0⟩, hsame⟩
    · obtain ⟨s0, -, f0, -⟩ := hB 1 (by omega)
      by_cases hz : sg 1 = 2
      · refine ⟨(nI 1), (un, kX, oX, keX, vaX, n, sy, c, f, tk, tv, me, ms, dk, ds, du, hdX, hc, nx, rv, rr, cR, fR, tkR, tvR, va_up bk 1 ((bk 1).1, 0, 0, (bk 1).2.2.2.1, (bk 1).2.2.2.2.1, (bk 1).2.2.2.2.2.1, (bk 1).2.2.2.2.2.2)), (n, sy, k, o, ke, va, fl, va_up sg 1 0, cp, fs, la, nx, hd, dn, tg, bh), fr_X_BA_Bk1x (c_X_forget_t lL g (A 0) (A 1) (A 6) (A 11) (A 26) (A 17) (A 19) un (fun j => A (27 + 2 * j)) (A 30) ((bk 1).1) ((bk 1).2.1) ((bk 1).2.2.1) ((bk 1).2.2.2.1) ((bk 1).2.2.2.2.1) ((bk 1).2.2.2.2.2.1) ((bk 1).2.2.2.2.2.2) 1 (by omega) (by rw [f0]; exact if_pos hz)), ⟨6, 200, by omega, by omega, c_M_forget_t lL g (B 0) (B 1) (B 2) (B 3) (B 4) (B 5) (B 6) (B 7) (B 8) (B 9) (B 10) n sy k o ke va fl sg cp fs la nx hd dn tg bh 1 (by omega) hz⟩, ⟨rfl, rfl, rfl, by omega, hL, hT, hP, ?_, ?_, hR, hZ⟩⟩
        · intro b hb
          by_cases hbj : b = 1
          · subst hbj
            rw [va_up_self, va_up_self]
            exact rBk_gone _ _ _ _ _ _
          · rw [va_up_ne _ _ hbj, va_up_ne _ _ hbj]
            exact hB b hb
        · rcases hU with ⟨e, hU⟩ | ⟨j, hj, e, hj1, hU⟩
          · exact Or.inl ⟨e, fun b hb => by unfold va_up; split <;> first | exact hU b hb | omega⟩
          · refine Or.inr ⟨j, hj, e, ?_, fun b hb hbj => by unfold va_up; split <;> first | exact hU b hb hbj | omega⟩
            rw [va_up_ne _ _ (fun z => by rw [z] at hj1; omega)]; exact hj1
      · exact ⟨(nI 0), (un, kX, oX, keX, vaX, n, sy, c, f, tk, tv, me, ms, dk, ds, du, hdX, hc, nx, rv, rr, cR, fR, tkR, tvR, bk), (n, sy, k, o, ke, va, fl, sg, cp, fs, la, nx, hd, dn, tg, bh), fr_X_BA_Bk1 (c_X_forget_f lL g (A 0) (A 1) (A 6) (A 11) (A 26) (A 17) (A 19) un (fun j => A (27 + 2 * j)) (A 30) ((bk 1).1) ((bk 1).2.1) ((bk 1).2.2.1) ((bk 1).2.2.2.1) ((bk 1).2.2.2.2.1) ((bk 1).2.2.2.2.2.1) ((bk 1).2.2.2.2.2.2) 1 (by omega) (by rw [f0]; exact if_neg hz)), ⟨6, 200, by omega, by omega, c_M_forget_f lL g (B 0) (B 1) (B 2) (B 3) (B 4) (B 5) (B 6) (B 7) (B 8) (B 9) (B 10) n sy k o ke va fl sg cp fs la nx hd dn tg bh 1 (by omega) hz s0⟩, hsame⟩
    · obtain ⟨s0, -, f0, -⟩ := hB 2 (by omega)
      by_cases hz : sg 2 = 2
      · refine ⟨(nI 1), (un, kX, oX, keX, vaX, n, sy, c, f, tk, tv, me, ms, dk, ds, du, hdX, hc, nx, rv, rr, cR, fR, tkR, tvR, va_up bk 2 ((bk 2).1, 0, 0, (bk 2).2.2.2.1, (bk 2).2.2.2.2.1, (bk 2).2.2.2.2.2.1, (bk 2).2.2.2.2.2.2)), (n, sy, k, o, ke, va, fl, va_up sg 2 0, cp, fs, la, nx, hd, dn, tg, bh), fr_X_BA_Bk2x (c_X_forget_t lL g (A 0) (A 1) (A 6) (A 11) (A 26) (A 17) (A 19) un (fun j => A (27 + 2 * j)) (A 32) ((bk 2).1) ((bk 2).2.1) ((bk 2).2.2.1) ((bk 2).2.2.2.1) ((bk 2).2.2.2.2.1) ((bk 2).2.2.2.2.2.1) ((bk 2).2.2.2.2.2.2) 2 (by omega) (by rw [f0]; exact if_pos hz)), ⟨6, 200, by omega, by omega, c_M_forget_t lL g (B 0) (B 1) (B 2) (B 3) (B 4) (B 5) (B 6) (B 7) (B 8) (B 9) (B 10) n sy k o ke va fl sg cp fs la nx hd dn tg bh 2 (by omega) hz⟩, ⟨rfl, rfl, rfl, by omega, hL, hT, hP, ?_, ?_, hR, hZ⟩⟩
        · intro b hb
          by_cases hbj : b = 2
          · subst hbj
            rw [va_up_self, va_up_self]
            exact rBk_gone _ _ _ _ _ _
          · rw [va_up_ne _ _ hbj, va_up_ne _ _ hbj]
            exact hB b hb
        · rcases hU with ⟨e, hU⟩ | ⟨j, hj, e, hj1, hU⟩
          · exact Or.inl ⟨e, fun b hb => by unfold va_up; split <;> first | exact hU b hb | omega⟩
          · refine Or.inr ⟨j, hj, e, ?_, fun b hb hbj => by unfold va_up; split <;> first | exact hU b hb hbj | omega⟩
            rw [va_up_ne _ _ (fun z => by rw [z] at hj1; omega)]; exact hj1
      · exact ⟨(nI 0), (un, kX, oX, keX, vaX, n, sy, c, f, tk, tv, me, ms, dk, ds, du, hdX, hc, nx, rv, rr, cR, fR, tkR, tvR, bk), (n, sy, k, o, ke, va, fl, sg, cp, fs, la, nx, hd, dn, tg, bh), fr_X_BA_Bk2 (c_X_forget_f lL g (A 0) (A 1) (A 6) (A 11) (A 26) (A 17) (A 19) un (fun j => A (27 + 2 * j)) (A 32) ((bk 2).1) ((bk 2).2.1) ((bk 2).2.2.1) ((bk 2).2.2.2.1) ((bk 2).2.2.2.2.1) ((bk 2).2.2.2.2.2.1) ((bk 2).2.2.2.2.2.2) 2 (by omega) (by rw [f0]; exact if_neg hz)), ⟨6, 200, by omega, by omega, c_M_forget_f lL g (B 0) (B 1) (B 2) (B 3) (B 4) (B 5) (B 6) (B 7) (B 8) (B 9) (B 10) n sy k o ke va fl sg cp fs la nx hd dn tg bh 2 (by omega) hz s0⟩, hsame⟩
  · exact ⟨(nI 0), (un, kX, oX, keX, vaX, n, sy, c, f, tk, tv, me, ms, dk, ds, du, hdX, hc, nx, rv, rr, cR, fR, tkR, tvR, bk), (n, sy, k, o, ke, va, fl, sg, cp, fs, la, nx, hd, dn, tg, bh), fr_X (c_X_forget_g lL g (A 0) (A 1) (A 6) (A 11) (A 26) (A 17) (A 19) un j hj hj1), ⟨6, 200, by omega, by omega, c_M_forget_g lL g (B 0) (B 1) (B 2) (B 3) (B 4) (B 5) (B 6) (B 7) (B 8) (B 9) (B 10) n sy k o ke va fl sg cp fs la nx hd dn tg bh j (by omega) (by omega)⟩, hsame⟩
