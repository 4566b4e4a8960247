set_option maxRecDepth 20000 in
theorem S_set (lL : Launch) (g : Gt) (A B : Nat → Nat) {i : Nat} {s : SX} {m : SM} (hi : i < 512) (h : INV i s m) (a : Int32) (b : Int32) (v : Int32) : SIM lL g A B i s m y_X_set y_M_set (.code y_X_set b_X_set 4 (some .int)) (.code y_M_set b_M_set 4 (some .int)) [.int a, .int b, .int v] := by
  obtain ⟨un, kX, oX, keX, vaX, nX, syX, c, f, tk, tv, me, ms, dk, ds, du, hdX, hc, nxX, rv, rr, cR, fR, tkR, tvR, bk⟩ := s
  obtain ⟨n, sy, k, o, ke, va, fl, sg, cp, fs, la, nx, hd, dn, tg, bh⟩ := m
  obtain ⟨e1, e2, e3, hni, hL, hT, hP, hB, hU, hR, hZ⟩ := h
  subst e1; subst e2; subst e3
  have hsame : INV (i + 1) (un, kX, oX, keX, vaX, n, sy, c, f, tk, tv, me, ms, dk, ds, du, hdX, hc, nx, rv, rr, cR, fR, tkR, tvR, bk) (n, sy, k, o, ke, va, fl, sg, cp, fs, la, nx, hd, dn, tg, bh) := ⟨rfl, rfl, rfl, by omega, hL, hT, hP, hB, hU, hR, hZ⟩
  have hsn := hL.1
  rcases i32_cs a with ha | ⟨t, ht1, rfl⟩
  · exact ⟨(-1), (un, kX, oX, keX, vaX, n, sy, c, f, tk, tv, me, ms, dk, ds, du, hdX, hc, nx, rv, rr, cR, fR, tkR, tvR, bk), (n, sy, k, o, ke, va, fl, sg, cp, fs, la, nx, hd, dn, tg, bh), fr_X (c_X_set_tn lL g (A 0) (A 1) (A 6) (A 11) (A 26) (A 17) (A 19) un a b v ha), ⟨6, 200, by omega, by omega, c_M_set_tn lL g (B 0) (B 1) (B 2) (B 3) (B 4) (B 5) (B 6) (B 7) (B 8) (B 9) (B 10) n sy k o ke va fl sg cp fs la nx hd dn tg bh a b v ha⟩, hsame⟩
  rcases Nat.lt_or_ge t 3 with ht | ht
  · rcases i32_cs b with hb | ⟨ky, hk1, rfl⟩
    · exact ⟨(-1), (un, kX, oX, keX, vaX, n, sy, c, f, tk, tv, me, ms, dk, ds, du, hdX, hc, nx, rv, rr, cR, fR, tkR, tvR, bk), (n, sy, k, o, ke, va, fl, sg, cp, fs, la, nx, hd, dn, tg, bh), fr_X (c_X_set_kn lL g (A 0) (A 1) (A 6) (A 11) (A 26) (A 17) (A 19) un t b v (by omega) hb), ⟨6, 200, by omega, by omega, c_M_set_kn lL g (B 0) (B 1) (B 2) (B 3) (B 4) (B 5) (B 6) (B 7) (B 8) (B 9) (B 10) n sy k o ke va fl sg cp fs la nx hd dn tg bh t b v (by omega) hb⟩, hsame⟩
    rcases Nat.lt_or_ge ky 32 with hk | hk
    · obtain ⟨a1, a2, a3, a4, a5⟩ := hT.1 t ht
      have hse : seL k o (nI t) n 0 = c t := by rw [seL_buf, a1, Nat.zero_add]
      by_cases hc4 : c t = 4
      · exact ⟨(-2), (un, kX, oX, keX, vaX, n, sy, c, f, tk, tv, me, ms, dk, ds, du, hdX, hc, nx, rv, rr, cR, fR, tkR, tvR, bk), (n, sy, k, o, ke, va, fl, sg, cp, fs, la, nx, hd, dn, tg, bh), fr_X_Log_Tr (c_X_set_full lL g (A 0) (A 1) (A 6) (A 11) (A 26) (A 17) (A 19) un (A 2) (A 3) (A 4) (A 5) kX oX keX vaX n sy (A 7) (A 8) (A 9) (A 10) c f tk tv t ky v (by omega) (by omega) (by omega)), ⟨6, 200, by omega, by omega, c_M_set_full lL g (B 0) (B 1) (B 2) (B 3) (B 4) (B 5) (B 6) (B 7) (B 8) (B 9) (B 10) n sy k o ke va fl sg cp fs la nx hd dn tg bh t ky v (by omega) (by omega) (by omega) (fun i hi => (hL.2.2 i (by omega)).1) (by omega)⟩, hsame⟩
      have hL2 := rLog_add hL 0 (nI t) ky v t ky v (by omega) (fun _ => ⟨ht, rfl⟩) (fun _ => ⟨hk, rfl, rfl⟩) (fun u hu => by
        rw [buf_set t u ht hu]
        obtain ⟨b1, b2, -⟩ := hT.1 u hu
        split
        · next hut => subst hut; rw [List.length_append, List.length_singleton]; omega
        · omega)
      rcases Nat.eq_zero_or_pos (c t) with hz | hz
      · exact ⟨(nI (n + 1)), (un, va_up kX n 0, va_up oX n t, va_up keX n ky, upd vaX n v, n + 1, sy, va_up c t (c t + 1), va_up f t n, va_up tk (t * 4 + c t) ky, upd tv (t * 4 + c t) v, me, ms, dk, ds, du, hdX, hc, nx, rv, rr, cR, fR, tkR, tvR, bk), (n + 1, sy, va_up k n 0, upd o n (nI t), va_up ke n ky, upd va n v, fl, sg, cp, fs, la, nx, hd, dn, tg, bh), fr_X_Logx_Trx (c_X_set_n lL g (A 0) (A 1) (A 6) (A 11) (A 26) (A 17) (A 19) un (A 2) (A 3) (A 4) (A 5) kX oX keX vaX n sy (A 7) (A 8) (A 9) (A 10) c f tk tv t ky v (by omega) (by omega) (by omega) (by omega)), ⟨6, 200, by omega, by omega, c_M_set_ok lL g (B 0) (B 1) (B 2) (B 3) (B 4) (B 5) (B 6) (B 7) (B 8) (B 9) (B 10) n sy k o ke va fl sg cp fs la nx hd dn tg bh t ky v (by omega) (by omega) (by omega) (fun i hi => (hL.2.2 i (by omega)).1) (by omega)⟩, ⟨rfl, rfl, rfl, by omega, hL2, rTr_set ht (by omega) hk v (by omega) hT _ (if_pos hz).symm, rPg_no hL.1 0 (nI t) ky v (by omega) hP, fun b hb => rBk_agr ((agr_add 0 (nI t) ky v).le hL.1) (Nat.le_refl _) (fun _ _ _ h => h) (hB b hb), hU, hR, rRs_agr ((agr_add 0 (nI t) ky v).le hL.1) (Nat.le_refl _) hZ⟩⟩
      · exact ⟨(nI (n + 1)), (un, va_up kX n 0, va_up oX n t, va_up keX n ky, upd vaX n v, n + 1, sy, va_up c t (c t + 1), f, va_up tk (t * 4 + c t) ky, upd tv (t * 4 + c t) v, me, ms, dk, ds, du, hdX, hc, nx, rv, rr, cR, fR, tkR, tvR, bk), (n + 1, sy, va_up k n 0, upd o n (nI t), va_up ke n ky, upd va n v, fl, sg, cp, fs, la, nx, hd, dn, tg, bh), fr_X_Logx_Trx (c_X_set_o lL g (A 0) (A 1) (A 6) (A 11) (A 26) (A 17) (A 19) un (A 2) (A 3) (A 4) (A 5) kX oX keX vaX n sy (A 7) (A 8) (A 9) (A 10) c f tk tv t ky v (by omega) (by omega) (by omega) (by omega) (by omega)), ⟨6, 200, by omega, by omega, c_M_set_ok lL g (B 0) (B 1) (B 2) (B 3) (B 4) (B 5) (B 6) (B 7) (B 8) (B 9) (B 10) n sy k o ke va fl sg cp fs la nx hd dn tg bh t ky v (by omega) (by omega) (by omega) (fun i hi => (hL.2.2 i (by omega)).1) (by omega)⟩, ⟨rfl, rfl, rfl, by omega, hL2, rTr_set ht (by omega) hk v (by omega) hT _ (if_neg (by omega)).symm, rPg_no hL.1 0 (nI t) ky v (by omega) hP, fun b hb => rBk_agr ((agr_add 0 (nI t) ky v).le hL.1) (Nat.le_refl _) (fun _ _ _ h => h) (hB b hb), hU, hR, rRs_agr ((agr_add 0 (nI t) ky v).le hL.1) (Nat.le_refl _) hZ⟩⟩
    · exact ⟨(-1), (un, kX, oX, keX, vaX, n, sy, c, f, tk, tv, me, ms, dk, ds, du, hdX, hc, nx, rv, rr, cR, fR, tkR, tvR, bk), (n, sy, k, o, ke, va, fl, sg, cp, fs, la, nx, hd, dn, tg, bh), fr_X (c_X_set_kg lL g (A 0) (A 1) (A 6) (A 11) (A 26) (A 17) (A 19) un t ky v (by omega) (by omega) (by omega)), ⟨6, 200, by omega, by omega, c_M_set_kg lL g (B 0) (B 1) (B 2) (B 3) (B 4) (B 5) (B 6) (B 7) (B 8) (B 9) (B 10) n sy k o ke va fl sg cp fs la nx hd dn tg bh t ky v (by omega) (by omega) (by omega)⟩, hsame⟩
  · exact ⟨(-1), (un, kX, oX, keX, vaX, n, sy, c, f, tk, tv, me, ms, dk, ds, du, hdX, hc, nx, rv, rr, cR, fR, tkR, tvR, bk), (n, sy, k, o, ke, va, fl, sg, cp, fs, la, nx, hd, dn, tg, bh), fr_X (c_X_set_tg lL g (A 0) (A 1) (A 6) (A 11) (A 26) (A 17) (A 19) un t b v (by omega) (by omega)), ⟨6, 200, by omega, by omega, c_M_set_tg lL g (B 0) (B 1) (B 2) (B 3) (B 4) (B 5) (B 6) (B 7) (B 8) (B 9) (B 10) n sy k o ke va fl sg cp fs la nx hd dn tg bh t b v (by omega) (by omega)⟩, hsame⟩
set_option maxRecDepth 20000 in
theorem S_commit (lL : Launch) (g : Gt) (A B : Nat → Nat) {i : Nat} {s : SX} {m : SM} (hi : i < 512) (h : INV i s m) (a : Int32) : SIM lL g A B i s m y_X_commit y_M_commit (.code y_X_commit b_X_commit 4 (some .int)) (.code y_M_commit b_M_commit 2 (some .int)) [.int a] := by
  obtain ⟨un, kX, oX, keX, vaX, nX, syX, c, f, tk, tv, me, ms, dk, ds, du, hdX, hc, nxX, rv, rr, cR, fR, tkR, tvR, bk⟩ := s
  obtain ⟨n, sy, k, o, ke, va, fl, sg, cp, fs, la, nx, hd, dn, tg, bh⟩ := m
  obtain ⟨e1, e2, e3, hni, hL, hT, hP, hB, hU, hR, hZ⟩ := h
  subst e1; subst e2; subst e3
  have hsame : INV (i + 1) (un, kX, oX, keX, vaX, n, sy, c, f, tk, tv, me, ms, dk, ds, du, hdX, hc, nx, rv, rr, cR, fR, tkR, tvR, bk) (n, sy, k, o, ke, va, fl, sg, cp, fs, la, nx, hd, dn, tg, bh) := ⟨rfl, rfl, rfl, by omega, hL, hT, hP, hB, hU, hR, hZ⟩
  have hsn := hL.1
  rcases i32_cs a with ha | ⟨t, ht1, rfl⟩
  · exact ⟨(-1), (un, kX, oX, keX, vaX, n, sy, c, f, tk, tv, me, ms, dk, ds, du, hdX, hc, nx, rv, rr, cR, fR, tkR, tvR, bk), (n, sy, k, o, ke, va, fl, sg, cp, fs, la, nx, hd, dn, tg, bh), fr_X (c_X_commit_n lL g (A 0) (A 1) (A 6) (A 11) (A 26) (A 17) (A 19) un a ha), ⟨6, 200, by omega, by omega, c_M_commit_n lL g (B 0) (B 1) (B 2) (B 3) (B 4) (B 5) (B 6) (B 7) (B 8) (B 9) (B 10) n sy k o ke va fl sg cp fs la nx hd dn tg bh a ha⟩, hsame⟩
  rcases Nat.lt_or_ge t 3 with ht | ht
  · obtain ⟨a1, a2, a3, a4, a5⟩ := hT.1 t ht
    have hop := opO_buf k o (nI t) n none
    rcases Nat.eq_zero_or_pos (c t) with hz | hz
    · rw [List.length_eq_zero_iff.mp (a1.symm.trans hz)] at hop
      exact ⟨(-3), (un, kX, oX, keX, vaX, n, sy, c, f, tk, tv, me, ms, dk, ds, du, hdX, hc, nx, rv, rr, cR, fR, tkR, tvR, bk), (n, sy, k, o, ke, va, fl, sg, cp, fs, la, nx, hd, dn, tg, bh), fr_X_Tr (c_X_commit_c lL g (A 0) (A 1) (A 6) (A 11) (A 26) (A 17) (A 19) un (A 7) (A 8) (A 9) (A 10) c f tk tv t (by omega) (by omega)), ⟨6, 200, by omega, by omega, c_M_commit_c lL g (B 0) (B 1) (B 2) (B 3) (B 4) (B 5) (B 6) (B 7) (B 8) (B 9) (B 10) n sy k o ke va fl sg cp fs la nx hd dn tg bh t (by omega) (by omega) (fun i hi => (hL.2.2 i (by omega)).1) hop⟩, hsame⟩
    · obtain ⟨x, l, hb⟩ : ∃ x l, buf k o (nI t) n = x :: l := by
        cases hb : buf k o (nI t) n with
        | nil => rw [hb] at a1; simp at a1; omega
        | cons x l => exact ⟨x, l, rfl⟩
      have hxn := (buf_mem (show x ∈ buf k o (nI t) n by rw [hb]; exact List.mem_cons_self)).1
      rw [hb] at hop
      have hop : opO k o (nI t) n none = some x := hop
      have hL2 := rLog_add hL 1 (nI t) 0 (nI 0) t 0 (nI 0) (by omega) (fun _ => ⟨ht, rfl⟩) (fun z => absurd z (by omega)) (fun u hu => by
        rw [buf_end 1 t u ht hu (by omega) (by omega)]
        obtain ⟨b1, b2, -⟩ := hT.1 u hu
        split
        · exact Nat.zero_le _
        · omega)
      have hds : ∀ j, j < 8 → ds j ≤ 512 := fun j hj => by
        obtain ⟨p1, p2, p3, p4, p5⟩ := hP.1 j hj
        rcases p2 with ⟨q1, -⟩ | ⟨-, -, q3, -⟩ <;> omega
      exact ⟨(nI (n + 1)), (un, va_up kX n 1, va_up oX n t, va_up keX n 0, upd vaX n (nI 0), n + 1, sy, va_up c t 0, f, tk, tv, wrS tk tv me (t * 4) (c t), ms, dk, (tcS tk (n + 1) ds du (t * 4) (c t)).1, (tcS tk (n + 1) ds du (t * 4) (c t)).2, hdX, hc, nx, rv, rr, cR, fR, tkR, tvR, bk), (n + 1, sy, va_up k n 1, upd o n (nI t), va_up ke n 0, upd va n (nI 0), fl, sg, cp, fs, la, nx, hd, dn, tg, bh), fr_X_Logx_Trx_Pgx (c_X_commit_o lL g (A 0) (A 1) (A 6) (A 11) (A 26) (A 17) (A 19) un (A 2) (A 3) (A 4) (A 5) kX oX keX vaX n sy (A 7) (A 8) (A 9) (A 10) c f tk tv (A 12) (A 13) (A 14) (A 15) (A 16) me ms dk ds du t (by omega) (by omega) (by omega) (by omega) hT.2 (fun j hj => hds j hj)), ⟨6, 200, by omega, by omega, c_M_commit_o lL g (B 0) (B 1) (B 2) (B 3) (B 4) (B 5) (B 6) (B 7) (B 8) (B 9) (B 10) n sy k o ke va fl sg cp fs la nx hd dn tg bh t x (by omega) (by omega) (fun i hi => (hL.2.2 i (by omega)).1) hop (by omega)⟩, ⟨rfl, rfl, rfl, by omega, hL2, rTr_end ht (by omega) (by omega) 0 (nI 0) hT, rPg_com ht hL.1 hT 0 (nI 0) hP, fun b hb => rBk_agr ((agr_add 1 (nI t) 0 (nI 0)).le hL.1) (Nat.le_refl _) (fun _ _ _ h => h) (hB b hb), hU, hR, rRs_agr ((agr_add 1 (nI t) 0 (nI 0)).le hL.1) (Nat.le_refl _) hZ⟩⟩
  · exact ⟨(-1), (un, kX, oX, keX, vaX, n, sy, c, f, tk, tv, me, ms, dk, ds, du, hdX, hc, nx, rv, rr, cR, fR, tkR, tvR, bk), (n, sy, k, o, ke, va, fl, sg, cp, fs, la, nx, hd, dn, tg, bh), fr_X (c_X_commit_g lL g (A 0) (A 1) (A 6) (A 11) (A 26) (A 17) (A 19) un t (by omega) (by omega)), ⟨6, 200, by omega, by omega, c_M_commit_g lL g (B 0) (B 1) (B 2) (B 3) (B 4) (B 5) (B 6) (B 7) (B 8) (B 9) (B 10) n sy k o ke va fl sg cp fs la nx hd dn tg bh t (by omega) (by omega)⟩, hsame⟩
set_option maxRecDepth 20000 in
theorem S_abort (lL : Launch) (g : Gt) (A B : Nat → Nat) {i : Nat} {s : SX} {m : SM} (hi : i < 512) (h : INV i s m) (a : Int32) : SIM lL g A B i s m y_X_abort y_M_abort (.code y_X_abort b_X_abort 3 (some .int)) (.code y_M_abort b_M_abort 2 (some .int)) [.int a] := by
  obtain ⟨un, kX, oX, keX, vaX, nX, syX, c, f, tk, tv, me, ms, dk, ds, du, hdX, hc, nxX, rv, rr, cR, fR, tkR, tvR, bk⟩ := s
  obtain ⟨n, sy, k, o, ke, va, fl, sg, cp, fs, la, nx, hd, dn, tg, bh⟩ := m
  obtain ⟨e1, e2, e3, hni, hL, hT, hP, hB, hU, hR, hZ⟩ := h
  subst e1; subst e2; subst e3
  have hsame : INV (i + 1) (un, kX, oX, keX, vaX, n, sy, c, f, tk, tv, me, ms, dk, ds, du, hdX, hc, nx, rv, rr, cR, fR, tkR, tvR, bk) (n, sy, k, o, ke, va, fl, sg, cp, fs, la, nx, hd, dn, tg, bh) := ⟨rfl, rfl, rfl, by omega, hL, hT, hP, hB, hU, hR, hZ⟩
  have hsn := hL.1
  rcases i32_cs a with ha | ⟨t, ht1, rfl⟩
  · exact ⟨(-1), (un, kX, oX, keX, vaX, n, sy, c, f, tk, tv, me, ms, dk, ds, du, hdX, hc, nx, rv, rr, cR, fR, tkR, tvR, bk), (n, sy, k, o, ke, va, fl, sg, cp, fs, la, nx, hd, dn, tg, bh), fr_X (c_X_abort_n lL g (A 0) (A 1) (A 6) (A 11) (A 26) (A 17) (A 19) un a ha), ⟨6, 200, by omega, by omega, c_M_abort_n lL g (B 0) (B 1) (B 2) (B 3) (B 4) (B 5) (B 6) (B 7) (B 8) (B 9) (B 10) n sy k o ke va fl sg cp fs la nx hd dn tg bh a ha⟩, hsame⟩
  rcases Nat.lt_or_ge t 3 with ht | ht
  · obtain ⟨a1, a2, a3, a4, a5⟩ := hT.1 t ht
    have hop := opO_buf k o (nI t) n none
    rcases Nat.eq_zero_or_pos (c t) with hz | hz
    · rw [List.length_eq_zero_iff.mp (a1.symm.trans hz)] at hop
      exact ⟨(-3), (un, kX, oX, keX, vaX, n, sy, c, f, tk, tv, me, ms, dk, ds, du, hdX, hc, nx, rv, rr, cR, fR, tkR, tvR, bk), (n, sy, k, o, ke, va, fl, sg, cp, fs, la, nx, hd, dn, tg, bh), fr_X_Tr (c_X_abort_c lL g (A 0) (A 1) (A 6) (A 11) (A 26) (A 17) (A 19) un (A 7) (A 8) (A 9) (A 10) c f tk tv t (by omega) (by omega)), ⟨6, 200, by omega, by omega, c_M_abort_c lL g (B 0) (B 1) (B 2) (B 3) (B 4) (B 5) (B 6) (B 7) (B 8) (B 9) (B 10) n sy k o ke va fl sg cp fs la nx hd dn tg bh t (by omega) (by omega) (fun i hi => (hL.2.2 i (by omega)).1) hop⟩, hsame⟩
    · obtain ⟨x, l, hb⟩ : ∃ x l, buf k o (nI t) n = x :: l := by
        cases hb : buf k o (nI t) n with
        | nil => rw [hb] at a1; simp at a1; omega
        | cons x l => exact ⟨x, l, rfl⟩
      have hxn := (buf_mem (show x ∈ buf k o (nI t) n by rw [hb]; exact List.mem_cons_self)).1
      rw [hb] at hop
      have hop : opO k o (nI t) n none = some x := hop
      have hL2 := rLog_add hL 2 (nI t) 0 (nI 0) t 0 (nI 0) (by omega) (fun _ => ⟨ht, rfl⟩) (fun z => absurd z (by omega)) (fun u hu => by
        rw [buf_end 2 t u ht hu (by omega) (by omega)]
        obtain ⟨b1, b2, -⟩ := hT.1 u hu
        split
        · exact Nat.zero_le _
        · omega)
      exact ⟨(nI (n + 1)), (un, va_up kX n 2, va_up oX n t, va_up keX n 0, upd vaX n (nI 0), n + 1, sy, va_up c t 0, f, tk, tv, me, ms, dk, ds, du, hdX, hc, nx, rv, rr, cR, fR, tkR, tvR, bk), (n + 1, sy, va_up k n 2, upd o n (nI t), va_up ke n 0, upd va n (nI 0), fl, sg, cp, fs, la, nx, hd, dn, tg, bh), fr_X_Logx_Trx (c_X_abort_o lL g (A 0) (A 1) (A 6) (A 11) (A 26) (A 17) (A 19) un (A 2) (A 3) (A 4) (A 5) kX oX keX vaX n sy (A 7) (A 8) (A 9) (A 10) c f tk tv t (by omega) (by omega) (by omega) (by omega)), ⟨6, 200, by omega, by omega, c_M_abort_o lL g (B 0) (B 1) (B 2) (B 3) (B 4) (B 5) (B 6) (B 7) (B 8) (B 9) (B 10) n sy k o ke va fl sg cp fs la nx hd dn tg bh t x (by omega) (by omega) (fun i hi => (hL.2.2 i (by omega)).1) hop (by omega)⟩, ⟨rfl, rfl, rfl, by omega, hL2, rTr_end ht (by omega) (by omega) 0 (nI 0) hT, rPg_no hL.1 2 (nI t) 0 (nI 0) (by omega) hP, fun b hb => rBk_agr ((agr_add 2 (nI t) 0 (nI 0)).le hL.1) (Nat.le_refl _) (fun _ _ _ h => h) (hB b hb), hU, hR, rRs_agr ((agr_add 2 (nI t) 0 (nI 0)).le hL.1) (Nat.le_refl _) hZ⟩⟩
  · exact ⟨(-1), (un, kX, oX, keX, vaX, n, sy, c, f, tk, tv, me, ms, dk, ds, du, hdX, hc, nx, rv, rr, cR, fR, tkR, tvR, bk), (n, sy, k, o, ke, va, fl, sg, cp, fs, la, nx, hd, dn, tg, bh), fr_X (c_X_abort_g lL g (A 0) (A 1) (A 6) (A 11) (A 26) (A 17) (A 19) un t (by omega) (by omega)), ⟨6, 200, by omega, by omega, c_M_abort_g lL g (B 0) (B 1) (B 2) (B 3) (B 4) (B 5) (B 6) (B 7) (B 8) (B 9) (B 10) n sy k o ke va fl sg cp fs la nx hd dn tg bh t (by omega) (by omega)⟩, hsame⟩
set_option maxRecDepth 20000 in
theorem S_get (lL : Launch) (g : Gt) (A B : Nat → Nat) {i : Nat} {s : SX} {m : SM} (hi : i < 512) (h : INV i s m) (a : Int32) : SIM lL g A B i s m y_X_get y_M_get (.code y_X_get b_X_get 2 (some .int)) (.code y_M_get b_M_get 2 (some .int)) [.int a] := by
  obtain ⟨un, kX, oX, keX, vaX, nX, syX, c, f, tk, tv, me, ms, dk, ds, du, hdX, hc, nxX, rv, rr, cR, fR, tkR, tvR, bk⟩ := s
  obtain ⟨n, sy, k, o, ke, va, fl, sg, cp, fs, la, nx, hd, dn, tg, bh⟩ := m
  obtain ⟨e1, e2, e3, hni, hL, hT, hP, hB, hU, hR, hZ⟩ := h
  subst e1; subst e2; subst e3
  have hsame : INV (i + 1) (un, kX, oX, keX, vaX, n, sy, c, f, tk, tv, me, ms, dk, ds, du, hdX, hc, nx, rv, rr, cR, fR, tkR, tvR, bk) (n, sy, k, o, ke, va, fl, sg, cp, fs, la, nx, hd, dn, tg, bh) := ⟨rfl, rfl, rfl, by omega, hL, hT, hP, hB, hU, hR, hZ⟩
  have hsn := hL.1
  rcases i32_cs a with ha | ⟨y, hy1, rfl⟩
  · exact ⟨(nI 0), (un, kX, oX, keX, vaX, n, sy, c, f, tk, tv, me, ms, dk, ds, du, hdX, hc, nx, rv, rr, cR, fR, tkR, tvR, bk), (n, sy, k, o, ke, va, fl, sg, cp, fs, la, nx, hd, dn, tg, bh), fr_X (c_X_get_n lL g (A 0) (A 1) (A 6) (A 11) (A 26) (A 17) (A 19) un a ha), ⟨6, 200, by omega, by omega, c_M_get_n lL g (B 0) (B 1) (B 2) (B 3) (B 4) (B 5) (B 6) (B 7) (B 8) (B 9) (B 10) n sy k o ke va fl sg cp fs la nx hd dn tg bh a ha⟩, hsame⟩
  rcases Nat.lt_or_ge y 32 with hy | hy
  · have e := (hP.2 y hy).1
    have hx := c_X_get_t lL g (A 0) (A 1) (A 6) (A 11) (A 26) (A 17) (A 19) un (A 12) (A 13) (A 14) (A 15) (A 16) me ms dk ds du y (by omega)
    rw [e] at hx
    exact ⟨_, (un, kX, oX, keX, vaX, n, sy, c, f, tk, tv, me, ms, dk, ds, du, hdX, hc, nx, rv, rr, cR, fR, tkR, tvR, bk), (n, sy, k, o, ke, va, fl, sg, cp, fs, la, nx, hd, dn, tg, bh), fr_X_Pg (hx), ⟨6, 200, by omega, by omega, c_M_get_t lL g (B 0) (B 1) (B 2) (B 3) (B 4) (B 5) (B 6) (B 7) (B 8) (B 9) (B 10) n sy k o ke va fl sg cp fs la nx hd dn tg bh y (by omega) (by omega) (fun i hi => (hL.2.2 i (by omega)).1) (fun i hi h0 => ((hL.2.2 i (by omega)).2.2.2 h0).1)⟩, hsame⟩
  · exact ⟨(nI 0), (un, kX, oX, keX, vaX, n, sy, c, f, tk, tv, me, ms, dk, ds, du, hdX, hc, nx, rv, rr, cR, fR, tkR, tvR, bk), (n, sy, k, o, ke, va, fl, sg, cp, fs, la, nx, hd, dn, tg, bh), fr_X (c_X_get_g lL g (A 0) (A 1) (A 6) (A 11) (A 26) (A 17) (A 19) un y (by omega) (by omega)), ⟨6, 200, by omega, by omega, c_M_get_g lL g (B 0) (B 1) (B 2) (B 3) (B 4) (B 5) (B 6) (B 7) (B 8) (B 9) (B 10) n sy k o ke va fl sg cp fs la nx hd dn tg bh y (by omega) (by omega)⟩, hsame⟩
set_option maxRecDepth 20000 in
theorem S_sync (lL : Launch) (g : Gt) (A B : Nat → Nat) {i : Nat} {s : SX} {m : SM} (hi : i < 512) (h : INV i s m) : SIM lL g A B i s m y_X_sync y_M_sync (.code y_X_sync b_X_sync 1 (some .int)) (.code y_M_sync b_M_sync 2 (some .int)) [] := by
  obtain ⟨un, kX, oX, keX, vaX, nX, syX, c, f, tk, tv, me, ms, dk, ds, du, hdX, hc, nxX, rv, rr, cR, fR, tkR, tvR, bk⟩ := s
  obtain ⟨n, sy, k, o, ke, va, fl, sg, cp, fs, la, nx, hd, dn, tg, bh⟩ := m
  obtain ⟨e1, e2, e3, hni, hL, hT, hP, hB, hU, hR, hZ⟩ := h
  subst e1; subst e2; subst e3
  have hsame : INV (i + 1) (un, kX, oX, keX, vaX, n, sy, c, f, tk, tv, me, ms, dk, ds, du, hdX, hc, nx, rv, rr, cR, fR, tkR, tvR, bk) (n, sy, k, o, ke, va, fl, sg, cp, fs, la, nx, hd, dn, tg, bh) := ⟨rfl, rfl, rfl, by omega, hL, hT, hP, hB, hU, hR, hZ⟩
  have hsn := hL.1
  exact ⟨(nI (n - sy)), (un, kX, oX, keX, vaX, n, n, c, f, tk, tv, me, va_cpy me ms 0 0 32, dk, ds, du, hdX, hc, nx, rv, rr, cR, fR, tkR, tvR, bk), (n, n, k, o, ke, va, fl, sg, cp, fs, la, nx, hd, dn, tg, bh), fr_X_Logx_Pgx (c_X_sync lL g (A 0) (A 1) (A 6) (A 11) (A 26) (A 17) (A 19) un (A 2) (A 3) (A 4) (A 5) kX oX keX vaX n sy (A 12) (A 13) (A 14) (A 15) (A 16) me ms dk ds du (by omega)), ⟨6, 200, by omega, by omega, c_M_sync lL g (B 0) (B 1) (B 2) (B 3) (B 4) (B 5) (B 6) (B 7) (B 8) (B 9) (B 10) n sy k o ke va fl sg cp fs la nx hd dn tg bh (by omega)⟩, ⟨rfl, rfl, rfl, by omega, ⟨Nat.le_refl _, hL.2⟩, hT, rPg_sync hP, fun b hb => rBk_agr (fun _ _ => ⟨rfl, rfl, rfl, rfl⟩) hL.1 (fun _ _ _ h => h) (hB b hb), hU, rAr_sy hL.1 hR, rRs_agr (fun _ _ => ⟨rfl, rfl, rfl, rfl⟩) hL.1 hZ⟩⟩
set_option maxRecDepth 20000 in
theorem S_position (lL : Launch) (g : Gt) (A B : Nat → Nat) {i : Nat} {s : SX} {m : SM} (hi : i < 512) (h : INV i s m) : SIM lL g A B i s m y_X_position y_M_position (.code y_X_position b_X_position 1 (some .int)) (.code y_M_position b_M_position 1 (some .int)) [] := by
  obtain ⟨un, kX, oX, keX, vaX, nX, syX, c, f, tk, tv, me, ms, dk, ds, du, hdX, hc, nxX, rv, rr, cR, fR, tkR, tvR, bk⟩ := s
  obtain ⟨n, sy, k, o, ke, va, fl, sg, cp, fs, la, nx, hd, dn, tg, bh⟩ := m
  obtain ⟨e1, e2, e3, hni, hL, hT, hP, hB, hU, hR, hZ⟩ := h
  subst e1; subst e2; subst e3
  have hsame : INV (i + 1) (un, kX, oX, keX, vaX, n, sy, c, f, tk, tv, me, ms, dk, ds, du, hdX, hc, nx, rv, rr, cR, fR, tkR, tvR, bk) (n, sy, k, o, ke, va, fl, sg, cp, fs, la, nx, hd, dn, tg, bh) := ⟨rfl, rfl, rfl, by omega, hL, hT, hP, hB, hU, hR, hZ⟩
  have hsn := hL.1
  exact ⟨(nI n), (un, kX, oX, keX, vaX, n, sy, c, f, tk, tv, me, ms, dk, ds, du, hdX, hc, nx, rv, rr, cR, fR, tkR, tvR, bk), (n, sy, k, o, ke, va, fl, sg, cp, fs, la, nx, hd, dn, tg, bh), fr_X_Log (c_X_position lL g (A 0) (A 1) (A 6) (A 11) (A 26) (A 17) (A 19) un (A 2) (A 3) (A 4) (A 5) kX oX keX vaX n sy), ⟨6, 200, by omega, by omega, c_M_position lL g (B 0) (B 1) (B 2) (B 3) (B 4) (B 5) (B 6) (B 7) (B 8) (B 9) (B 10) n sy k o ke va fl sg cp fs la nx hd dn tg bh⟩, hsame⟩
