/-! the start, and the law's two worlds side by side -/
theorem INV_0 : INV 0 ((-1), (fun _ => 0), (fun _ => 0), (fun _ => 0), (fun _ => nI 0), 0, 0, (fun _ => 0), (fun _ => 0), (fun _ => 0), (fun _ => nI 0), (fun _ => nI 0), (fun _ => nI 0), (fun _ => nI 0), (fun _ => 0), (fun _ => 0), (fun _ => 0), 0, 0, (fun _ => nI 0), 0, (fun _ => 0), (fun _ => 0), (fun _ => 0), (fun _ => nI 0), (fun _ => (fun _ => nI 0, 0, 0, 0, 0, 0, 0))) (0, 0, (fun _ => 0), (fun _ => nI 0), (fun _ => 0), (fun _ => nI 0), (fun _ => 0), (fun _ => 0), (fun _ => 0), (fun _ => 0), (fun _ => 0), 0, (fun _ => 0), 0, 0, 0) := by
  refine ⟨rfl, rfl, rfl, Nat.le_refl _, ⟨Nat.le_refl _, fun m hm t _ => ?_, fun i hi => by omega⟩, ⟨fun t _ => ⟨rfl, Nat.zero_le _, Nat.zero_le _, fun j hj => (by cases hj), fun i j hj => (by simp [buf] at hj)⟩, fun j _ => (show (0 : Nat) < 32 by omega)⟩, ⟨fun p _ => ⟨Nat.le_refl _, Or.inl ⟨rfl, fun c _ h => absurd h (by omega)⟩, Nat.le_refl _, ⟨fun h => absurd (show (0 : Nat) < 0 from h) (by omega), fun ⟨c, _, _, h, _⟩ => absurd h (by omega)⟩, fun c _ h => absurd (show c < 0 from h) (by omega)⟩, fun ky _ => ⟨rfl, rfl, rfl⟩⟩, fun b _ => rBk_gone _ _ _ _ _ _, Or.inl ⟨rfl, fun b _ => (show (0 : Nat) ≠ 1 by omega)⟩, ⟨by omega, by omega, fun s _ => Or.inl rfl, fun s _ => rfl, fun s _ _ => rfl, by decide +kernel, by omega⟩, ⟨fun j _ => (show (0 : Nat) < 32 by omega), Or.inl ⟨rfl, rfl, fun ky _ => rfl⟩⟩⟩
  rw [show m = 0 by omega]
  exact Nat.zero_le _
theorem wS_len (g : Gt) (A : Nat → Nat) (s : SX) : (wS g A s).length = 33 := by
  obtain ⟨un, kX, oX, keX, vaX, nX, syX, c, f, tk, tv, me, ms, dk, ds, du, hdX, hc, nxX, rv, rr, cR, fR, tkR, tvR, bk⟩ := s
  rfl
theorem wT_len (g : Gt) (B : Nat → Nat) (m : SM) : (wT g B m).length = 11 := by
  obtain ⟨n, sy, k, o, ke, va, fl, sg, cp, fs, la, nx, hd, dn, tg, bh⟩ := m
  rfl
theorem wL_len (g : Gt) (A B : Nat → Nat) (s : SX) (m : SM) : (wS g A s ++ wT g B m).length = 44 := by rw [List.length_append, wS_len, wT_len]
theorem wL_X (g : Gt) (A B : Nat → Nat) (s : SX) (m : SM) : ∃ fs : List Value, (wS g A s ++ wT g B m)[0]? = some (A 0, .inr (0, fs)) := by
  obtain ⟨un, kX, oX, keX, vaX, nX, syX, c, f, tk, tv, me, ms, dk, ds, du, hdX, hc, nxX, rv, rr, cR, fR, tkR, tvR, bk⟩ := s
  exact ⟨_, rfl⟩
theorem wL_M (g : Gt) (A B : Nat → Nat) (s : SX) (m : SM) : ∃ fs : List Value, (wS g A s ++ wT g B m)[33]? = some (B 0, .inr (7, fs)) := by
  obtain ⟨un, kX, oX, keX, vaX, nX, syX, c, f, tk, tv, me, ms, dk, ds, du, hdX, hc, nxX, rv, rr, cR, fR, tkR, tvR, bk⟩ := s
  obtain ⟨n, sy, k, o, ke, va, fl, sg, cp, fs, la, nx, hd, dn, tg, bh⟩ := m
  exact ⟨_, rfl⟩
set_option maxRecDepth 20000 in
set_option maxHeartbeats 4000000 in
theorem frL {l : Launch} {g : Gt} {y : MethodName} {cy : Cond} {d z : Nat} {av : List Value} {r : Option Value} {A B : Nat → Nat} (s s' : SX) (m : SM) (h : Ct l g y cy d z av (wS g A s) (exP r (wS g A s'))) : Ct l g y cy d z av (wS g A s ++ wT g B m) (exP r (wS g A s' ++ wT g B m)) := by
  obtain ⟨un, kX, oX, keX, vaX, nX, syX, c, f, tk, tv, me, ms, dk, ds, du, hdX, hc, nxX, rv, rr, cR, fR, tkR, tvR, bk⟩ := s
  obtain ⟨un1, kX1, oX1, keX1, vaX1, nX1, syX1, c1, f1, tk1, tv1, me1, ms1, dk1, ds1, du1, hdX1, hc1, nxX1, rv1, rr1, cR1, fR1, tkR1, tvR1, bk1⟩ := s'
  obtain ⟨n, sy, k, o, ke, va, fl, sg, cp, fs, la, nx, hd, dn, tg, bh⟩ := m
  exact h.frame [0, 1, 2, 3, 4, 5, 6, 7, 8, 9, 10, 11, 12, 13, 14, 15, 16, 17, 18, 19, 20, 21, 22, 23, 24, 25, 26, 27, 28, 29, 30, 31, 32] [33, 34, 35, 36, 37, 38, 39, 40, 41, 42, 43] 44 (by decide) rfl rfl rfl rfl rfl (by decide)
set_option maxRecDepth 20000 in
set_option maxHeartbeats 4000000 in
theorem frR {l : Launch} {g : Gt} {y : MethodName} {cy : Cond} {d z : Nat} {av : List Value} {r : Option Value} {A B : Nat → Nat} (s : SX) (m m' : SM) (h : Ct l g y cy d z av (wT g B m) (exP r (wT g B m'))) : Ct l g y cy d z av (wS g A s ++ wT g B m) (exP r (wS g A s ++ wT g B m')) := by
  obtain ⟨un, kX, oX, keX, vaX, nX, syX, c, f, tk, tv, me, ms, dk, ds, du, hdX, hc, nxX, rv, rr, cR, fR, tkR, tvR, bk⟩ := s
  obtain ⟨n, sy, k, o, ke, va, fl, sg, cp, fs, la, nx, hd, dn, tg, bh⟩ := m
  obtain ⟨n1, sy1, k1, o1, ke1, va1, fl1, sg1, cp1, fs1, la1, nx1, hd1, dn1, tg1, bh1⟩ := m'
  exact h.frame [33, 34, 35, 36, 37, 38, 39, 40, 41, 42, 43] [0, 1, 2, 3, 4, 5, 6, 7, 8, 9, 10, 11, 12, 13, 14, 15, 16, 17, 18, 19, 20, 21, 22, 23, 24, 25, 26, 27, 28, 29, 30, 31, 32] 44 (by decide) rfl rfl rfl rfl rfl (by decide)
theorem rg_all (ws : va_W) : (List.range ws.length).map (fun i => ws[i]?) = ws.map some := by
  apply List.ext_getElem?
  intro k
  rw [List.getElem?_map, List.getElem?_map]
  by_cases hk : k < ws.length
  · rw [List.getElem?_range hk, List.getElem?_eq_getElem hk]; simp [hk]
  · rw [List.getElem?_eq_none_iff.mpr (by rw [List.length_range]; omega), List.getElem?_eq_none_iff.mpr (by omega)]; rfl
section LW
variable {p : Program} {l : Launch} {e : Env} {s : State} {m : MethodId} {args : Array Value} {below : List Frame} {meth : Method} {c : Code} {H H0 : Heap} {locs : List Loc} {cells slots : Nat} {Q : State → Prop} {g : Gt} {A0 : Nat → Prop} {cc : ByteArray} {pc : Nat} {ls : Array Slot} {rest st0 : List Value} {own : String} {index maxL n d z nL : Nat} {y : MethodName} {bytes : ByteArray} {ret : Option FieldType} {b : Nat} {A B : Nat → Nat} {x x' : SX} {w w' : SM} {r : Int32}
/-- a call of the law on the class's object or on the reference's -/
theorem lw_call (hx : p.tables.exec = Jvm.exec) (hb : c.code = cc) (hml : c.maxLocals = nL) (hown : s.vm.findClass own = some m.cls) (hg : ∀ w ∈ GW, w.before args s = true) (hK : KK g s) (hP : va_P g.1 cls (wS g A x ++ wT g B w) H) (hD : va_D A0 (wS g A x ++ wT g B w)) (hS : va_S A0 H0 H locs) (hA : ∀ q, H0.size ≤ q → A0 q) (hls : ls.size = nL)
    {As : List Value} (hM : Ct l g y (.code y bytes maxL ret) d z (.ref b :: As) (wS g A x ++ wT g B w) (exP (some (.int r)) (wS g A x' ++ wT g B w'))) (ok : okC y bytes maxL ret n) (okv : okV y) (hl : Cond.methodLink own index y ∈ GW) (hd : d ≤ 6) (hz : z ≤ 200) (hmx : maxL ≤ 40) (hcs : cells ≤ room_1.cells ∧ slots ≤ room_1.slots)
    (q0 ci : Nat) {cq : vw_C} (he : ∃ fs : List Value, (wS g A x ++ wT g B w)[q0]? = some (b, .inr (ci, fs))) (hc : cls[ci]? = some cq) (hcn : cq.1 = y.cls) (hn : As.length = n) (hst : st0 = As.reverse ++ .ref b :: rest) (hW : (rest.map fun v => v.category).sum ≤ 8) (hdg : decode cc pc = .ok (.invokevirtual index, 3))
    (kk : ∀ (H1 : Heap) (locs1 : List Loc), va_P g.1 cls (wS g A x' ++ wT g B w') H1 → va_D A0 (wS g A x' ++ wT g B w') → va_S A0 H0 H1 locs1 → W p l e room_1 s m args below meth c H1 locs1 cells slots Q (F0 m (pc + 3) ls (.int r :: rest))) :
    W p l e room_1 s m args below meth c H locs cells slots Q (F0 m pc ls st0) := by
  obtain ⟨fs, he⟩ := he
  have h1 := rg_all (wS g A x ++ wT g B w)
  have h2 := rg_all (wS g A x' ++ wT g B w')
  rw [wL_len] at h1 h2
  exact ct_G hx hb hml hown hg hK hP hD hS hA hls hM ok okv hl ⟨by show d + 1 ≤ 8; omega, by show 8 + (maxL + 11) + z ≤ 274; omega⟩ hcs q0 ci he hc hcn (List.range 44) [] 44 (by decide) h1 h2 rfl (wL_len _ _ _ _ _) (by decide) rfl hn hst hW hdg kk
/-- script[j] -/
theorem wv_sld (hx : p.tables.exec = Jvm.exec) (hb : c.code = cc) {R : Room} {sb L : Nat} {xs : Nat → Int32} (hX : va_X sb L xs s H0) (hbl : sb < H0.size) (hbA : ¬ A0 sb) (hS : va_S A0 H0 H locs) {j : Nat} (hj : j < L) (hL : L ≤ 2048) (hdg : decode cc pc = .ok (.iaload, 1))
    (kk : W p l e R s m args below meth c H locs cells slots Q (F0 m (pc + 1) ls (.int (xs j) :: rest))) : W p l e R s m args below meth c H locs cells slots Q (F0 m pc ls (.int (nI j) :: .ref sb :: rest)) := by
  refine va_sld hx hb hX hbl hbA hS (vp_in_nI hj (by omega)) hdg ?_
  rw [nI_clamp (by omega)]; exact kk
end LW
/-- i > L - 4, as the machine has it -/
theorem law_gt {L i : Nat} (hL : L ≤ 2048) (hi : i ≤ 4096) : nI L - nI 4 < nI i ↔ L < i + 4 := by
  rw [Int32.lt_iff_toInt_lt, pk_sub_toInt (by omega) (by omega), nI_toInt (by omega)]
  omega
theorem law_inc (t : Nat) : nI (4 * t) + Int32.ofInt 4 = nI (4 * (t + 1)) := nI_add (4 * t) 4
/-- the tables' words give the classes' numbers and the classes of arrays -/
theorem g_ex {s : State} {args : Array Value} (hts : ∀ w ∈ lw_tbl, w.before args s = true) : ∃ g : Gt, KK g s ∧ va_AO "TornBackups$Backup" s := by
  have hg : ∀ w ∈ GW, w.before args s = true := fun w hw => hts w (List.mem_filter.mp hw).1
  obtain ⟨c0, i0, h0⟩ := u_known hg hin_X (hg _ in_X)
  obtain ⟨c1, i1, h1⟩ := u_known hg hin_Log (hg _ in_Log)
  obtain ⟨c2, i2, h2⟩ := u_known hg hin_Tr (hg _ in_Tr)
  obtain ⟨c3, i3, h3⟩ := u_known hg hin_Pg (hg _ in_Pg)
  obtain ⟨c4, i4, h4⟩ := u_known hg hin_Bk (hg _ in_Bk)
  obtain ⟨c5, i5, h5⟩ := u_known hg hin_Ar (hg _ in_Ar)
  obtain ⟨c6, i6, h6⟩ := u_known hg hin_Rs (hg _ in_Rs)
  obtain ⟨c7, i7, h7⟩ := u_known hg hin_M (hg _ in_M)
  obtain ⟨cI, kI, pI, a1, a2, a3⟩ := Cond.arrayClass_spec (hg _ wd_ai)
  obtain ⟨cZ, kZ, pZ, b1, b2, b3⟩ := Cond.arrayClass_spec (hg _ wd_az)
  have hAO : va_AO "TornBackups$Backup" s := va_AO.of (hts (.arrayOver (.object "TornBackups$Backup")) (by decide +kernel))
  obtain ⟨pB, cB, kB, d1, d2, d3, d4, d5⟩ := Cond.arrayOver_spec hAO
  refine ⟨((fun q => ([c0, c1, c2, c3, c4, c5, c6, c7] : List ClassId).getD q 0, fun q => ([i0, i1, i2, i3, i4, i5, i6, i7] : List (Nat → Nat)).getD q (fun _ => 0)), cI, cZ, cB), ⟨⟨fun q v hq => ?_, fun q v hq => ?_⟩, fun w hw => ?_⟩, hAO⟩
  · have hl : q < 8 := (List.getElem?_eq_some_iff.mp hq).1
    rcases (show q = 0 ∨ q = 1 ∨ q = 2 ∨ q = 3 ∨ q = 4 ∨ q = 5 ∨ q = 6 ∨ q = 7 by omega) with rfl | rfl | rfl | rfl | rfl | rfl | rfl | rfl
    · cases hq; exact h0
    · cases hq; exact h1
    · cases hq; exact h2
    · cases hq; exact h3
    · cases hq; exact h4
    · cases hq; exact h5
    · cases hq; exact h6
    · cases hq; exact h7
  · have hl : q < 3 := (List.getElem?_eq_some_iff.mp hq).1
    rcases (show q = 0 ∨ q = 1 ∨ q = 2 by omega) with rfl | rfl | rfl
    · cases hq; exact ⟨fun n z => ⟨fun k h => (by cases h), kI, a2, pI, a3⟩, a1⟩
    · cases hq; exact ⟨fun n z => ⟨fun k h => (by cases h), kZ, b2, pZ, b3⟩, b1⟩
    · cases hq; exact ⟨fun n z => ⟨fun k h => (by cases h), kB, d3, pB, d4⟩, kB, pB, d3, d4, d1, d5⟩
  · have h1 := List.mem_filter.mp hw
    have h2 := hts w h1.1
    have h3 : gw_nest w = true := h1.2
    cases w <;> first | exact va_Nw.of rfl h2 | (exact absurd h3 (by simp [gw_nest]))
