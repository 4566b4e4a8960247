/-! THE CLAIM OUT OF ONE WALK OF THE LAW'S BODY. Your part is whole_start (and what it stands on); all else here is the same for every law, but numbers. -/
def R_law : String := "TornBackupsLaw"
def lw_P (b : Addr) (xs : List Int32) (args : Array Value) (s : State) : Prop := args = #[.ref b] ∧ s.IntsAt b xs ∧ xs.length ≤ 2048 ∧ (Jvm.Cond.and given_1 narrow_1).before args s = true
def lw_Q (_ : Array Value) (s : State) (o : Outcome) (t : State) : Prop := o = .returned (some (.int 1)) ∧ Framed s o t [] 600000 7302250
def lw_Z (below : List Frame) (a : Array Value) (s : State) : State → Prop := fun t => ∃ o, t.status = .running ∧ Ended t below o ∧ lw_Q a s o t
/-- the law's own end, with 1 on the stack, nothing written that was there before, its room as the claim has it -/
theorem lw_ret {p : Program} {l : Launch} {e : Env} {s : State} {m : MethodId} {below : List Frame} {meth : Method} {c : Code} {b : Nat} (hx : p.tables.exec = Jvm.exec) (hb : c.code = code) (hr : meth.sig.returnType = ret) (hlocks : meth.locks = false) {pc : Nat} {H : Heap} {ls : Array Slot} (hdg : decode code pc = .ok (.ireturn, 1)) : W p l e room_1 s m #[Value.ref b] below meth c H [] 600000 7302250 (lw_Z below #[Value.ref b] s) (F0 m pc ls [.int 1]) := by
  intro T hT X
  obtain ⟨fs, hret, hrun, hended, hW, hframe⟩ := X.leave (v := some (.int 1)) (hlocks := hlocks) (fun h => by rw [hr] at h; cases h)
  have hmeth' : T.vm.method? m = some meth := X.method'
  refine ⟨T.setFrames fs, ?_, .returned (some (.int 1)), hrun, hended, rfl, ⟨_, rfl⟩, hW, hframe⟩
  jvm_step X.here [X.here.top, hx, hb, hdg, hmeth', hr, ret, narrow_b1]
  (try refine ⟨rfl, ?_⟩); (try refine ⟨rfl, ?_⟩)
  first | (intro acts; rw [hret _ acts rfl rfl rfl]) | rw [hret _ _ rfl rfl rfl]
  exact Steps.refl _
/-- what holds at the law's entry: the machine, the code, the tables' words (any of lw_tbl by 'hts w (by decide +kernel)'), the script of L ints xs at the cell b, what the Statement gives of the start (any of its parts by flat_of_before) -/
def lw_At (p : Program) (s : State) (m : MethodId) (meth : Method) (c : Code) (b L : Nat) (xs : Nat → Int32) : Prop :=
  p.tables.exec = Jvm.exec ∧ c.code = code ∧ meth.sig.returnType = ret ∧ c.maxLocals = 4 ∧ s.vm.findClass R_law = some m.cls ∧ (∀ w ∈ lw_tbl, w.before #[Value.ref b] s = true) ∧ va_X b L xs s s.heap ∧ b < s.heap.size ∧ meth.locks = false ∧ (Jvm.Cond.and given_1 narrow_1).before #[Value.ref b] s = true
theorem INV_up {t : Nat} {x : SX} {w : SM} (h : INV t x w) : INV (t + 1) x w := by
  obtain ⟨un, kX, oX, keX, vaX, nX, syX, c, f, tk, tv, me, ms, dk, ds, du, hdX, hc, nxX, rv, rr, cR, fR, tkR, tvR, bk⟩ := x
  obtain ⟨n, sy, k, o, ke, va, fl, sg, cp, fs, la, nx, hd, dn, tg, bh⟩ := w
  obtain ⟨e1, e2, e3, hni, h⟩ := h
  exact ⟨e1, e2, e3, Nat.le_succ_of_le hni, h⟩
set_option maxHeartbeats 8000000 in
set_option maxRecDepth 20000 in
theorem whole_start {p : Program} {e : Env} {s : State} {m : MethodId} {below : List Frame} {meth : Method} {c : Code} (l : Launch) {b L : Nat} {xs : Nat → Int32} (hL : L ≤ 2048) (C0 : lw_At p s m meth c b L xs) : W p l e room_1 s m #[Value.ref b] below meth c s.heap [] 0 0 (lw_Z below #[Value.ref b] s) (entryFrame m ([Value.ref b] : List Value).toArray 4) := by
  obtain ⟨zx, zb, zr, zm, zo, zt, zX, zbl, zk, -⟩ := C0
  have zo : s.vm.findClass "TornBackupsLaw" = some m.cls := zo
  have zg : ∀ w ∈ GW, w.before #[Value.ref b] s = true := fun w hw => zt w (List.mem_filter.mp hw).1
  obtain ⟨g, zK, zAO⟩ := g_ex zt
  have zl := lv_entry [Value.ref b] (n := 4) (Nat.le_of_ble_eq_true rfl)
  rw [lg_entry_eq]
  generalize (lg_sl ([Value.ref b]) ++ List.replicate (4 - (lg_sl ([Value.ref b])).length) Slot.unset).toArray = lsX at zl ⊢
  have zl : lv_has lsX 4 [(0, .ref b)] := zl
  obtain ⟨A0, hA0⟩ : ∃ A0 : Nat → Prop, A0 = fun q => s.heap.size ≤ q := ⟨_, rfl⟩
  have zA : ∀ q, s.heap.size ≤ q → A0 q := fun q h => by rw [hA0]; exact h
  have zbA : ¬ A0 b := by rw [hA0]; exact Nat.not_le.mpr zbl
  have zS : va_S A0 s.heap s.heap [] := va_S.rf
  have zP : va_P g.1 cls ([] : va_W) s.heap := fun k q h => by simp at h
  have zD : va_D A0 ([] : va_W) := ⟨fun i j x y h => by simp at h, fun k q h => by simp at h⟩
  refine wv_new (ci := 0) (fs := [.null, .null, .null, .null, .null, .null, .int (nI 0)]) (k := 1) (j := 7) zx zb zg hin_X t_X t_X_ok zo cl_Law_7 in_X ii_X zK zP zD zS zA rfl (fun j hj => by rcases (show j = 0 ∨ j = 1 ∨ j = 2 ∨ j = 3 ∨ j = 4 ∨ j = 5 ∨ j = 6 by omega) with rfl | rfl | rfl | rfl | rfl | rfl | rfl <;> rfl) (by decide) (by decide) rfl rfl d_Law_0 (fun a0 HX zP zD zS => ?_)
  refine lv_dup zx zb d_Law_3 rfl ?_
  have zP : va_P g.1 cls [(a0, .inr (0, [.null, .null, .null, .null, .null, .null, .int (nI 0)]))] HX := zP
  have zD : va_D A0 [(a0, .inr (0, [.null, .null, .null, .null, .null, .null, .int (nI 0)]))] := zD
  refine cn_IA (wr := ([] : va_W)) (rest := [.ref a0]) (k := 33) (j := 2468) zx zb zm zo zg zK zAO zP zD zS zA zl.1 (ctn_X l g a0) ok_X_init oi_X rfl ml_Law_9 ⟨by decide, by decide⟩ ⟨by decide, by decide⟩ rfl rfl [0] [] (by decide) rfl rfl (by decide) (by decide) rfl (Nat.le_of_ble_eq_true rfl) d_Law_4 (fun uX HX oX zp zP zD zS => ?_)
  obtain ⟨A, hA1, rfl⟩ := zp
  rw [← hA1]
  have zP : va_P g.1 cls (wS g A ((-1), (fun _ => 0), (fun _ => 0), (fun _ => 0), (fun _ => nI 0), 0, 0, (fun _ => 0), (fun _ => 0), (fun _ => 0), (fun _ => nI 0), (fun _ => nI 0), (fun _ => nI 0), (fun _ => nI 0), (fun _ => 0), (fun _ => 0), (fun _ => 0), 0, 0, (fun _ => nI 0), 0, (fun _ => 0), (fun _ => 0), (fun _ => 0), (fun _ => nI 0), (fun _ => (fun _ => nI 0, 0, 0, 0, 0, 0, 0)))) HX := zP
  have zD : va_D A0 (wS g A ((-1), (fun _ => 0), (fun _ => 0), (fun _ => 0), (fun _ => nI 0), 0, 0, (fun _ => 0), (fun _ => 0), (fun _ => 0), (fun _ => nI 0), (fun _ => nI 0), (fun _ => nI 0), (fun _ => nI 0), (fun _ => 0), (fun _ => 0), (fun _ => 0), 0, 0, (fun _ => nI 0), 0, (fun _ => 0), (fun _ => 0), (fun _ => 0), (fun _ => nI 0), (fun _ => (fun _ => nI 0, 0, 0, 0, 0, 0, 0)))) := zD
  refine lv_astore_n (lv' := [(1, .ref (A 0)), (0, .ref b)]) zx zb d_Law_7 rfl zl (by decide) rfl (fun lsX zl => ?_)
  refine wv_new (ci := 7) (fs := [.int (nI 0), .int (nI 0), .null, .null, .null, .null, .null, .null, .null, .null, .null, .int (nI 0), .null, .int (nI 0), .int (nI 0), .int (nI 0)]) (k := 34) (j := 2484) zx zb zg hin_M t_M t_M_ok zo cl_Law_10 in_M ii_M zK zP zD zS zA rfl (fun j hj => by rcases (show j = 0 ∨ j = 1 ∨ j = 2 ∨ j = 3 ∨ j = 4 ∨ j = 5 ∨ j = 6 ∨ j = 7 ∨ j = 8 ∨ j = 9 ∨ j = 10 ∨ j = 11 ∨ j = 12 ∨ j = 13 ∨ j = 14 ∨ j = 15 by omega) with rfl | rfl | rfl | rfl | rfl | rfl | rfl | rfl | rfl | rfl | rfl | rfl | rfl | rfl | rfl | rfl <;> rfl) (by decide) (by decide) rfl rfl d_Law_8 (fun b0 HX zP zD zS => ?_)
  refine lv_dup zx zb d_Law_11 rfl ?_
  refine cn_I (wr := wS g A ((-1), (fun _ => 0), (fun _ => 0), (fun _ => 0), (fun _ => nI 0), 0, 0, (fun _ => 0), (fun _ => 0), (fun _ => 0), (fun _ => nI 0), (fun _ => nI 0), (fun _ => nI 0), (fun _ => nI 0), (fun _ => 0), (fun _ => 0), (fun _ => 0), 0, 0, (fun _ => nI 0), 0, (fun _ => 0), (fun _ => 0), (fun _ => 0), (fun _ => nI 0), (fun _ => (fun _ => nI 0, 0, 0, 0, 0, 0, 0)))) (rest := [.ref b0]) (k := 44) (j := 4650) zx zb zm zo zg zK zP zD zS zA zl.1 (ctn_M l g b0) ok_M_init oi_M rfl ml_Law_12 ⟨by decide, by decide⟩ ⟨by decide, by decide⟩ rfl rfl [33] [0, 1, 2, 3, 4, 5, 6, 7, 8, 9, 10, 11, 12, 13, 14, 15, 16, 17, 18, 19, 20, 21, 22, 23, 24, 25, 26, 27, 28, 29, 30, 31, 32] (by decide) rfl rfl (by decide) (by decide) rfl (Nat.le_of_ble_eq_true rfl) d_Law_12 (fun uX HX oX zp zP zD zS => ?_)
  obtain ⟨a1, a2, a3, a4, a5, a6, a7, a8, a9, a10, rfl⟩ := zp
  obtain ⟨B, hB1⟩ : ∃ B : Nat → Nat, B = fun i => ([b0, a1, a2, a3, a4, a5, a6, a7, a8, a9, a10] : List Nat).getD i 0 := ⟨_, rfl⟩
  have hB0 : b0 = B 0 := by rw [hB1]; rfl
  have zP : va_P g.1 cls (wS g A ((-1), (fun _ => 0), (fun _ => 0), (fun _ => 0), (fun _ => nI 0), 0, 0, (fun _ => 0), (fun _ => 0), (fun _ => 0), (fun _ => nI 0), (fun _ => nI 0), (fun _ => nI 0), (fun _ => nI 0), (fun _ => 0), (fun _ => 0), (fun _ => 0), 0, 0, (fun _ => nI 0), 0, (fun _ => 0), (fun _ => 0), (fun _ => 0), (fun _ => nI 0), (fun _ => (fun _ => nI 0, 0, 0, 0, 0, 0, 0))) ++ wT g B (0, 0, (fun _ => 0), (fun _ => nI 0), (fun _ => 0), (fun _ => nI 0), (fun _ => 0), (fun _ => 0), (fun _ => 0), (fun _ => 0), (fun _ => 0), 0, (fun _ => 0), 0, 0, 0)) HX := by rw [hB1]; exact zP
  have zD : va_D A0 (wS g A ((-1), (fun _ => 0), (fun _ => 0), (fun _ => 0), (fun _ => nI 0), 0, 0, (fun _ => 0), (fun _ => 0), (fun _ => 0), (fun _ => nI 0), (fun _ => nI 0), (fun _ => nI 0), (fun _ => nI 0), (fun _ => 0), (fun _ => 0), (fun _ => 0), 0, 0, (fun _ => nI 0), 0, (fun _ => 0), (fun _ => 0), (fun _ => 0), (fun _ => nI 0), (fun _ => (fun _ => nI 0, 0, 0, 0, 0, 0, 0))) ++ wT g B (0, 0, (fun _ => 0), (fun _ => nI 0), (fun _ => 0), (fun _ => nI 0), (fun _ => 0), (fun _ => 0), (fun _ => 0), (fun _ => 0), (fun _ => 0), 0, (fun _ => 0), 0, 0, 0)) := by rw [hB1]; exact zD
  rw [hB0]
  refine lv_astore_n (lv' := [(2, .ref (B 0)), (1, .ref (A 0)), (0, .ref b)]) zx zb d_Law_15 rfl zl (by decide) rfl (fun lsX zl => ?_)
  refine lv_iconst (v := nI (4 * 0)) zx zb d_Law_16 (by decide) ?_
  refine lv_istore_n (lv' := [(3, .int (nI (4 * 0))), (2, .ref (B 0)), (1, .ref (A 0)), (0, .ref b)]) zx zb d_Law_17 rfl zl (by decide) rfl (fun lsX zl => ?_)
  have loop : ∀ (kk t : Nat) (x : SX) (w : SM), kk = L + 4 - 4 * t → 4 * t ≤ L → INV t x w → ∀ (lsX : Array Slot) (HX : Heap) (oX : List Loc), lv_has lsX 4 [(0, .ref b), (1, .ref (A 0)), (2, .ref (B 0)), (3, .int (nI (4 * t)))] → va_P g.1 cls (wS g A x ++ wT g B w) HX → va_D A0 (wS g A x ++ wT g B w) → va_S A0 s.heap HX oX → W p l e room_1 s m #[Value.ref b] below meth c HX oX 44 4650 (lw_Z below #[Value.ref b] s) (F0 m 18 lsX []) := by
    intro kk
    induction kk using Nat.strongRecOn with
    | ind kk ih =>
      intro t x w hkk htL hI lsX HX oX zl zP zD zS
      refine lv_iload_n zx zb d_Law_18 rfl (lv_at zl 3 rfl) ?_
      refine lv_aload_n zx zb d_Law_19 rfl (lv_at zl 0 rfl) ?_
      refine va_slen zx zb zX zbl zbA zS d_Law_20 ?_
      refine lv_iconst (v := nI 4) zx zb d_Law_21 (by decide) ?_
      refine wv_isub (z := nI L - nI 4) zx zb d_Law_22 rfl ?_
      rcases Nat.lt_or_ge L (4 * t + 4) with hlt | hge
      · refine lv_icmp_gt (tgt := 544) zx zb d_Law_23 (by decide) (fun _ => ?_) (fun h => absurd ((law_gt hL (by omega)).mpr hlt) h)
        refine lv_iconst (v := 1) zx zb d_Law_544 (by decide) ?_
        refine va_forget (fun q hq => by have := zS.2.2 q hq; rw [hA0] at this; exact this) ?_
        refine W.widen (k := 600000) (n := 7302250) (by decide) (by decide) ?_
        exact lw_ret zx zb zr zk d_Law_545
      · refine lv_icmp_gt (tgt := 544) zx zb d_Law_23 (by decide) (fun h => absurd ((law_gt hL (by omega)).mp h) (by omega)) (fun _ => ?_)
        have next : ∀ (x1 : SX) (w1 : SM) (H : Heap) (locs : List Loc), INV (t + 1) x1 w1 → va_P g.1 cls (wS g A x1 ++ wT g B w1) H → va_D A0 (wS g A x1 ++ wT g B w1) → va_S A0 s.heap H locs → ∀ ls : Array Slot, lv_has ls 4 [(0, .ref b), (1, .ref (A 0)), (2, .ref (B 0)), (3, .int (nI (4 * t)))] → W p l e room_1 s m #[Value.ref b] below meth c H locs 44 4650 (lw_Z below #[Value.ref b] s) (F0 m 538 ls []) := by
          intro x1 w1 H locs hI1 zP zD zS ls zl
          refine lv_iinc (k := 3) (lv' := [(3, .int (nI (4 * (t + 1)))), (0, .ref b), (1, .ref (A 0)), (2, .ref (B 0))]) zx zb d_Law_538 zl rfl (law_inc t) (by decide) rfl (fun ls zl => ?_)
          refine lv_goto (tgt := 18) zx zb d_Law_541 (by decide) ?_
          exact ih _ (by omega) (t + 1) x1 w1 rfl (by omega) hI1 ls H locs (lv_sub zl [1, 2, 3, 0] rfl) zP zD zS
        refine lv_aload_n zx zb d_Law_26 rfl (lv_at zl 0 rfl) ?_
        refine lv_iload_n zx zb d_Law_27 rfl (lv_at zl 3 rfl) ?_
        refine wv_sld zx zb zX zbl zbA zS (by omega) hL d_Law_28 ?_
        refine lv_bipush (v := nI 31) zx zb d_Law_29 (by decide) ?_
        refine lv_iand zx zb d_Law_31 ?_
        obtain ⟨j, hj, ej⟩ := pk_andE (xs (4 * t)) (m := nI 31) 5 (by decide)
        refine wv_top ej ?_
        have hj : j < 32 := hj
        rcases (show j = 0 ∨ j = 1 ∨ j = 2 ∨ j = 3 ∨ j = 4 ∨ j = 5 ∨ j = 6 ∨ j = 7 ∨ j = 8 ∨ j = 9 ∨ j = 10 ∨ j = 11 ∨ j = 12 ∨ j = 13 ∨ j = 14 ∨ j = 15 ∨ j = 16 ∨ j = 17 ∨ j = 18 ∨ j = 19 ∨ 20 ≤ j by omega) with rfl | rfl | rfl | rfl | rfl | rfl | rfl | rfl | rfl | rfl | rfl | rfl | rfl | rfl | rfl | rfl | rfl | rfl | rfl | rfl | hj2
        · refine lv_tableIn (tgt := 128) (off := 96) zx zb d_Law_32 (by decide) (by decide) (by decide) (by decide) ?_
          exact law_set zx zb zm zo zg zK zA zX zbl zbA hL ⟨by decide, by decide⟩ hI (by omega) next HX oX lsX zl zP zD zS
        · refine lv_tableIn (tgt := 171) (off := 139) zx zb d_Law_32 (by decide) (by decide) (by decide) (by decide) ?_
          exact law_commit zx zb zm zo zg zK zA zX zbl zbA hL ⟨by decide, by decide⟩ hI (by omega) next HX oX lsX zl zP zD zS
        · refine lv_tableIn (tgt := 194) (off := 162) zx zb d_Law_32 (by decide) (by decide) (by decide) (by decide) ?_
          exact law_abort zx zb zm zo zg zK zA zX zbl zbA hL ⟨by decide, by decide⟩ hI (by omega) next HX oX lsX zl zP zD zS
        · refine lv_tableIn (tgt := 217) (off := 185) zx zb d_Law_32 (by decide) (by decide) (by decide) (by decide) ?_
          exact law_get zx zb zm zo zg zK zA zX zbl zbA hL ⟨by decide, by decide⟩ hI (by omega) next HX oX lsX zl zP zD zS
        · refine lv_tableIn (tgt := 240) (off := 208) zx zb d_Law_32 (by decide) (by decide) (by decide) (by decide) ?_
          exact law_sync zx zb zm zo zg zK zA zX zbl zbA hL ⟨by decide, by decide⟩ hI (by omega) next HX oX lsX zl zP zD zS
        · refine lv_tableIn (tgt := 253) (off := 221) zx zb d_Law_32 (by decide) (by decide) (by decide) (by decide) ?_
          exact law_flush zx zb zm zo zg zK zA zX zbl zbA hL ⟨by decide, by decide⟩ hI (by omega) next HX oX lsX zl zP zD zS
        · refine lv_tableIn (tgt := 276) (off := 244) zx zb d_Law_32 (by decide) (by decide) (by decide) (by decide) ?_
          exact law_checkpoint zx zb zm zo zg zK zA zX zbl zbA hL ⟨by decide, by decide⟩ hI (by omega) next HX oX lsX zl zP zD zS
        · refine lv_tableIn (tgt := 289) (off := 257) zx zb d_Law_32 (by decide) (by decide) (by decide) (by decide) ?_
          exact law_crash zx zb zm zo zg zK zA zX zbl zbA hL ⟨by decide, by decide⟩ hI (by omega) next HX oX lsX zl zP zD zS
        · refine lv_tableIn (tgt := 302) (off := 270) zx zb d_Law_32 (by decide) (by decide) (by decide) (by decide) ?_
          exact law_backup zx zb zm zo zg zK zA zX zbl zbA hL ⟨by decide, by decide⟩ hI (by omega) next HX oX lsX zl zP zD zS
        · refine lv_tableIn (tgt := 315) (off := 283) zx zb d_Law_32 (by decide) (by decide) (by decide) (by decide) ?_
          exact law_copy zx zb zm zo zg zK zA zX zbl zbA hL ⟨by decide, by decide⟩ hI (by omega) next HX oX lsX zl zP zD zS
        · refine lv_tableIn (tgt := 328) (off := 296) zx zb d_Law_32 (by decide) (by decide) (by decide) (by decide) ?_
          exact law_forget zx zb zm zo zg zK zA zX zbl zbA hL ⟨by decide, by decide⟩ hI (by omega) next HX oX lsX zl zP zD zS
        · refine lv_tableIn (tgt := 351) (off := 319) zx zb d_Law_32 (by decide) (by decide) (by decide) (by decide) ?_
          exact law_bound zx zb zm zo zg zK zA zX zbl zbA hL ⟨by decide, by decide⟩ hI (by omega) next HX oX lsX zl zP zD zS
        · refine lv_tableIn (tgt := 384) (off := 352) zx zb d_Law_32 (by decide) (by decide) (by decide) (by decide) ?_
          exact law_archive zx zb zm zo zg zK zA zX zbl zbA hL ⟨by decide, by decide⟩ hI (by omega) next HX oX lsX zl zP zD zS
        · refine lv_tableIn (tgt := 397) (off := 365) zx zb d_Law_32 (by decide) (by decide) (by decide) (by decide) ?_
          exact law_drop zx zb zm zo zg zK zA zX zbl zbA hL ⟨by decide, by decide⟩ hI (by omega) next HX oX lsX zl zP zD zS
        · refine lv_tableIn (tgt := 420) (off := 388) zx zb d_Law_32 (by decide) (by decide) (by decide) (by decide) ?_
          exact law_restore zx zb zm zo zg zK zA zX zbl zbA hL ⟨by decide, by decide⟩ hI (by omega) next HX oX lsX zl zP zD zS
        · refine lv_tableIn (tgt := 453) (off := 421) zx zb d_Law_32 (by decide) (by decide) (by decide) (by decide) ?_
          exact law_restored zx zb zm zo zg zK zA zX zbl zbA hL ⟨by decide, by decide⟩ hI (by omega) next HX oX lsX zl zP zD zS
        · refine lv_tableIn (tgt := 476) (off := 444) zx zb d_Law_32 (by decide) (by decide) (by decide) (by decide) ?_
          exact law_replayed zx zb zm zo zg zK zA zX zbl zbA hL ⟨by decide, by decide⟩ hI (by omega) next HX oX lsX zl zP zD zS
        · refine lv_tableIn (tgt := 489) (off := 457) zx zb d_Law_32 (by decide) (by decide) (by decide) (by decide) ?_
          exact law_reach zx zb zm zo zg zK zA zX zbl zbA hL ⟨by decide, by decide⟩ hI (by omega) next HX oX lsX zl zP zD zS
        · refine lv_tableIn (tgt := 512) (off := 480) zx zb d_Law_32 (by decide) (by decide) (by decide) (by decide) ?_
          exact law_position zx zb zm zo zg zK zA zX zbl zbA hL ⟨by decide, by decide⟩ hI (by omega) next HX oX lsX zl zP zD zS
        · refine lv_tableIn (tgt := 525) (off := 493) zx zb d_Law_32 (by decide) (by decide) (by decide) (by decide) ?_
          exact law_dirty zx zb zm zo zg zK zA zX zbl zbA hL ⟨by decide, by decide⟩ hI (by omega) next HX oX lsX zl zP zD zS
        · refine lv_tableOut (tgt := 538) zx zb d_Law_32 (Or.inr (by rw [nI_toInt (by omega)]; omega)) (by decide) ?_
          exact next x w HX oX (INV_up hI) zP zD zS lsX zl
  exact loop _ 0 _ _ rfl (by omega) INV_0 lsX HX oX (lv_sub zl [3, 2, 1, 0] rfl) zP zD zS
