set_option maxRecDepth 20000 in
theorem c_X_backup_0 (lL : Launch) (g : Gt) (x : Nat) (l0 : Nat) (t0 : Nat) (p0 : Nat) (ba : Nat) (h0 : Nat) (r0 : Nat) (l1 : Nat) (l2 : Nat) (l3 : Nat) (l4 : Nat) (k : Nat → Nat) (o : Nat → Nat) (ke : Nat → Nat) (va : Nat → Int32) (n : Nat) (sy : Nat) (t1 : Nat) (t2 : Nat) (t3 : Nat) (t4 : Nat) (c : Nat → Nat) (f : Nat → Nat) (tk : Nat → Nat) (tv : Nat → Int32) (p1 : Nat) (p2 : Nat) (p3 : Nat) (p4 : Nat) (p5 : Nat) (me : Nat → Int32) (ms : Nat → Int32) (dk : Nat → Int32) (ds : Nat → Nat) (du : Nat → Nat) (b : Nat → Nat) (v0 : Nat) (bv0 : Nat → Int32) (pr0 : Nat) (fi0 : Nat) (st0 : Nat) (cp0 : Nat) (en0 : Nat) (pg0 : Nat) (v1 : Nat) (bv1 : Nat → Int32) (pr1 : Nat) (fi1 : Nat) (st1 : Nat) (cp1 : Nat) (en1 : Nat) (pg1 : Nat) (v2 : Nat) (bv2 : Nat → Int32) (pr2 : Nat) (fi2 : Nat) (st2 : Nat) (cp2 : Nat) (en2 : Nat) (pg2 : Nat) (hn : n ≤ 512) (hs : sy ≤ n) (hd : ∀ j, j < 8 → ds j ≤ 512) (hu : ∀ j, j < 8 → du j ≤ n) (hc : ∀ t, t < 3 → c t ≤ 4) (hf : ∀ t, t < 3 → f t ≤ 512) (p0_ : pr0 = 0) : Ct lL g y_X_backup (.code y_X_backup b_X_backup 3 (some .int)) 6 200 [.ref x] (wX g x l0 t0 p0 ba h0 r0 (-1) ++ wLog g l0 l1 l2 l3 l4 k o ke va n sy ++ wTr g t0 t1 t2 t3 t4 c f tk tv ++ wPg g p0 p1 p2 p3 p4 p5 me ms dk ds du ++ wBA g ba b ++ wBk g (b 0) v0 bv0 pr0 fi0 st0 cp0 en0 pg0 ++ wBk g (b 1) v1 bv1 pr1 fi1 st1 cp1 en1 pg1 ++ wBk g (b 2) v2 bv2 pr2 fi2 st2 cp2 en2 pg2) (exP (some (.int (nI 0))) (wX g x l0 t0 p0 ba h0 r0 (nI 0) ++ wLog g l0 l1 l2 l3 l4 k o ke va n n ++ wTr g t0 t1 t2 t3 t4 c f tk tv ++ wPg g p0 p1 p2 p3 p4 p5 me (va_cpy me ms 0 0 32) ((mcS me dk ds du 0 8).1) ((mcS me dk ds du 0 8).2.1) ((mcS me dk ds du 0 8).2.2) ++ wBA g ba b ++ wBk g (b 0) v0 bv0 1 0 (lfs c f 0 3 n) n en0 0 ++ wBk g (b 1) v1 bv1 pr1 fi1 st1 cp1 en1 pg1 ++ wBk g (b 2) v2 bv2 pr2 fi2 st2 cp2 en2 pg2)) := by
  refine Ct.ofW (by decide) (Nat.le_of_ble_eq_true rfl) ?_
  intro pX eX sX mX aX bX tX cX AX lsX HX oX QX zx zb zr zk zm zo zg zK zP zD zA zS zQ zl
  have zo : sX.vm.findClass R_X = some mX.cls := zo
  have zl : lv_has lsX 3 [(0, .ref x)] := zl
  refine lv_aload_n zx zb d_X_backup_0 rfl (lv_at zl 0 rfl) ?_
  refine wv_get zx zb zg hin_X rfl zo zK zP 0 rfl 6 (by decide) rfl fl_X_51 rfl d_X_backup_1 ?_
  refine lv_iconst (v := (-1)) zx zb d_X_backup_4 (by decide) ?_
  refine lv_icmp_eq (tgt := 10) zx zb d_X_backup_5 (by decide) (fun _ => ?_) (fun h => absurd h (fun h => h rfl))
  refine lv_aload_n zx zb d_X_backup_10 rfl (lv_at zl 0 rfl) ?_
  refine ct_V (ws' := wX g x l0 t0 p0 ba h0 r0 (-1) ++ wLog g l0 l1 l2 l3 l4 k o ke va n sy ++ wTr g t0 t1 t2 t3 t4 c f tk tv ++ wPg g p0 p1 p2 p3 p4 p5 me ms dk ds du ++ wBA g ba b ++ wBk g (b 0) v0 bv0 pr0 fi0 st0 cp0 en0 pg0 ++ wBk g (b 1) v1 bv1 pr1 fi1 st1 cp1 en1 pg1 ++ wBk g (b 2) v2 bv2 pr2 fi2 st2 cp2 en2 pg2) (rest := []) (st1 := [.int (nI 0)]) zx zb zm zo zg zK zP zD zS zA zl.1 (c_X_free_0 lL g x l0 t0 p0 ba h0 r0 (-1) b v0 bv0 pr0 fi0 st0 cp0 en0 pg0 v1 bv1 pr1 fi1 st1 cp1 en1 pg1 v2 bv2 pr2 fi2 st2 cp2 en2 pg2 (by omega)) ok_X_leastFreeBackup ov_X_leastFreeBackup ml_X_121 (by decide) 0 0 rfl rfl rfl [0, 17, 18, 19, 20, 21, 22, 23] [1, 2, 3, 4, 5, 6, 7, 8, 9, 10, 11, 12, 13, 14, 15, 16] 24 (by decide) rfl rfl rfl rfl (by decide) rfl rfl rfl (Nat.le_of_ble_eq_true rfl) d_X_backup_11 (fun HX oX zP zD zS => ?_)
  refine lv_istore_n (lv' := [(1, .int (nI 0)), (0, .ref x)]) zx zb d_X_backup_14 rfl zl (by decide) rfl (fun lsX zl => ?_)
  refine lv_iload_n zx zb d_X_backup_15 rfl (lv_at zl 0 rfl) ?_
  refine lv_iconst (v := (-1)) zx zb d_X_backup_16 (by decide) ?_
  refine lv_icmp_ne (tgt := 23) zx zb d_X_backup_17 (by decide) (fun _ => ?_) (fun h => absurd h (by decide))
  refine lv_aload_n zx zb d_X_backup_23 rfl (lv_at zl 1 rfl) ?_
  refine ct_V (ws' := wX g x l0 t0 p0 ba h0 r0 (-1) ++ wLog g l0 l1 l2 l3 l4 k o ke va n n ++ wTr g t0 t1 t2 t3 t4 c f tk tv ++ wPg g p0 p1 p2 p3 p4 p5 me (va_cpy me ms 0 0 32) ((mcS me dk ds du 0 8).1) ((mcS me dk ds du 0 8).2.1) ((mcS me dk ds du 0 8).2.2) ++ wBA g ba b ++ wBk g (b 0) v0 bv0 pr0 fi0 st0 cp0 en0 pg0 ++ wBk g (b 1) v1 bv1 pr1 fi1 st1 cp1 en1 pg1 ++ wBk g (b 2) v2 bv2 pr2 fi2 st2 cp2 en2 pg2) (rest := []) (st1 := [.int (nI (lfs c f 0 3 n))]) zx zb zm zo zg zK zP zD zS zA zl.1 (c_X_makeCheckpoint lL g x l0 t0 p0 ba h0 r0 (-1) l1 l2 l3 l4 k o ke va n sy t1 t2 t3 t4 c f tk tv p1 p2 p3 p4 p5 me ms dk ds du (by omega) (by omega) hd hu hc hf) ok_X_makeCheckpoint ov_X_makeCheckpoint ml_X_103 (by decide) 0 0 rfl rfl rfl [0, 1, 2, 3, 4, 5, 6, 7, 8, 9, 10, 11, 12, 13, 14, 15, 16] [17, 18, 19, 20, 21, 22, 23] 24 (by decide) rfl rfl rfl rfl (by decide) rfl rfl rfl (Nat.le_of_ble_eq_true rfl) d_X_backup_24 (fun HX oX zP zD zS => ?_)
  refine lv_istore_n (lv' := [(2, .int (nI (lfs c f 0 3 n))), (1, .int (nI 0)), (0, .ref x)]) zx zb d_X_backup_27 rfl zl (by decide) rfl (fun lsX zl => ?_)
  refine lv_aload_n zx zb d_X_backup_28 rfl (lv_at zl 2 rfl) ?_
  refine wv_get zx zb zg hin_X rfl zo zK zP 0 rfl 3 (by decide) rfl fl_X_46 rfl d_X_backup_29 ?_
  refine lv_iload_n zx zb d_X_backup_32 rfl (lv_at zl 1 rfl) ?_
  refine wv_aald (v := b 0) zx zb zK zP 17 rfl rfl (by omega) (by decide) d_X_backup_33 ?_
  refine lv_iload_n zx zb d_X_backup_34 rfl (lv_at zl 0 rfl) ?_
  refine lv_aload_n zx zb d_X_backup_35 rfl (lv_at zl 2 rfl) ?_
  refine wv_get zx zb zg hin_X rfl zo zK zP 0 rfl 0 (by decide) rfl fl_X_12 rfl d_X_backup_36 ?_
  refine wv_get zx zb zg hin_Log rfl zo zK zP 1 rfl 4 (by decide) rfl fl_X_69 rfl d_X_backup_39 ?_
  refine ct_V (ws' := wX g x l0 t0 p0 ba h0 r0 (-1) ++ wLog g l0 l1 l2 l3 l4 k o ke va n n ++ wTr g t0 t1 t2 t3 t4 c f tk tv ++ wPg g p0 p1 p2 p3 p4 p5 me (va_cpy me ms 0 0 32) ((mcS me dk ds du 0 8).1) ((mcS me dk ds du 0 8).2.1) ((mcS me dk ds du 0 8).2.2) ++ wBA g ba b ++ wBk g (b 0) v0 bv0 1 0 (lfs c f 0 3 n) n en0 0 ++ wBk g (b 1) v1 bv1 pr1 fi1 st1 cp1 en1 pg1 ++ wBk g (b 2) v2 bv2 pr2 fi2 st2 cp2 en2 pg2) (rest := []) (st1 := []) zx zb zm zo zg zK zP zD zS zA zl.1 (c_Bk_begin lL g (b 0) v0 bv0 pr0 fi0 st0 cp0 en0 pg0 (lfs c f 0 3 n) n) ok_Bk_begin ov_Bk_begin ml_X_124 (by decide) 18 4 rfl rfl rfl [18, 19] [0, 1, 2, 3, 4, 5, 6, 7, 8, 9, 10, 11, 12, 13, 14, 15, 16, 17, 20, 21, 22, 23] 24 (by decide) rfl rfl rfl rfl (by decide) rfl rfl rfl (Nat.le_of_ble_eq_true rfl) d_X_backup_42 (fun HX oX zP zD zS => ?_)
  refine lv_aload_n zx zb d_X_backup_45 rfl (lv_at zl 2 rfl) ?_
  refine lv_iload_n zx zb d_X_backup_46 rfl (lv_at zl 1 rfl) ?_
  refine wv_put zx zb zg hin_X rfl t_X t_X_ok n_X zo zK zP zD zS 0 rfl 6 (by decide) rfl fl_X_51 rfl rfl rfl (Nat.le_of_ble_eq_true rfl) d_X_backup_47 (fun HX oX zP zD zS => ?_)
  have zP : va_P g.1 cls (wX g x l0 t0 p0 ba h0 r0 (nI 0) ++ wLog g l0 l1 l2 l3 l4 k o ke va n n ++ wTr g t0 t1 t2 t3 t4 c f tk tv ++ wPg g p0 p1 p2 p3 p4 p5 me (va_cpy me ms 0 0 32) ((mcS me dk ds du 0 8).1) ((mcS me dk ds du 0 8).2.1) ((mcS me dk ds du 0 8).2.2) ++ wBA g ba b ++ wBk g (b 0) v0 bv0 1 0 (lfs c f 0 3 n) n en0 0 ++ wBk g (b 1) v1 bv1 pr1 fi1 st1 cp1 en1 pg1 ++ wBk g (b 2) v2 bv2 pr2 fi2 st2 cp2 en2 pg2) HX := zP
  have zD : va_D AX (wX g x l0 t0 p0 ba h0 r0 (nI 0) ++ wLog g l0 l1 l2 l3 l4 k o ke va n n ++ wTr g t0 t1 t2 t3 t4 c f tk tv ++ wPg g p0 p1 p2 p3 p4 p5 me (va_cpy me ms 0 0 32) ((mcS me dk ds du 0 8).1) ((mcS me dk ds du 0 8).2.1) ((mcS me dk ds du 0 8).2.2) ++ wBA g ba b ++ wBk g (b 0) v0 bv0 1 0 (lfs c f 0 3 n) n en0 0 ++ wBk g (b 1) v1 bv1 pr1 fi1 st1 cp1 en1 pg1 ++ wBk g (b 2) v2 bv2 pr2 fi2 st2 cp2 en2 pg2) := zD
  refine lv_iload_n zx zb d_X_backup_50 rfl (lv_at zl 1 rfl) ?_
  exact ct_iret zQ zx zb zr zk zP zD zS d_X_backup_51 rfl (⟨rfl, rfl⟩)
set_option maxRecDepth 20000 in
theorem c_X_backup_1 (lL : Launch) (g : Gt) (x : Nat) (l0 : Nat) (t0 : Nat) (p0 : Nat) (ba : Nat) (h0 : Nat) (r0 : Nat) (l1 : Nat) (l2 : Nat) (l3 : Nat) (l4 : Nat) (k : Nat → Nat) (o : Nat → Nat) (ke : Nat → Nat) (va : Nat → Int32) (n : Nat) (sy : Nat) (t1 : Nat) (t2 : Nat) (t3 : Nat) (t4 : Nat) (c : Nat → Nat) (f : Nat → Nat) (tk : Nat → Nat) (tv : Nat → Int32) (p1 : Nat) (p2 : Nat) (p3 : Nat) (p4 : Nat) (p5 : Nat) (me : Nat → Int32) (ms : Nat → Int32) (dk : Nat → Int32) (ds : Nat → Nat) (du : Nat → Nat) (b : Nat → Nat) (v0 : Nat) (bv0 : Nat → Int32) (pr0 : Nat) (fi0 : Nat) (st0 : Nat) (cp0 : Nat) (en0 : Nat) (pg0 : Nat) (v1 : Nat) (bv1 : Nat → Int32) (pr1 : Nat) (fi1 : Nat) (st1 : Nat) (cp1 : Nat) (en1 : Nat) (pg1 : Nat) (v2 : Nat) (bv2 : Nat → Int32) (pr2 : Nat) (fi2 : Nat) (st2 : Nat) (cp2 : Nat) (en2 : Nat) (pg2 : Nat) (hn : n ≤ 512) (hs : sy ≤ n) (hd : ∀ j, j < 8 → ds j ≤ 512) (hu : ∀ j, j < 8 → du j ≤ n) (hc : ∀ t, t < 3 → c t ≤ 4) (hf : ∀ t, t < 3 → f t ≤ 512) (p0_ : pr0 = 1) (p1_ : pr1 = 0) : Ct lL g y_X_backup (.code y_X_backup b_X_backup 3 (some .int)) 6 200 [.ref x] (wX g x l0 t0 p0 ba h0 r0 (-1) ++ wLog g l0 l1 l2 l3 l4 k o ke va n sy ++ wTr g t0 t1 t2 t3 t4 c f tk tv ++ wPg g p0 p1 p2 p3 p4 p5 me ms dk ds du ++ wBA g ba b ++ wBk g (b 0) v0 bv0 pr0 fi0 st0 cp0 en0 pg0 ++ wBk g (b 1) v1 bv1 pr1 fi1 st1 cp1 en1 pg1 ++ wBk g (b 2) v2 bv2 pr2 fi2 st2 cp2 en2 pg2) (exP (some (.int (nI 1))) (wX g x l0 t0 p0 ba h0 r0 (nI 1) ++ wLog g l0 l1 l2 l3 l4 k o ke va n n ++ wTr g t0 t1 t2 t3 t4 c f tk tv ++ wPg g p0 p1 p2 p3 p4 p5 me (va_cpy me ms 0 0 32) ((mcS me dk ds du 0 8).1) ((mcS me dk ds du 0 8).2.1) ((mcS me dk ds du 0 8).2.2) ++ wBA g ba b ++ wBk g (b 0) v0 bv0 pr0 fi0 st0 cp0 en0 pg0 ++ wBk g (b 1) v1 bv1 1 0 (lfs c f 0 3 n) n en1 0 ++ wBk g (b 2) v2 bv2 pr2 fi2 st2 cp2 en2 pg2)) := by
  refine Ct.ofW (by decide) (Nat.le_of_ble_eq_true rfl) ?_
  intro pX eX sX mX aX bX tX cX AX lsX HX oX QX zx zb zr zk zm zo zg zK zP zD zA zS zQ zl
  have zo : sX.vm.findClass R_X = some mX.cls := zo
  have zl : lv_has lsX 3 [(0, .ref x)] := zl
  refine lv_aload_n zx zb d_X_backup_0 rfl (lv_at zl 0 rfl) ?_
  refine wv_get zx zb zg hin_X rfl zo zK zP 0 rfl 6 (by decide) rfl fl_X_51 rfl d_X_backup_1 ?_
  refine lv_iconst (v := (-1)) zx zb d_X_backup_4 (by decide) ?_
  refine lv_icmp_eq (tgt := 10) zx zb d_X_backup_5 (by decide) (fun _ => ?_) (fun h => absurd h (fun h => h rfl))
  refine lv_aload_n zx zb d_X_backup_10 rfl (lv_at zl 0 rfl) ?_
  refine ct_V (ws' := wX g x l0 t0 p0 ba h0 r0 (-1) ++ wLog g l0 l1 l2 l3 l4 k o ke va n sy ++ wTr g t0 t1 t2 t3 t4 c f tk tv ++ wPg g p0 p1 p2 p3 p4 p5 me ms dk ds du ++ wBA g ba b ++ wBk g (b 0) v0 bv0 pr0 fi0 st0 cp0 en0 pg0 ++ wBk g (b 1) v1 bv1 pr1 fi1 st1 cp1 en1 pg1 ++ wBk g (b 2) v2 bv2 pr2 fi2 st2 cp2 en2 pg2) (rest := []) (st1 := [.int (nI 1)]) zx zb zm zo zg zK zP zD zS zA zl.1 (c_X_free_1 lL g x l0 t0 p0 ba h0 r0 (-1) b v0 bv0 pr0 fi0 st0 cp0 en0 pg0 v1 bv1 pr1 fi1 st1 cp1 en1 pg1 v2 bv2 pr2 fi2 st2 cp2 en2 pg2 (by omega) (by omega)) ok_X_leastFreeBackup ov_X_leastFreeBackup ml_X_121 (by decide) 0 0 rfl rfl rfl [0, 17, 18, 19, 20, 21, 22, 23] [1, 2, 3, 4, 5, 6, 7, 8, 9, 10, 11, 12, 13, 14, 15, 16] 24 (by decide) rfl rfl rfl rfl (by decide) rfl rfl rfl (Nat.le_of_ble_eq_true rfl) d_X_backup_11 (fun HX oX zP zD zS => ?_)
  refine lv_istore_n (lv' := [(1, .int (nI 1)), (0, .ref x)]) zx zb d_X_backup_14 rfl zl (by decide) rfl (fun lsX zl => ?_)
  refine lv_iload_n zx zb d_X_backup_15 rfl (lv_at zl 0 rfl) ?_
  refine lv_iconst (v := (-1)) zx zb d_X_backup_16 (by decide) ?_
  refine lv_icmp_ne (tgt := 23) zx zb d_X_backup_17 (by decide) (fun _ => ?_) (fun h => absurd h (by decide))
  refine lv_aload_n zx zb d_X_backup_23 rfl (lv_at zl 1 rfl) ?_
  refine ct_V (ws' := wX g x l0 t0 p0 ba h0 r0 (-1) ++ wLog g l0 l1 l2 l3 l4 k o ke va n n ++ wTr g t0 t1 t2 t3 t4 c f tk tv ++ wPg g p0 p1 p2 p3 p4 p5 me (va_cpy me ms 0 0 32) ((mcS me dk ds du 0 8).1) ((mcS me dk ds du 0 8).2.1) ((mcS me dk ds du 0 8).2.2) ++ wBA g ba b ++ wBk g (b 0) v0 bv0 pr0 fi0 st0 cp0 en0 pg0 ++ wBk g (b 1) v1 bv1 pr1 fi1 st1 cp1 en1 pg1 ++ wBk g (b 2) v2 bv2 pr2 fi2 st2 cp2 en2 pg2) (rest := []) (st1 := [.int (nI (lfs c f 0 3 n))]) zx zb zm zo zg zK zP zD zS zA zl.1 (c_X_makeCheckpoint lL g x l0 t0 p0 ba h0 r0 (-1) l1 l2 l3 l4 k o ke va n sy t1 t2 t3 t4 c f tk tv p1 p2 p3 p4 p5 me ms dk ds du (by omega) (by omega) hd hu hc hf) ok_X_makeCheckpoint ov_X_makeCheckpoint ml_X_103 (by decide) 0 0 rfl rfl rfl [0, 1, 2, 3, 4, 5, 6, 7, 8, 9, 10, 11, 12, 13, 14, 15, 16] [17, 18, 19, 20, 21, 22, 23] 24 (by decide) rfl rfl rfl rfl (by decide) rfl rfl rfl (Nat.le_of_ble_eq_true rfl) d_X_backup_24 (fun HX oX zP zD zS => ?_)
  refine lv_istore_n (lv' := [(2, .int (nI (lfs c f 0 3 n))), (1, .int (nI 1)), (0, .ref x)]) zx zb d_X_backup_27 rfl zl (by decide) rfl (fun lsX zl => ?_)
  refine lv_aload_n zx zb d_X_backup_28 rfl (lv_at zl 2 rfl) ?_
  refine wv_get zx zb zg hin_X rfl zo zK zP 0 rfl 3 (by decide) rfl fl_X_46 rfl d_X_backup_29 ?_
  refine lv_iload_n zx zb d_X_backup_32 rfl (lv_at zl 1 rfl) ?_
  refine wv_aald (v := b 1) zx zb zK zP 17 rfl rfl (by omega) (by decide) d_X_backup_33 ?_
  refine lv_iload_n zx zb d_X_backup_34 rfl (lv_at zl 0 rfl) ?_
  refine lv_aload_n zx zb d_X_backup_35 rfl (lv_at zl 2 rfl) ?_
  refine wv_get zx zb zg hin_X rfl zo zK zP 0 rfl 0 (by decide) rfl fl_X_12 rfl d_X_backup_36 ?_
  refine wv_get zx zb zg hin_Log rfl zo zK zP 1 rfl 4 (by decide) rfl fl_X_69 rfl d_X_backup_39 ?_
  refine ct_V (ws' := wX g x l0 t0 p0 ba h0 r0 (-1) ++ wLog g l0 l1 l2 l3 l4 k o ke va n n ++ wTr g t0 t1 t2 t3 t4 c f tk tv ++ wPg g p0 p1 p2 p3 p4 p5 me (va_cpy me ms 0 0 32) ((mcS me dk ds du 0 8).1) ((mcS me dk ds du 0 8).2.1) ((mcS me dk ds du 0 8).2.2) ++ wBA g ba b ++ wBk g (b 0) v0 bv0 pr0 fi0 st0 cp0 en0 pg0 ++ wBk g (b 1) v1 bv1 1 0 (lfs c f 0 3 n) n en1 0 ++ wBk g (b 2) v2 bv2 pr2 fi2 st2 cp2 en2 pg2) (rest := []) (st1 := []) zx zb zm zo zg zK zP zD zS zA zl.1 (c_Bk_begin lL g (b 1) v1 bv1 pr1 fi1 st1 cp1 en1 pg1 (lfs c f 0 3 n) n) ok_Bk_begin ov_Bk_begin ml_X_124 (by decide) 20 4 rfl rfl rfl [20, 21] [0, 1, 2, 3, 4, 5, 6, 7, 8, 9, 10, 11, 12, 13, 14, 15, 16, 17, 18, 19, 22, 23] 24 (by decide) rfl rfl rfl rfl (by decide) rfl rfl rfl (Nat.le_of_ble_eq_true rfl) d_X_backup_42 (fun HX oX zP zD zS => ?_)
  refine lv_aload_n zx zb d_X_backup_45 rfl (lv_at zl 2 rfl) ?_
  refine lv_iload_n zx zb d_X_backup_46 rfl (lv_at zl 1 rfl) ?_
  refine wv_put zx zb zg hin_X rfl t_X t_X_ok n_X zo zK zP zD zS 0 rfl 6 (by decide) rfl fl_X_51 rfl rfl rfl (Nat.le_of_ble_eq_true rfl) d_X_backup_47 (fun HX oX zP zD zS => ?_)
  have zP : va_P g.1 cls (wX g x l0 t0 p0 ba h0 r0 (nI 1) ++ wLog g l0 l1 l2 l3 l4 k o ke va n n ++ wTr g t0 t1 t2 t3 t4 c f tk tv ++ wPg g p0 p1 p2 p3 p4 p5 me (va_cpy me ms 0 0 32) ((mcS me dk ds du 0 8).1) ((mcS me dk ds du 0 8).2.1) ((mcS me dk ds du 0 8).2.2) ++ wBA g ba b ++ wBk g (b 0) v0 bv0 pr0 fi0 st0 cp0 en0 pg0 ++ wBk g (b 1) v1 bv1 1 0 (lfs c f 0 3 n) n en1 0 ++ wBk g (b 2) v2 bv2 pr2 fi2 st2 cp2 en2 pg2) HX := zP
  have zD : va_D AX (wX g x l0 t0 p0 ba h0 r0 (nI 1) ++ wLog g l0 l1 l2 l3 l4 k o ke va n n ++ wTr g t0 t1 t2 t3 t4 c f tk tv ++ wPg g p0 p1 p2 p3 p4 p5 me (va_cpy me ms 0 0 32) ((mcS me dk ds du 0 8).1) ((mcS me dk ds du 0 8).2.1) ((mcS me dk ds du 0 8).2.2) ++ wBA g ba b ++ wBk g (b 0) v0 bv0 pr0 fi0 st0 cp0 en0 pg0 ++ wBk g (b 1) v1 bv1 1 0 (lfs c f 0 3 n) n en1 0 ++ wBk g (b 2) v2 bv2 pr2 fi2 st2 cp2 en2 pg2) := zD
  refine lv_iload_n zx zb d_X_backup_50 rfl (lv_at zl 1 rfl) ?_
  exact ct_iret zQ zx zb zr zk zP zD zS d_X_backup_51 rfl (⟨rfl, rfl⟩)
set_option maxRecDepth 20000 in
theorem c_X_backup_2 (lL : Launch) (g : Gt) (x : Nat) (l0 : Nat) (t0 : Nat) (p0 : Nat) (ba : Nat) (h0 : Nat) (r0 : Nat) (l1 : Nat) (l2 : Nat) (l3 : Nat) (l4 : Nat) (k : Nat → Nat) (o : Nat → Nat) (ke : Nat → Nat) (va : Nat → Int32) (n : Nat) (sy : Nat) (t1 : Nat) (t2 : Nat) (t3 : Nat) (t4 : Nat) (c : Nat → Nat) (f : Nat → Nat) (tk : Nat → Nat) (tv : Nat → Int32) (p1 : Nat) (p2 : Nat) (p3 : Nat) (p4 : Nat) (p5 : Nat) (me : Nat → Int32) (ms : Nat → Int32) (dk : Nat → Int32) (ds : Nat → Nat) (du : Nat → Nat) (b : Nat → Nat) (v0 : Nat) (bv0 : Nat → Int32) (pr0 : Nat) (fi0 : Nat) (st0 : Nat) (cp0 : Nat) (en0 : Nat) (pg0 : Nat) (v1 : Nat) (bv1 : Nat → Int32) (pr1 : Nat) (fi1 : Nat) (st1 : Nat) (cp1 : Nat) (en1 : Nat) (pg1 : Nat) (v2 : Nat) (bv2 : Nat → Int32) (pr2 : Nat) (fi2 : Nat) (st2 : Nat) (cp2 : Nat) (en2 : Nat) (pg2 : Nat) (hn : n ≤ 512) (hs : sy ≤ n) (hd : ∀ j, j < 8 → ds j ≤ 512) (hu : ∀ j, j < 8 → du j ≤ n) (hc : ∀ t, t < 3 → c t ≤ 4) (hf : ∀ t, t < 3 → f t ≤ 512) (p0_ : pr0 = 1) (p1_ : pr1 = 1) (p2_ : pr2 = 0) : Ct lL g y_X_backup (.code y_X_backup b_X_backup 3 (some .int)) 6 200 [.ref x] (wX g x l0 t0 p0 ba h0 r0 (-1) ++ wLog g l0 l1 l2 l3 l4 k o ke va n sy ++ wTr g t0 t1 t2 t3 t4 c f tk tv ++ wPg g p0 p1 p2 p3 p4 p5 me ms dk ds du ++ wBA g ba b ++ wBk g (b 0) v0 bv0 pr0 fi0 st0 cp0 en0 pg0 ++ wBk g (b 1) v1 bv1 pr1 fi1 st1 cp1 en1 pg1 ++ wBk g (b 2) v2 bv2 pr2 fi2 st2 cp2 en2 pg2) (exP (some (.int (nI 2))) (wX g x l0 t0 p0 ba h0 r0 (nI 2) ++ wLog g l0 l1 l2 l3 l4 k o ke va n n ++ wTr g t0 t1 t2 t3 t4 c f tk tv ++ wPg g p0 p1 p2 p3 p4 p5 me (va_cpy me ms 0 0 32) ((mcS me dk ds du 0 8).1) ((mcS me dk ds du 0 8).2.1) ((mcS me dk ds du 0 8).2.2) ++ wBA g ba b ++ wBk g (b 0) v0 bv0 pr0 fi0 st0 cp0 en0 pg0 ++ wBk g (b 1) v1 bv1 pr1 fi1 st1 cp1 en1 pg1 ++ wBk g (b 2) v2 bv2 1 0 (lfs c f 0 3 n) n en2 0)) := by
  refine Ct.ofW (by decide) (Nat.le_of_ble_eq_true rfl) ?_
  intro pX eX sX mX aX bX tX cX AX lsX HX oX QX zx zb zr zk zm zo zg zK zP zD zA zS zQ zl
  have zo : sX.vm.findClass R_X = some mX.cls := zo
  have zl : lv_has lsX 3 [(0, .ref x)] := zl
  refine lv_aload_n zx zb d_X_backup_0 rfl (lv_at zl 0 rfl) ?_
  refine wv_get zx zb zg hin_X rfl zo zK zP 0 rfl 6 (by decide) rfl fl_X_51 rfl d_X_backup_1 ?_
  refine lv_iconst (v := (-1)) zx zb d_X_backup_4 (by decide) ?_
  refine lv_icmp_eq (tgt := 10) zx zb d_X_backup_5 (by decide) (fun _ => ?_) (fun h => absurd h (fun h => h rfl))
  refine lv_aload_n zx zb d_X_backup_10 rfl (lv_at zl 0 rfl) ?_
  refine ct_V (ws' := wX g x l0 t0 p0 ba h0 r0 (-1) ++ wLog g l0 l1 l2 l3 l4 k o ke va n sy ++ wTr g t0 t1 t2 t3 t4 c f tk tv ++ wPg g p0 p1 p2 p3 p4 p5 me ms dk ds du ++ wBA g ba b ++ wBk g (b 0) v0 bv0 pr0 fi0 st0 cp0 en0 pg0 ++ wBk g (b 1) v1 bv1 pr1 fi1 st1 cp1 en1 pg1 ++ wBk g (b 2) v2 bv2 pr2 fi2 st2 cp2 en2 pg2) (rest := []) (st1 := [.int (nI 2)]) zx zb zm zo zg zK zP zD zS zA zl.1 (c_X_free_2 lL g x l0 t0 p0 ba h0 r0 (-1) b v0 bv0 pr0 fi0 st0 cp0 en0 pg0 v1 bv1 pr1 fi1 st1 cp1 en1 pg1 v2 bv2 pr2 fi2 st2 cp2 en2 pg2 (by omega) (by omega) (by omega)) ok_X_leastFreeBackup ov_X_leastFreeBackup ml_X_121 (by decide) 0 0 rfl rfl rfl [0, 17, 18, 19, 20, 21, 22, 23] [1, 2, 3, 4, 5, 6, 7, 8, 9, 10, 11, 12, 13, 14, 15, 16] 24 (by decide) rfl rfl rfl rfl (by decide) rfl rfl rfl (Nat.le_of_ble_eq_true rfl) d_X_backup_11 (fun HX oX zP zD zS => ?_)
  refine lv_istore_n (lv' := [(1, .int (nI 2)), (0, .ref x)]) zx zb d_X_backup_14 rfl zl (by decide) rfl (fun lsX zl => ?_)
  refine lv_iload_n zx zb d_X_backup_15 rfl (lv_at zl 0 rfl) ?_
  refine lv_iconst (v := (-1)) zx zb d_X_backup_16 (by decide) ?_
  refine lv_icmp_ne (tgt := 23) zx zb d_X_backup_17 (by decide) (fun _ => ?_) (fun h => absurd h (by decide))
  refine lv_aload_n zx zb d_X_backup_23 rfl (lv_at zl 1 rfl) ?_
  refine ct_V (ws' := wX g x l0 t0 p0 ba h0 r0 (-1) ++ wLog g l0 l1 l2 l3 l4 k o ke va n n ++ wTr g t0 t1 t2 t3 t4 c f tk tv ++ wPg g p0 p1 p2 p3 p4 p5 me (va_cpy me ms 0 0 32) ((mcS me dk ds du 0 8).1) ((mcS me dk ds du 0 8).2.1) ((mcS me dk ds du 0 8).2.2) ++ wBA g ba b ++ wBk g (b 0) v0 bv0 pr0 fi0 st0 cp0 en0 pg0 ++ wBk g (b 1) v1 bv1 pr1 fi1 st1 cp1 en1 pg1 ++ wBk g (b 2) v2 bv2 pr2 fi2 st2 cp2 en2 pg2) (rest := []) (st1 := [.int (nI (lfs c f 0 3 n))]) zx zb zm zo zg zK zP zD zS zA zl.1 (c_X_makeCheckpoint lL g x l0 t0 p0 ba h0 r0 (-1) l1 l2 l3 l4 k o ke va n sy t1 t2 t3 t4 c f tk tv p1 p2 p3 p4 p5 me ms dk ds du (by omega) (by omega) hd hu hc hf) ok_X_makeCheckpoint ov_X_makeCheckpoint ml_X_103 (by decide) 0 0 rfl rfl rfl [0, 1, 2, 3, 4, 5, 6, 7, 8, 9, 10, 11, 12, 13, 14, 15, 16] [17, 18, 19, 20, 21, 22, 23] 24 (by decide) rfl rfl rfl rfl (by decide) rfl rfl rfl (Nat.le_of_ble_eq_true rfl) d_X_backup_24 (fun HX oX zP zD zS => ?_)
  refine lv_istore_n (lv' := [(2, .int (nI (lfs c f 0 3 n))), (1, .int (nI 2)), (0, .ref x)]) zx zb d_X_backup_27 rfl zl (by decide) rfl (fun lsX zl => ?_)
  refine lv_aload_n zx zb d_X_backup_28 rfl (lv_at zl 2 rfl) ?_
  refine wv_get zx zb zg hin_X rfl zo zK zP 0 rfl 3 (by decide) rfl fl_X_46 rfl d_X_backup_29 ?_
  refine lv_iload_n zx zb d_X_backup_32 rfl (lv_at zl 1 rfl) ?_
  refine wv_aald (v := b 2) zx zb zK zP 17 rfl rfl (by omega) (by decide) d_X_backup_33 ?_
  refine lv_iload_n zx zb d_X_backup_34 rfl (lv_at zl 0 rfl) ?_
  refine lv_aload_n zx zb d_X_backup_35 rfl (lv_at zl 2 rfl) ?_
  refine wv_get zx zb zg hin_X rfl zo zK zP 0 rfl 0 (by decide) rfl fl_X_12 rfl d_X_backup_36 ?_
  refine wv_get zx zb zg hin_Log rfl zo zK zP 1 rfl 4 (by decide) rfl fl_X_69 rfl d_X_backup_39 ?_
  refine ct_V (ws' := wX g x l0 t0 p0 ba h0 r0 (-1) ++ wLog g l0 l1 l2 l3 l4 k o ke va n n ++ wTr g t0 t1 t2 t3 t4 c f tk tv ++ wPg g p0 p1 p2 p3 p4 p5 me (va_cpy me ms 0 0 32) ((mcS me dk ds du 0 8).1) ((mcS me dk ds du 0 8).2.1) ((mcS me dk ds du 0 8).2.2) ++ wBA g ba b ++ wBk g (b 0) v0 bv0 pr0 fi0 st0 cp0 en0 pg0 ++ wBk g (b 1) v1 bv1 pr1 fi1 st1 cp1 en1 pg1 ++ wBk g (b 2) v2 bv2 1 0 (lfs c f 0 3 n) n en2 0) (rest := []) (st1 := []) zx zb zm zo zg zK zP zD zS zA zl.1 (c_Bk_begin lL g (b 2) v2 bv2 pr2 fi2 st2 cp2 en2 pg2 (lfs c f 0 3 n) n) ok_Bk_begin ov_Bk_begin ml_X_124 (by decide) 22 4 rfl rfl rfl [22, 23] [0, 1, 2, 3, 4, 5, 6, 7, 8, 9, 10, 11, 12, 13, 14, 15, 16, 17, 18, 19, 20, 21] 24 (by decide) rfl rfl rfl rfl (by decide) rfl rfl rfl (Nat.le_of_ble_eq_true rfl) d_X_backup_42 (fun HX oX zP zD zS => ?_)
  refine lv_aload_n zx zb d_X_backup_45 rfl (lv_at zl 2 rfl) ?_
  refine lv_iload_n zx zb d_X_backup_46 rfl (lv_at zl 1 rfl) ?_
  refine wv_put zx zb zg hin_X rfl t_X t_X_ok n_X zo zK zP zD zS 0 rfl 6 (by decide) rfl fl_X_51 rfl rfl rfl (Nat.le_of_ble_eq_true rfl) d_X_backup_47 (fun HX oX zP zD zS => ?_)
  have zP : va_P g.1 cls (wX g x l0 t0 p0 ba h0 r0 (nI 2) ++ wLog g l0 l1 l2 l3 l4 k o ke va n n ++ wTr g t0 t1 t2 t3 t4 c f tk tv ++ wPg g p0 p1 p2 p3 p4 p5 me (va_cpy me ms 0 0 32) ((mcS me dk ds du 0 8).1) ((mcS me dk ds du 0 8).2.1) ((mcS me dk ds du 0 8).2.2) ++ wBA g ba b ++ wBk g (b 0) v0 bv0 pr0 fi0 st0 cp0 en0 pg0 ++ wBk g (b 1) v1 bv1 pr1 fi1 st1 cp1 en1 pg1 ++ wBk g (b 2) v2 bv2 1 0 (lfs c f 0 3 n) n en2 0) HX := zP
  have zD : va_D AX (wX g x l0 t0 p0 ba h0 r0 (nI 2) ++ wLog g l0 l1 l2 l3 l4 k o ke va n n ++ wTr g t0 t1 t2 t3 t4 c f tk tv ++ wPg g p0 p1 p2 p3 p4 p5 me (va_cpy me ms 0 0 32) ((mcS me dk ds du 0 8).1) ((mcS me dk ds du 0 8).2.1) ((mcS me dk ds du 0 8).2.2) ++ wBA g ba b ++ wBk g (b 0) v0 bv0 pr0 fi0 st0 cp0 en0 pg0 ++ wBk g (b 1) v1 bv1 pr1 fi1 st1 cp1 en1 pg1 ++ wBk g (b 2) v2 bv2 1 0 (lfs c f 0 3 n) n en2 0) := zD
  refine lv_iload_n zx zb d_X_backup_50 rfl (lv_at zl 1 rfl) ?_
  exact ct_iret zQ zx zb zr zk zP zD zS d_X_backup_51 rfl (⟨rfl, rfl⟩)
set_option maxRecDepth 20000 in
theorem c_X_copy_x (lL : Launch) (g : Gt) (x : Nat) (l0 : Nat) (t0 : Nat) (p0 : Nat) (ba : Nat) (h0 : Nat) (r0 : Nat)  : Ct lL g y_X_copy (.code y_X_copy b_X_copy 3 (some .int)) 6 200 [.ref x] (wX g x l0 t0 p0 ba h0 r0 (-1)) (exP (some (.int (-3))) (wX g x l0 t0 p0 ba h0 r0 (-1))) := by
  refine Ct.ofW (by decide) (Nat.le_of_ble_eq_true rfl) ?_
  intro pX eX sX mX aX bX tX cX AX lsX HX oX QX zx zb zr zk zm zo zg zK zP zD zA zS zQ zl
  have zo : sX.vm.findClass R_X = some mX.cls := zo
  have zl : lv_has lsX 3 [(0, .ref x)] := zl
  refine lv_aload_n zx zb d_X_copy_0 rfl (lv_at zl 0 rfl) ?_
  refine wv_get zx zb zg hin_X rfl zo zK zP 0 rfl 6 (by decide) rfl fl_X_51 rfl d_X_copy_1 ?_
  refine lv_iconst (v := (-1)) zx zb d_X_copy_4 (by decide) ?_
  refine lv_icmp_ne (tgt := 11) zx zb d_X_copy_5 (by decide) (fun h => absurd h (fun h => h rfl)) (fun _ => ?_)
  refine lv_bipush (v := (-3)) zx zb d_X_copy_8 (by decide) ?_
  exact ct_iret zQ zx zb zr zk zP zD zS d_X_copy_10 rfl (⟨rfl, rfl⟩)
set_option maxRecDepth 20000 in
theorem c_X_copy_m (lL : Launch) (g : Gt) (x : Nat) (l0 : Nat) (t0 : Nat) (p0 : Nat) (ba : Nat) (h0 : Nat) (r0 : Nat) (l1 : Nat) (l2 : Nat) (l3 : Nat) (l4 : Nat) (k : Nat → Nat) (o : Nat → Nat) (ke : Nat → Nat) (va : Nat → Int32) (n : Nat) (sy : Nat) (p1 : Nat) (p2 : Nat) (p3 : Nat) (p4 : Nat) (p5 : Nat) (me : Nat → Int32) (ms : Nat → Int32) (dk : Nat → Int32) (ds : Nat → Nat) (du : Nat → Nat) (b : Nat → Nat) (b1 : Nat) (bv : Nat → Int32) (pr : Nat) (fi : Nat) (st : Nat) (cp : Nat) (en : Nat) (pg : Nat) (j : Nat) (hj : j < 3) (hg8 : pg < 7) : Ct lL g y_X_copy (.code y_X_copy b_X_copy 3 (some .int)) 6 200 [.ref x] (wX g x l0 t0 p0 ba h0 r0 (nI j) ++ wLog g l0 l1 l2 l3 l4 k o ke va n sy ++ wPg g p0 p1 p2 p3 p4 p5 me ms dk ds du ++ wBA g ba b ++ wBk g (b j) b1 bv pr fi st cp en pg) (exP (some (.int (nI (8 - (pg + 1))))) (wX g x l0 t0 p0 ba h0 r0 (nI j) ++ wLog g l0 l1 l2 l3 l4 k o ke va n sy ++ wPg g p0 p1 p2 p3 p4 p5 me ms dk ds du ++ wBA g ba b ++ wBk g (b j) b1 (va_cpy dk bv (pg * 4) (pg * 4) 4) pr fi st cp en (pg + 1))) := by
  refine Ct.ofW (by decide) (Nat.le_of_ble_eq_true rfl) ?_
  intro pX eX sX mX aX bX tX cX AX lsX HX oX QX zx zb zr zk zm zo zg zK zP zD zA zS zQ zl
  have zo : sX.vm.findClass R_X = some mX.cls := zo
  have zl : lv_has lsX 3 [(0, .ref x)] := zl
  refine lv_aload_n zx zb d_X_copy_0 rfl (lv_at zl 0 rfl) ?_
  refine wv_get zx zb zg hin_X rfl zo zK zP 0 rfl 6 (by decide) rfl fl_X_51 rfl d_X_copy_1 ?_
  refine lv_iconst (v := (-1)) zx zb d_X_copy_4 (by decide) ?_
  refine lv_icmp_ne (tgt := 11) zx zb d_X_copy_5 (by decide) (fun _ => ?_) (fun h => absurd h (ni_ne_m1 (by omega)))
  refine lv_aload_n zx zb d_X_copy_11 rfl (lv_at zl 0 rfl) ?_
  refine wv_get zx zb zg hin_X rfl zo zK zP 0 rfl 3 (by decide) rfl fl_X_46 rfl d_X_copy_12 ?_
  refine lv_aload_n zx zb d_X_copy_15 rfl (lv_at zl 0 rfl) ?_
  refine wv_get zx zb zg hin_X rfl zo zK zP 0 rfl 6 (by decide) rfl fl_X_51 rfl d_X_copy_16 ?_
  refine wv_aald (v := b j) zx zb zK zP 12 rfl rfl (by omega) (by decide) d_X_copy_19 ?_
  refine lv_astore_n (lv' := [(1, .ref (b j)), (0, .ref x)]) zx zb d_X_copy_20 rfl zl (by decide) rfl (fun lsX zl => ?_)
  refine lv_aload_n zx zb d_X_copy_21 rfl (lv_at zl 0 rfl) ?_
  refine lv_aload_n zx zb d_X_copy_22 rfl (lv_at zl 1 rfl) ?_
  refine wv_get zx zb zg hin_X rfl zo zK zP 0 rfl 2 (by decide) rfl fl_X_26 rfl d_X_copy_23 ?_
  refine wv_get zx zb zg hin_Pg rfl zo zK zP 6 rfl 2 (by decide) rfl fl_X_128 rfl d_X_copy_26 ?_
  refine ct_V (ws' := wX g x l0 t0 p0 ba h0 r0 (nI j) ++ wLog g l0 l1 l2 l3 l4 k o ke va n sy ++ wPg g p0 p1 p2 p3 p4 p5 me ms dk ds du ++ wBA g ba b ++ wBk g (b j) b1 (va_cpy dk bv (pg * 4) (pg * 4) 4) pr fi st cp en (pg + 1)) (rest := []) (st1 := [.int (nI (8 - (pg + 1)))]) zx zb zm zo zg zK zP zD zS zA zl.1 (c_Bk_take lL g (b j) b1 bv pr fi st cp en pg p3 dk (by omega)) ok_Bk_takeNextPage ov_Bk_takeNextPage ml_X_131 (by decide) 13 4 rfl rfl rfl [13, 14, 9] [0, 1, 2, 3, 4, 5, 6, 7, 8, 10, 11, 12] 15 (by decide) rfl rfl rfl rfl (by decide) rfl rfl rfl (Nat.le_of_ble_eq_true rfl) d_X_copy_29 (fun HX oX zP zD zS => ?_)
  refine lv_istore_n (lv' := [(2, .int (nI (8 - (pg + 1)))), (1, .ref (b j)), (0, .ref x)]) zx zb d_X_copy_32 rfl zl (by decide) rfl (fun lsX zl => ?_)
  refine lv_iload_n zx zb d_X_copy_33 rfl (lv_at zl 0 rfl) ?_
  refine wn_ine_T (tgt := 53) zx zb d_X_copy_34 (by decide) (by omega) (by omega) ?_
  refine lv_iload_n zx zb d_X_copy_53 rfl (lv_at zl 0 rfl) ?_
  exact ct_iret zQ zx zb zr zk zP zD zS d_X_copy_54 rfl (⟨rfl, rfl⟩)
set_option maxRecDepth 20000 in
theorem c_X_copy_l (lL : Launch) (g : Gt) (x : Nat) (l0 : Nat) (t0 : Nat) (p0 : Nat) (ba : Nat) (h0 : Nat) (r0 : Nat) (l1 : Nat) (l2 : Nat) (l3 : Nat) (l4 : Nat) (k : Nat → Nat) (o : Nat → Nat) (ke : Nat → Nat) (va : Nat → Int32) (n : Nat) (sy : Nat) (p1 : Nat) (p2 : Nat) (p3 : Nat) (p4 : Nat) (p5 : Nat) (me : Nat → Int32) (ms : Nat → Int32) (dk : Nat → Int32) (ds : Nat → Nat) (du : Nat → Nat) (b : Nat → Nat) (b1 : Nat) (bv : Nat → Int32) (pr : Nat) (fi : Nat) (st : Nat) (cp : Nat) (en : Nat) (pg : Nat) (j : Nat) (hj : j < 3) (hg8 : pg = 7) : Ct lL g y_X_copy (.code y_X_copy b_X_copy 3 (some .int)) 6 200 [.ref x] (wX g x l0 t0 p0 ba h0 r0 (nI j) ++ wLog g l0 l1 l2 l3 l4 k o ke va n sy ++ wPg g p0 p1 p2 p3 p4 p5 me ms dk ds du ++ wBA g ba b ++ wBk g (b j) b1 bv pr fi st cp en pg) (exP (some (.int (nI (8 - (pg + 1))))) (wX g x l0 t0 p0 ba h0 r0 (-1) ++ wLog g l0 l1 l2 l3 l4 k o ke va n sy ++ wPg g p0 p1 p2 p3 p4 p5 me ms dk ds du ++ wBA g ba b ++ wBk g (b j) b1 (va_cpy dk bv (pg * 4) (pg * 4) 4) pr 1 st cp sy (pg + 1))) := by
  refine Ct.ofW (by decide) (Nat.le_of_ble_eq_true rfl) ?_
  intro pX eX sX mX aX bX tX cX AX lsX HX oX QX zx zb zr zk zm zo zg zK zP zD zA zS zQ zl
  have zo : sX.vm.findClass R_X = some mX.cls := zo
  have zl : lv_has lsX 3 [(0, .ref x)] := zl
  refine lv_aload_n zx zb d_X_copy_0 rfl (lv_at zl 0 rfl) ?_
  refine wv_get zx zb zg hin_X rfl zo zK zP 0 rfl 6 (by decide) rfl fl_X_51 rfl d_X_copy_1 ?_
  refine lv_iconst (v := (-1)) zx zb d_X_copy_4 (by decide) ?_
  refine lv_icmp_ne (tgt := 11) zx zb d_X_copy_5 (by decide) (fun _ => ?_) (fun h => absurd h (ni_ne_m1 (by omega)))
  refine lv_aload_n zx zb d_X_copy_11 rfl (lv_at zl 0 rfl) ?_
  refine wv_get zx zb zg hin_X rfl zo zK zP 0 rfl 3 (by decide) rfl fl_X_46 rfl d_X_copy_12 ?_
  refine lv_aload_n zx zb d_X_copy_15 rfl (lv_at zl 0 rfl) ?_
  refine wv_get zx zb zg hin_X rfl zo zK zP 0 rfl 6 (by decide) rfl fl_X_51 rfl d_X_copy_16 ?_
  refine wv_aald (v := b j) zx zb zK zP 12 rfl rfl (by omega) (by decide) d_X_copy_19 ?_
  refine lv_astore_n (lv' := [(1, .ref (b j)), (0, .ref x)]) zx zb d_X_copy_20 rfl zl (by decide) rfl (fun lsX zl => ?_)
  refine lv_aload_n zx zb d_X_copy_21 rfl (lv_at zl 0 rfl) ?_
  refine lv_aload_n zx zb d_X_copy_22 rfl (lv_at zl 1 rfl) ?_
  refine wv_get zx zb zg hin_X rfl zo zK zP 0 rfl 2 (by decide) rfl fl_X_26 rfl d_X_copy_23 ?_
  refine wv_get zx zb zg hin_Pg rfl zo zK zP 6 rfl 2 (by decide) rfl fl_X_128 rfl d_X_copy_26 ?_
  refine ct_V (ws' := wX g x l0 t0 p0 ba h0 r0 (nI j) ++ wLog g l0 l1 l2 l3 l4 k o ke va n sy ++ wPg g p0 p1 p2 p3 p4 p5 me ms dk ds du ++ wBA g ba b ++ wBk g (b j) b1 (va_cpy dk bv (pg * 4) (pg * 4) 4) pr fi st cp en (pg + 1)) (rest := []) (st1 := [.int (nI (8 - (pg + 1)))]) zx zb zm zo zg zK zP zD zS zA zl.1 (c_Bk_take lL g (b j) b1 bv pr fi st cp en pg p3 dk (by omega)) ok_Bk_takeNextPage ov_Bk_takeNextPage ml_X_131 (by decide) 13 4 rfl rfl rfl [13, 14, 9] [0, 1, 2, 3, 4, 5, 6, 7, 8, 10, 11, 12] 15 (by decide) rfl rfl rfl rfl (by decide) rfl rfl rfl (Nat.le_of_ble_eq_true rfl) d_X_copy_29 (fun HX oX zP zD zS => ?_)
  refine lv_istore_n (lv' := [(2, .int (nI (8 - (pg + 1)))), (1, .ref (b j)), (0, .ref x)]) zx zb d_X_copy_32 rfl zl (by decide) rfl (fun lsX zl => ?_)
  refine lv_iload_n zx zb d_X_copy_33 rfl (lv_at zl 0 rfl) ?_
  refine wn_ine_F (tgt := 53) zx zb d_X_copy_34 (by decide) (by omega) (by omega) ?_
  refine lv_aload_n zx zb d_X_copy_37 rfl (lv_at zl 1 rfl) ?_
  refine lv_aload_n zx zb d_X_copy_38 rfl (lv_at zl 2 rfl) ?_
  refine wv_get zx zb zg hin_X rfl zo zK zP 0 rfl 0 (by decide) rfl fl_X_12 rfl d_X_copy_39 ?_
  refine wv_get zx zb zg hin_Log rfl zo zK zP 1 rfl 5 (by decide) rfl fl_X_112 rfl d_X_copy_42 ?_
  refine ct_V (ws' := wX g x l0 t0 p0 ba h0 r0 (nI j) ++ wLog g l0 l1 l2 l3 l4 k o ke va n sy ++ wPg g p0 p1 p2 p3 p4 p5 me ms dk ds du ++ wBA g ba b ++ wBk g (b j) b1 (va_cpy dk bv (pg * 4) (pg * 4) 4) pr 1 st cp sy (pg + 1)) (rest := []) (st1 := []) zx zb zm zo zg zK zP zD zS zA zl.1 (c_Bk_finish lL g (b j) b1 (va_cpy dk bv (pg * 4) (pg * 4) 4) pr fi st cp en (pg + 1) sy) ok_Bk_finish ov_Bk_finish ml_X_135 (by decide) 13 4 rfl rfl rfl [13, 14] [0, 1, 2, 3, 4, 5, 6, 7, 8, 9, 10, 11, 12] 15 (by decide) rfl rfl rfl rfl (by decide) rfl rfl rfl (Nat.le_of_ble_eq_true rfl) d_X_copy_45 (fun HX oX zP zD zS => ?_)
  refine lv_aload_n zx zb d_X_copy_48 rfl (lv_at zl 2 rfl) ?_
  refine lv_iconst (v := (-1)) zx zb d_X_copy_49 (by decide) ?_
  refine wv_put zx zb zg hin_X rfl t_X t_X_ok n_X zo zK zP zD zS 0 rfl 6 (by decide) rfl fl_X_51 rfl rfl rfl (Nat.le_of_ble_eq_true rfl) d_X_copy_50 (fun HX oX zP zD zS => ?_)
  have zP : va_P g.1 cls (wX g x l0 t0 p0 ba h0 r0 (-1) ++ wLog g l0 l1 l2 l3 l4 k o ke va n sy ++ wPg g p0 p1 p2 p3 p4 p5 me ms dk ds du ++ wBA g ba b ++ wBk g (b j) b1 (va_cpy dk bv (pg * 4) (pg * 4) 4) pr 1 st cp sy (pg + 1)) HX := zP
  have zD : va_D AX (wX g x l0 t0 p0 ba h0 r0 (-1) ++ wLog g l0 l1 l2 l3 l4 k o ke va n sy ++ wPg g p0 p1 p2 p3 p4 p5 me ms dk ds du ++ wBA g ba b ++ wBk g (b j) b1 (va_cpy dk bv (pg * 4) (pg * 4) 4) pr 1 st cp sy (pg + 1)) := zD
  refine lv_iload_n zx zb d_X_copy_53 rfl (lv_at zl 0 rfl) ?_
  exact ct_iret zQ zx zb zr zk zP zD zS d_X_copy_54 rfl (⟨rfl, rfl⟩)
set_option maxRecDepth 20000 in
theorem c_X_forget_n (lL : Launch) (g : Gt) (x : Nat) (l0 : Nat) (t0 : Nat) (p0 : Nat) (ba : Nat) (h0 : Nat) (r0 : Nat) (un : Int32) (j : Int32) (hj : j < 0) : Ct lL g y_X_forget (.code y_X_forget b_X_forget 2 (some .boolean)) 6 200 [.ref x, .int j] (wX g x l0 t0 p0 ba h0 r0 un) (exP (some (.int (nI 0))) (wX g x l0 t0 p0 ba h0 r0 un)) := by
  refine Ct.ofW (by decide) (Nat.le_of_ble_eq_true rfl) ?_
  intro pX eX sX mX aX bX tX cX AX lsX HX oX QX zx zb zr zk zm zo zg zK zP zD zA zS zQ zl
  have zo : sX.vm.findClass R_X = some mX.cls := zo
  have zl : lv_has lsX 2 [(0, .ref x), (1, .int j)] := zl
  refine lv_aload_n zx zb d_X_forget_0 rfl (lv_at zl 0 rfl) ?_
  refine lv_iload_n zx zb d_X_forget_1 rfl (lv_at zl 1 rfl) ?_
  refine ct_V (ws' := wX g x l0 t0 p0 ba h0 r0 un) (rest := []) (st1 := [.int (nI 0)]) zx zb zm zo zg zK zP zD zS zA zl.1 (c_X_isFin_n lL g x l0 t0 p0 ba h0 r0 un j hj) ok_X_isFinishedBackup ov_X_isFinishedBackup ml_X_138 (by decide) 0 0 rfl rfl rfl [0] [] 1 (by decide) rfl rfl rfl rfl (by decide) rfl rfl rfl (Nat.le_of_ble_eq_true rfl) d_X_forget_2 (fun HX oX zP zD zS => ?_)
  refine wn_ine_F (tgt := 10) zx zb d_X_forget_5 (by decide) (by omega) (by omega) ?_
  refine lv_iconst (v := (nI 0)) zx zb d_X_forget_8 (by decide) ?_
  exact ct_zret zQ zx zb zr zk zP zD zS d_X_forget_9 rfl (by decide) (⟨rfl, rfl⟩)
set_option maxRecDepth 20000 in
theorem c_X_forget_g (lL : Launch) (g : Gt) (x : Nat) (l0 : Nat) (t0 : Nat) (p0 : Nat) (ba : Nat) (h0 : Nat) (r0 : Nat) (un : Int32) (j : Nat) (hj : 3 ≤ j) (hj2 : j < 2147483648) : Ct lL g y_X_forget (.code y_X_forget b_X_forget 2 (some .boolean)) 6 200 [.ref x, .int (nI j)] (wX g x l0 t0 p0 ba h0 r0 un) (exP (some (.int (nI 0))) (wX g x l0 t0 p0 ba h0 r0 un)) := by
  refine Ct.ofW (by decide) (Nat.le_of_ble_eq_true rfl) ?_
  intro pX eX sX mX aX bX tX cX AX lsX HX oX QX zx zb zr zk zm zo zg zK zP zD zA zS zQ zl
  have zo : sX.vm.findClass R_X = some mX.cls := zo
  have zl : lv_has lsX 2 [(0, .ref x), (1, .int (nI j))] := zl
  refine lv_aload_n zx zb d_X_forget_0 rfl (lv_at zl 0 rfl) ?_
  refine lv_iload_n zx zb d_X_forget_1 rfl (lv_at zl 1 rfl) ?_
  refine ct_V (ws' := wX g x l0 t0 p0 ba h0 r0 un) (rest := []) (st1 := [.int (nI 0)]) zx zb zm zo zg zK zP zD zS zA zl.1 (c_X_isFin_g lL g x l0 t0 p0 ba h0 r0 un j (by omega) (by omega)) ok_X_isFinishedBackup ov_X_isFinishedBackup ml_X_138 (by decide) 0 0 rfl rfl rfl [0] [] 1 (by decide) rfl rfl rfl rfl (by decide) rfl rfl rfl (Nat.le_of_ble_eq_true rfl) d_X_forget_2 (fun HX oX zP zD zS => ?_)
  refine wn_ine_F (tgt := 10) zx zb d_X_forget_5 (by decide) (by omega) (by omega) ?_
  refine lv_iconst (v := (nI 0)) zx zb d_X_forget_8 (by decide) ?_
  exact ct_zret zQ zx zb zr zk zP zD zS d_X_forget_9 rfl (by decide) (⟨rfl, rfl⟩)
set_option maxRecDepth 20000 in
theorem c_X_forget_f (lL : Launch) (g : Gt) (x : Nat) (l0 : Nat) (t0 : Nat) (p0 : Nat) (ba : Nat) (h0 : Nat) (r0 : Nat) (un : Int32) (b : Nat → Nat) (b1 : Nat) (bv : Nat → Int32) (pr : Nat) (fi : Nat) (st : Nat) (cp : Nat) (en : Nat) (pg : Nat) (j : Nat) (hj : j < 3) (hfi : fi = 0) : Ct lL g y_X_forget (.code y_X_forget b_X_forget 2 (some .boolean)) 6 200 [.ref x, .int (nI j)] (wX g x l0 t0 p0 ba h0 r0 un ++ wBA g ba b ++ wBk g (b j) b1 bv pr fi st cp en pg) (exP (some (.int (nI 0))) (wX g x l0 t0 p0 ba h0 r0 un ++ wBA g ba b ++ wBk g (b j) b1 bv pr fi st cp en pg)) := by
  refine Ct.ofW (by decide) (Nat.le_of_ble_eq_true rfl) ?_
  intro pX eX sX mX aX bX tX cX AX lsX HX oX QX zx zb zr zk zm zo zg zK zP zD zA zS zQ zl
  have zo : sX.vm.findClass R_X = some mX.cls := zo
  have zl : lv_has lsX 2 [(0, .ref x), (1, .int (nI j))] := zl
  refine lv_aload_n zx zb d_X_forget_0 rfl (lv_at zl 0 rfl) ?_
  refine lv_iload_n zx zb d_X_forget_1 rfl (lv_at zl 1 rfl) ?_
  refine ct_V (ws' := wX g x l0 t0 p0 ba h0 r0 un ++ wBA g ba b ++ wBk g (b j) b1 bv pr fi st cp en pg) (rest := []) (st1 := [.int (nI 0)]) zx zb zm zo zg zK zP zD zS zA zl.1 (c_X_isFin_f lL g x l0 t0 p0 ba h0 r0 un b b1 bv pr fi st cp en pg j (by omega) (by omega)) ok_X_isFinishedBackup ov_X_isFinishedBackup ml_X_138 (by decide) 0 0 rfl rfl rfl [0, 1, 2, 3] [] 4 (by decide) rfl rfl rfl rfl (by decide) rfl rfl rfl (Nat.le_of_ble_eq_true rfl) d_X_forget_2 (fun HX oX zP zD zS => ?_)
  refine wn_ine_F (tgt := 10) zx zb d_X_forget_5 (by decide) (by omega) (by omega) ?_
  refine lv_iconst (v := (nI 0)) zx zb d_X_forget_8 (by decide) ?_
  exact ct_zret zQ zx zb zr zk zP zD zS d_X_forget_9 rfl (by decide) (⟨rfl, rfl⟩)
set_option maxRecDepth 20000 in
theorem c_X_forget_t (lL : Launch) (g : Gt) (x : Nat) (l0 : Nat) (t0 : Nat) (p0 : Nat) (ba : Nat) (h0 : Nat) (r0 : Nat) (un : Int32) (b : Nat → Nat) (b1 : Nat) (bv : Nat → Int32) (pr : Nat) (fi : Nat) (st : Nat) (cp : Nat) (en : Nat) (pg : Nat) (j : Nat) (hj : j < 3) (hfi : fi = 1) : Ct lL g y_X_forget (.code y_X_forget b_X_forget 2 (some .boolean)) 6 200 [.ref x, .int (nI j)] (wX g x l0 t0 p0 ba h0 r0 un ++ wBA g ba b ++ wBk g (b j) b1 bv pr fi st cp en pg) (exP (some (.int (nI 1))) (wX g x l0 t0 p0 ba h0 r0 un ++ wBA g ba b ++ wBk g (b j) b1 bv 0 0 st cp en pg)) := by
  refine Ct.ofW (by decide) (Nat.le_of_ble_eq_true rfl) ?_
  intro pX eX sX mX aX bX tX cX AX lsX HX oX QX zx zb zr zk zm zo zg zK zP zD zA zS zQ zl
  have zo : sX.vm.findClass R_X = some mX.cls := zo
  have zl : lv_has lsX 2 [(0, .ref x), (1, .int (nI j))] := zl
  refine lv_aload_n zx zb d_X_forget_0 rfl (lv_at zl 0 rfl) ?_
  refine lv_iload_n zx zb d_X_forget_1 rfl (lv_at zl 1 rfl) ?_
  refine ct_V (ws' := wX g x l0 t0 p0 ba h0 r0 un ++ wBA g ba b ++ wBk g (b j) b1 bv pr fi st cp en pg) (rest := []) (st1 := [.int (nI 1)]) zx zb zm zo zg zK zP zD zS zA zl.1 (c_X_isFin_t lL g x l0 t0 p0 ba h0 r0 un b b1 bv pr fi st cp en pg j (by omega) (by omega)) ok_X_isFinishedBackup ov_X_isFinishedBackup ml_X_138 (by decide) 0 0 rfl rfl rfl [0, 1, 2, 3] [] 4 (by decide) rfl rfl rfl rfl (by decide) rfl rfl rfl (Nat.le_of_ble_eq_true rfl) d_X_forget_2 (fun HX oX zP zD zS => ?_)
  refine wn_ine_T (tgt := 10) zx zb d_X_forget_5 (by decide) (by omega) (by omega) ?_
  refine lv_aload_n zx zb d_X_forget_10 rfl (lv_at zl 0 rfl) ?_
  refine wv_get zx zb zg hin_X rfl zo zK zP 0 rfl 3 (by decide) rfl fl_X_46 rfl d_X_forget_11 ?_
  refine lv_iload_n zx zb d_X_forget_14 rfl (lv_at zl 1 rfl) ?_
  refine wv_aald (v := b j) zx zb zK zP 1 rfl rfl (by omega) (by decide) d_X_forget_15 ?_
  refine ct_V (ws' := wX g x l0 t0 p0 ba h0 r0 un ++ wBA g ba b ++ wBk g (b j) b1 bv 0 0 st cp en pg) (rest := []) (st1 := []) zx zb zm zo zg zK zP zD zS zA zl.1 (c_Bk_remove lL g (b j) b1 bv pr fi st cp en pg) ok_Bk_remove ov_Bk_remove ml_X_118 (by decide) 2 4 rfl rfl rfl [2, 3] [0, 1] 4 (by decide) rfl rfl rfl rfl (by decide) rfl rfl rfl (Nat.le_of_ble_eq_true rfl) d_X_forget_16 (fun HX oX zP zD zS => ?_)
  refine lv_iconst (v := (nI 1)) zx zb d_X_forget_19 (by decide) ?_
  exact ct_zret zQ zx zb zr zk zP zD zS d_X_forget_20 rfl (by decide) (⟨rfl, rfl⟩)
set_option maxRecDepth 20000 in
theorem c_X_bound_n (lL : Launch) (g : Gt) (x : Nat) (l0 : Nat) (t0 : Nat) (p0 : Nat) (ba : Nat) (h0 : Nat) (r0 : Nat) (un : Int32) (j : Int32) (wh : Int32) (hj : j < 0) : Ct lL g y_X_bound (.code y_X_bound b_X_bound 3 (some .int)) 6 200 [.ref x, .int j, .int wh] (wX g x l0 t0 p0 ba h0 r0 un) (exP (some (.int (-1))) (wX g x l0 t0 p0 ba h0 r0 un)) := by
  refine Ct.ofW (by decide) (Nat.le_of_ble_eq_true rfl) ?_
  intro pX eX sX mX aX bX tX cX AX lsX HX oX QX zx zb zr zk zm zo zg zK zP zD zA zS zQ zl
  have zo : sX.vm.findClass R_X = some mX.cls := zo
  have zl : lv_has lsX 3 [(0, .ref x), (1, .int j), (2, .int wh)] := zl
  refine lv_aload_n zx zb d_X_bound_0 rfl (lv_at zl 0 rfl) ?_
  refine lv_iload_n zx zb d_X_bound_1 rfl (lv_at zl 1 rfl) ?_
  refine ct_V (ws' := wX g x l0 t0 p0 ba h0 r0 un) (rest := []) (st1 := [.int (nI 0)]) zx zb zm zo zg zK zP zD zS zA zl.1 (c_X_isFin_n lL g x l0 t0 p0 ba h0 r0 un j hj) ok_X_isFinishedBackup ov_X_isFinishedBackup ml_X_138 (by decide) 0 0 rfl rfl rfl [0] [] 1 (by decide) rfl rfl rfl rfl (by decide) rfl rfl rfl (Nat.le_of_ble_eq_true rfl) d_X_bound_2 (fun HX oX zP zD zS => ?_)
  refine wn_ine_F (tgt := 10) zx zb d_X_bound_5 (by decide) (by omega) (by omega) ?_
  refine lv_iconst (v := (-1)) zx zb d_X_bound_8 (by decide) ?_
  exact ct_iret zQ zx zb zr zk zP zD zS d_X_bound_9 rfl (⟨rfl, rfl⟩)
set_option maxRecDepth 20000 in
theorem c_X_bound_g (lL : Launch) (g : Gt) (x : Nat) (l0 : Nat) (t0 : Nat) (p0 : Nat) (ba : Nat) (h0 : Nat) (r0 : Nat) (un : Int32) (j : Nat) (wh : Int32) (hj : 3 ≤ j) (hj2 : j < 2147483648) : Ct lL g y_X_bound (.code y_X_bound b_X_bound 3 (some .int)) 6 200 [.ref x, .int (nI j), .int wh] (wX g x l0 t0 p0 ba h0 r0 un) (exP (some (.int (-1))) (wX g x l0 t0 p0 ba h0 r0 un)) := by
  refine Ct.ofW (by decide) (Nat.le_of_ble_eq_true rfl) ?_
  intro pX eX sX mX aX bX tX cX AX lsX HX oX QX zx zb zr zk zm zo zg zK zP zD zA zS zQ zl
  have zo : sX.vm.findClass R_X = some mX.cls := zo
  have zl : lv_has lsX 3 [(0, .ref x), (1, .int (nI j)), (2, .int wh)] := zl
  refine lv_aload_n zx zb d_X_bound_0 rfl (lv_at zl 0 rfl) ?_
  refine lv_iload_n zx zb d_X_bound_1 rfl (lv_at zl 1 rfl) ?_
  refine ct_V (ws' := wX g x l0 t0 p0 ba h0 r0 un) (rest := []) (st1 := [.int (nI 0)]) zx zb zm zo zg zK zP zD zS zA zl.1 (c_X_isFin_g lL g x l0 t0 p0 ba h0 r0 un j (by omega) (by omega)) ok_X_isFinishedBackup ov_X_isFinishedBackup ml_X_138 (by decide) 0 0 rfl rfl rfl [0] [] 1 (by decide) rfl rfl rfl rfl (by decide) rfl rfl rfl (Nat.le_of_ble_eq_true rfl) d_X_bound_2 (fun HX oX zP zD zS => ?_)
  refine wn_ine_F (tgt := 10) zx zb d_X_bound_5 (by decide) (by omega) (by omega) ?_
  refine lv_iconst (v := (-1)) zx zb d_X_bound_8 (by decide) ?_
  exact ct_iret zQ zx zb zr zk zP zD zS d_X_bound_9 rfl (⟨rfl, rfl⟩)
set_option maxRecDepth 20000 in
theorem c_X_bound_f (lL : Launch) (g : Gt) (x : Nat) (l0 : Nat) (t0 : Nat) (p0 : Nat) (ba : Nat) (h0 : Nat) (r0 : Nat) (un : Int32) (b : Nat → Nat) (b1 : Nat) (bv : Nat → Int32) (pr : Nat) (fi : Nat) (st : Nat) (cp : Nat) (en : Nat) (pg : Nat) (j : Nat) (wh : Int32) (hj : j < 3) (hfi : fi = 0) : Ct lL g y_X_bound (.code y_X_bound b_X_bound 3 (some .int)) 6 200 [.ref x, .int (nI j), .int wh] (wX g x l0 t0 p0 ba h0 r0 un ++ wBA g ba b ++ wBk g (b j) b1 bv pr fi st cp en pg) (exP (some (.int (-1))) (wX g x l0 t0 p0 ba h0 r0 un ++ wBA g ba b ++ wBk g (b j) b1 bv pr fi st cp en pg)) := by
  refine Ct.ofW (by decide) (Nat.le_of_ble_eq_true rfl) ?_
  intro pX eX sX mX aX bX tX cX AX lsX HX oX QX zx zb zr zk zm zo zg zK zP zD zA zS zQ zl
  have zo : sX.vm.findClass R_X = some mX.cls := zo
  have zl : lv_has lsX 3 [(0, .ref x), (1, .int (nI j)), (2, .int wh)] := zl
  refine lv_aload_n zx zb d_X_bound_0 rfl (lv_at zl 0 rfl) ?_
  refine lv_iload_n zx zb d_X_bound_1 rfl (lv_at zl 1 rfl) ?_
  refine ct_V (ws' := wX g x l0 t0 p0 ba h0 r0 un ++ wBA g ba b ++ wBk g (b j) b1 bv pr fi st cp en pg) (rest := []) (st1 := [.int (nI 0)]) zx zb zm zo zg zK zP zD zS zA zl.1 (c_X_isFin_f lL g x l0 t0 p0 ba h0 r0 un b b1 bv pr fi st cp en pg j (by omega) (by omega)) ok_X_isFinishedBackup ov_X_isFinishedBackup ml_X_138 (by decide) 0 0 rfl rfl rfl [0, 1, 2, 3] [] 4 (by decide) rfl rfl rfl rfl (by decide) rfl rfl rfl (Nat.le_of_ble_eq_true rfl) d_X_bound_2 (fun HX oX zP zD zS => ?_)
  refine wn_ine_F (tgt := 10) zx zb d_X_bound_5 (by decide) (by omega) (by omega) ?_
  refine lv_iconst (v := (-1)) zx zb d_X_bound_8 (by decide) ?_
  exact ct_iret zQ zx zb zr zk zP zD zS d_X_bound_9 rfl (⟨rfl, rfl⟩)
set_option maxRecDepth 20000 in
theorem c_X_bound_0 (lL : Launch) (g : Gt) (x : Nat) (l0 : Nat) (t0 : Nat) (p0 : Nat) (ba : Nat) (h0 : Nat) (r0 : Nat) (un : Int32) (b : Nat → Nat) (b1 : Nat) (bv : Nat → Int32) (pr : Nat) (fi : Nat) (st : Nat) (cp : Nat) (en : Nat) (pg : Nat) (j : Nat) (hj : j < 3) (hfi : fi = 1) : Ct lL g y_X_bound (.code y_X_bound b_X_bound 3 (some .int)) 6 200 [.ref x, .int (nI j), .int (nI 0)] (wX g x l0 t0 p0 ba h0 r0 un ++ wBA g ba b ++ wBk g (b j) b1 bv pr fi st cp en pg) (exP (some (.int (nI st))) (wX g x l0 t0 p0 ba h0 r0 un ++ wBA g ba b ++ wBk g (b j) b1 bv pr fi st cp en pg)) := by
  refine Ct.ofW (by decide) (Nat.le_of_ble_eq_true rfl) ?_
  intro pX eX sX mX aX bX tX cX AX lsX HX oX QX zx zb zr zk zm zo zg zK zP zD zA zS zQ zl
  have zo : sX.vm.findClass R_X = some mX.cls := zo
  have zl : lv_has lsX 3 [(0, .ref x), (1, .int (nI j)), (2, .int (nI 0))] := zl
  refine lv_aload_n zx zb d_X_bound_0 rfl (lv_at zl 0 rfl) ?_
  refine lv_iload_n zx zb d_X_bound_1 rfl (lv_at zl 1 rfl) ?_
  refine ct_V (ws' := wX g x l0 t0 p0 ba h0 r0 un ++ wBA g ba b ++ wBk g (b j) b1 bv pr fi st cp en pg) (rest := []) (st1 := [.int (nI 1)]) zx zb zm zo zg zK zP zD zS zA zl.1 (c_X_isFin_t lL g x l0 t0 p0 ba h0 r0 un b b1 bv pr fi st cp en pg j (by omega) (by omega)) ok_X_isFinishedBackup ov_X_isFinishedBackup ml_X_138 (by decide) 0 0 rfl rfl rfl [0, 1, 2, 3] [] 4 (by decide) rfl rfl rfl rfl (by decide) rfl rfl rfl (Nat.le_of_ble_eq_true rfl) d_X_bound_2 (fun HX oX zP zD zS => ?_)
  refine wn_ine_T (tgt := 10) zx zb d_X_bound_5 (by decide) (by omega) (by omega) ?_
  refine lv_iload_n zx zb d_X_bound_10 rfl (lv_at zl 2 rfl) ?_
  refine lv_lookup (tgt := 36) (off := 25) zx zb d_X_bound_11 (by decide) (by decide) (by decide) ?_
  refine lv_aload_n zx zb d_X_bound_36 rfl (lv_at zl 0 rfl) ?_
  refine wv_get zx zb zg hin_X rfl zo zK zP 0 rfl 3 (by decide) rfl fl_X_46 rfl d_X_bound_37 ?_
  refine lv_iload_n zx zb d_X_bound_40 rfl (lv_at zl 1 rfl) ?_
  refine wv_aald (v := b j) zx zb zK zP 1 rfl rfl (by omega) (by decide) d_X_bound_41 ?_
  refine wv_get zx zb zg hin_Bk rfl zo zK zP 2 rfl 3 (by decide) rfl fl_X_141 rfl d_X_bound_42 ?_
  exact ct_iret zQ zx zb zr zk zP zD zS d_X_bound_45 rfl (⟨rfl, rfl⟩)
set_option maxRecDepth 20000 in
theorem c_X_bound_1 (lL : Launch) (g : Gt) (x : Nat) (l0 : Nat) (t0 : Nat) (p0 : Nat) (ba : Nat) (h0 : Nat) (r0 : Nat) (un : Int32) (b : Nat → Nat) (b1 : Nat) (bv : Nat → Int32) (pr : Nat) (fi : Nat) (st : Nat) (cp : Nat) (en : Nat) (pg : Nat) (j : Nat) (hj : j < 3) (hfi : fi = 1) : Ct lL g y_X_bound (.code y_X_bound b_X_bound 3 (some .int)) 6 200 [.ref x, .int (nI j), .int (nI 1)] (wX g x l0 t0 p0 ba h0 r0 un ++ wBA g ba b ++ wBk g (b j) b1 bv pr fi st cp en pg) (exP (some (.int (nI en))) (wX g x l0 t0 p0 ba h0 r0 un ++ wBA g ba b ++ wBk g (b j) b1 bv pr fi st cp en pg)) := by
  refine Ct.ofW (by decide) (Nat.le_of_ble_eq_true rfl) ?_
  intro pX eX sX mX aX bX tX cX AX lsX HX oX QX zx zb zr zk zm zo zg zK zP zD zA zS zQ zl
  have zo : sX.vm.findClass R_X = some mX.cls := zo
  have zl : lv_has lsX 3 [(0, .ref x), (1, .int (nI j)), (2, .int (nI 1))] := zl
  refine lv_aload_n zx zb d_X_bound_0 rfl (lv_at zl 0 rfl) ?_
  refine lv_iload_n zx zb d_X_bound_1 rfl (lv_at zl 1 rfl) ?_
  refine ct_V (ws' := wX g x l0 t0 p0 ba h0 r0 un ++ wBA g ba b ++ wBk g (b j) b1 bv pr fi st cp en pg) (rest := []) (st1 := [.int (nI 1)]) zx zb zm zo zg zK zP zD zS zA zl.1 (c_X_isFin_t lL g x l0 t0 p0 ba h0 r0 un b b1 bv pr fi st cp en pg j (by omega) (by omega)) ok_X_isFinishedBackup ov_X_isFinishedBackup ml_X_138 (by decide) 0 0 rfl rfl rfl [0, 1, 2, 3] [] 4 (by decide) rfl rfl rfl rfl (by decide) rfl rfl rfl (Nat.le_of_ble_eq_true rfl) d_X_bound_2 (fun HX oX zP zD zS => ?_)
  refine wn_ine_T (tgt := 10) zx zb d_X_bound_5 (by decide) (by omega) (by omega) ?_
  refine lv_iload_n zx zb d_X_bound_10 rfl (lv_at zl 2 rfl) ?_
  refine lv_lookup (tgt := 46) (off := 35) zx zb d_X_bound_11 (by decide) (by decide) (by decide) ?_
  refine lv_aload_n zx zb d_X_bound_46 rfl (lv_at zl 0 rfl) ?_
  refine wv_get zx zb zg hin_X rfl zo zK zP 0 rfl 3 (by decide) rfl fl_X_46 rfl d_X_bound_47 ?_
  refine lv_iload_n zx zb d_X_bound_50 rfl (lv_at zl 1 rfl) ?_
  refine wv_aald (v := b j) zx zb zK zP 1 rfl rfl (by omega) (by decide) d_X_bound_51 ?_
  refine wv_get zx zb zg hin_Bk rfl zo zK zP 2 rfl 5 (by decide) rfl fl_X_144 rfl d_X_bound_52 ?_
  exact ct_iret zQ zx zb zr zk zP zD zS d_X_bound_55 rfl (⟨rfl, rfl⟩)
set_option maxRecDepth 20000 in
theorem c_X_bound_x (lL : Launch) (g : Gt) (x : Nat) (l0 : Nat) (t0 : Nat) (p0 : Nat) (ba : Nat) (h0 : Nat) (r0 : Nat) (un : Int32) (b : Nat → Nat) (b1 : Nat) (bv : Nat → Int32) (pr : Nat) (fi : Nat) (st : Nat) (cp : Nat) (en : Nat) (pg : Nat) (j : Nat) (wh : Int32) (hj : j < 3) (hfi : fi = 1) (hw0 : ¬ wh = 0) (hw1 : ¬ wh = 1) : Ct lL g y_X_bound (.code y_X_bound b_X_bound 3 (some .int)) 6 200 [.ref x, .int (nI j), .int wh] (wX g x l0 t0 p0 ba h0 r0 un ++ wBA g ba b ++ wBk g (b j) b1 bv pr fi st cp en pg) (exP (some (.int (-1))) (wX g x l0 t0 p0 ba h0 r0 un ++ wBA g ba b ++ wBk g (b j) b1 bv pr fi st cp en pg)) := by
  refine Ct.ofW (by decide) (Nat.le_of_ble_eq_true rfl) ?_
  intro pX eX sX mX aX bX tX cX AX lsX HX oX QX zx zb zr zk zm zo zg zK zP zD zA zS zQ zl
  have zo : sX.vm.findClass R_X = some mX.cls := zo
  have zl : lv_has lsX 3 [(0, .ref x), (1, .int (nI j)), (2, .int wh)] := zl
  refine lv_aload_n zx zb d_X_bound_0 rfl (lv_at zl 0 rfl) ?_
  refine lv_iload_n zx zb d_X_bound_1 rfl (lv_at zl 1 rfl) ?_
  refine ct_V (ws' := wX g x l0 t0 p0 ba h0 r0 un ++ wBA g ba b ++ wBk g (b j) b1 bv pr fi st cp en pg) (rest := []) (st1 := [.int (nI 1)]) zx zb zm zo zg zK zP zD zS zA zl.1 (c_X_isFin_t lL g x l0 t0 p0 ba h0 r0 un b b1 bv pr fi st cp en pg j (by omega) (by omega)) ok_X_isFinishedBackup ov_X_isFinishedBackup ml_X_138 (by decide) 0 0 rfl rfl rfl [0, 1, 2, 3] [] 4 (by decide) rfl rfl rfl rfl (by decide) rfl rfl rfl (Nat.le_of_ble_eq_true rfl) d_X_bound_2 (fun HX oX zP zD zS => ?_)
  refine wn_ine_T (tgt := 10) zx zb d_X_bound_5 (by decide) (by omega) (by omega) ?_
  refine lv_iload_n zx zb d_X_bound_10 rfl (lv_at zl 2 rfl) ?_
  refine lv_lookup (tgt := 56) (off := 45) zx zb d_X_bound_11 (by decide) (by rw [lv_osw hw0 (by decide), lv_osw hw1 (by decide)]; rfl) (by decide) ?_
  refine lv_iconst (v := (-1)) zx zb d_X_bound_56 (by decide) ?_
  exact ct_iret zQ zx zb zr zk zP zD zS d_X_bound_57 rfl (⟨rfl, rfl⟩)
set_option maxRecDepth 20000 in
theorem c_X_archive_e (lL : Launch) (g : Gt) (x : Nat) (l0 : Nat) (t0 : Nat) (p0 : Nat) (ba : Nat) (h0 : Nat) (r0 : Nat) (un : Int32) (l1 : Nat) (l2 : Nat) (l3 : Nat) (l4 : Nat) (k : Nat → Nat) (o : Nat → Nat) (ke : Nat → Nat) (va : Nat → Int32) (n : Nat) (sy : Nat) (h1 : Nat) (hd : Nat → Nat) (hc : Nat) (nx : Nat) (hnx : nx = 64) : Ct lL g y_X_archive (.code y_X_archive b_X_archive 1 (some .int)) 6 200 [.ref x] (wX g x l0 t0 p0 ba h0 r0 un ++ wLog g l0 l1 l2 l3 l4 k o ke va n sy ++ wAr g h0 h1 hd hc nx) (exP (some (.int (-3))) (wX g x l0 t0 p0 ba h0 r0 un ++ wLog g l0 l1 l2 l3 l4 k o ke va n sy ++ wAr g h0 h1 hd hc nx)) := by
  refine Ct.ofW (by decide) (Nat.le_of_ble_eq_true rfl) ?_
  intro pX eX sX mX aX bX tX cX AX lsX HX oX QX zx zb zr zk zm zo zg zK zP zD zA zS zQ zl
  have zo : sX.vm.findClass R_X = some mX.cls := zo
  have zl : lv_has lsX 1 [(0, .ref x)] := zl
  refine lv_aload_n zx zb d_X_archive_0 rfl (lv_at zl 0 rfl) ?_
  refine wv_get zx zb zg hin_X rfl zo zK zP 0 rfl 4 (by decide) rfl fl_X_33 rfl d_X_archive_1 ?_
  refine lv_aload_n zx zb d_X_archive_4 rfl (lv_at zl 0 rfl) ?_
  refine wv_get zx zb zg hin_X rfl zo zK zP 0 rfl 0 (by decide) rfl fl_X_12 rfl d_X_archive_5 ?_
  refine wv_get zx zb zg hin_Log rfl zo zK zP 1 rfl 5 (by decide) rfl fl_X_112 rfl d_X_archive_8 ?_
  refine ct_V (ws' := wX g x l0 t0 p0 ba h0 r0 un ++ wLog g l0 l1 l2 l3 l4 k o ke va n sy ++ wAr g h0 h1 hd hc nx) (rest := []) (st1 := [.int (nI 0)]) zx zb zm zo zg zK zP zD zS zA zl.1 (c_Ar_within_e lL g h0 h1 hd hc nx sy (by omega)) ok_Ar_nextIsWithin ov_Ar_nextIsWithin ml_X_147 (by decide) 6 5 rfl rfl rfl [6, 7] [0, 1, 2, 3, 4, 5] 8 (by decide) rfl rfl rfl rfl (by decide) rfl rfl rfl (Nat.le_of_ble_eq_true rfl) d_X_archive_11 (fun HX oX zP zD zS => ?_)
  refine wn_ine_F (tgt := 20) zx zb d_X_archive_14 (by decide) (by omega) (by omega) ?_
  refine lv_bipush (v := (-3)) zx zb d_X_archive_17 (by decide) ?_
  exact ct_iret zQ zx zb zr zk zP zD zS d_X_archive_19 rfl (⟨rfl, rfl⟩)
set_option maxRecDepth 20000 in
theorem c_X_archive_n (lL : Launch) (g : Gt) (x : Nat) (l0 : Nat) (t0 : Nat) (p0 : Nat) (ba : Nat) (h0 : Nat) (r0 : Nat) (un : Int32) (l1 : Nat) (l2 : Nat) (l3 : Nat) (l4 : Nat) (k : Nat → Nat) (o : Nat → Nat) (ke : Nat → Nat) (va : Nat → Int32) (n : Nat) (sy : Nat) (h1 : Nat) (hd : Nat → Nat) (hc : Nat) (nx : Nat) (hs : sy ≤ 512) (hnx : nx < 64) (hw : sy < (nx + 1) * 8) : Ct lL g y_X_archive (.code y_X_archive b_X_archive 1 (some .int)) 6 200 [.ref x] (wX g x l0 t0 p0 ba h0 r0 un ++ wLog g l0 l1 l2 l3 l4 k o ke va n sy ++ wAr g h0 h1 hd hc nx) (exP (some (.int (-3))) (wX g x l0 t0 p0 ba h0 r0 un ++ wLog g l0 l1 l2 l3 l4 k o ke va n sy ++ wAr g h0 h1 hd hc nx)) := by
  refine Ct.ofW (by decide) (Nat.le_of_ble_eq_true rfl) ?_
  intro pX eX sX mX aX bX tX cX AX lsX HX oX QX zx zb zr zk zm zo zg zK zP zD zA zS zQ zl
  have zo : sX.vm.findClass R_X = some mX.cls := zo
  have zl : lv_has lsX 1 [(0, .ref x)] := zl
  refine lv_aload_n zx zb d_X_archive_0 rfl (lv_at zl 0 rfl) ?_
  refine wv_get zx zb zg hin_X rfl zo zK zP 0 rfl 4 (by decide) rfl fl_X_33 rfl d_X_archive_1 ?_
  refine lv_aload_n zx zb d_X_archive_4 rfl (lv_at zl 0 rfl) ?_
  refine wv_get zx zb zg hin_X rfl zo zK zP 0 rfl 0 (by decide) rfl fl_X_12 rfl d_X_archive_5 ?_
  refine wv_get zx zb zg hin_Log rfl zo zK zP 1 rfl 5 (by decide) rfl fl_X_112 rfl d_X_archive_8 ?_
  refine ct_V (ws' := wX g x l0 t0 p0 ba h0 r0 un ++ wLog g l0 l1 l2 l3 l4 k o ke va n sy ++ wAr g h0 h1 hd hc nx) (rest := []) (st1 := [.int (nI 0)]) zx zb zm zo zg zK zP zD zS zA zl.1 (c_Ar_within_f lL g h0 h1 hd hc nx sy (by omega) (by omega) (by omega)) ok_Ar_nextIsWithin ov_Ar_nextIsWithin ml_X_147 (by decide) 6 5 rfl rfl rfl [6, 7] [0, 1, 2, 3, 4, 5] 8 (by decide) rfl rfl rfl rfl (by decide) rfl rfl rfl (Nat.le_of_ble_eq_true rfl) d_X_archive_11 (fun HX oX zP zD zS => ?_)
  refine wn_ine_F (tgt := 20) zx zb d_X_archive_14 (by decide) (by omega) (by omega) ?_
  refine lv_bipush (v := (-3)) zx zb d_X_archive_17 (by decide) ?_
  exact ct_iret zQ zx zb zr zk zP zD zS d_X_archive_19 rfl (⟨rfl, rfl⟩)
set_option maxRecDepth 20000 in
theorem c_X_archive_f (lL : Launch) (g : Gt) (x : Nat) (l0 : Nat) (t0 : Nat) (p0 : Nat) (ba : Nat) (h0 : Nat) (r0 : Nat) (un : Int32) (l1 : Nat) (l2 : Nat) (l3 : Nat) (l4 : Nat) (k : Nat → Nat) (o : Nat → Nat) (ke : Nat → Nat) (va : Nat → Int32) (n : Nat) (sy : Nat) (h1 : Nat) (hd : Nat → Nat) (hc : Nat) (nx : Nat) (hs : sy ≤ 512) (hw : (nx + 1) * 8 ≤ sy) (hh : hc = 10) : Ct lL g y_X_archive (.code y_X_archive b_X_archive 1 (some .int)) 6 200 [.ref x] (wX g x l0 t0 p0 ba h0 r0 un ++ wLog g l0 l1 l2 l3 l4 k o ke va n sy ++ wAr g h0 h1 hd hc nx) (exP (some (.int (-2))) (wX g x l0 t0 p0 ba h0 r0 un ++ wLog g l0 l1 l2 l3 l4 k o ke va n sy ++ wAr g h0 h1 hd hc nx)) := by
  refine Ct.ofW (by decide) (Nat.le_of_ble_eq_true rfl) ?_
  intro pX eX sX mX aX bX tX cX AX lsX HX oX QX zx zb zr zk zm zo zg zK zP zD zA zS zQ zl
  have zo : sX.vm.findClass R_X = some mX.cls := zo
  have zl : lv_has lsX 1 [(0, .ref x)] := zl
  refine lv_aload_n zx zb d_X_archive_0 rfl (lv_at zl 0 rfl) ?_
  refine wv_get zx zb zg hin_X rfl zo zK zP 0 rfl 4 (by decide) rfl fl_X_33 rfl d_X_archive_1 ?_
  refine lv_aload_n zx zb d_X_archive_4 rfl (lv_at zl 0 rfl) ?_
  refine wv_get zx zb zg hin_X rfl zo zK zP 0 rfl 0 (by decide) rfl fl_X_12 rfl d_X_archive_5 ?_
  refine wv_get zx zb zg hin_Log rfl zo zK zP 1 rfl 5 (by decide) rfl fl_X_112 rfl d_X_archive_8 ?_
  refine ct_V (ws' := wX g x l0 t0 p0 ba h0 r0 un ++ wLog g l0 l1 l2 l3 l4 k o ke va n sy ++ wAr g h0 h1 hd hc nx) (rest := []) (st1 := [.int (nI 1)]) zx zb zm zo zg zK zP zD zS zA zl.1 (c_Ar_within_t lL g h0 h1 hd hc nx sy (by omega) (by omega)) ok_Ar_nextIsWithin ov_Ar_nextIsWithin ml_X_147 (by decide) 6 5 rfl rfl rfl [6, 7] [0, 1, 2, 3, 4, 5] 8 (by decide) rfl rfl rfl rfl (by decide) rfl rfl rfl (Nat.le_of_ble_eq_true rfl) d_X_archive_11 (fun HX oX zP zD zS => ?_)
  refine wn_ine_T (tgt := 20) zx zb d_X_archive_14 (by decide) (by omega) (by omega) ?_
  refine lv_aload_n zx zb d_X_archive_20 rfl (lv_at zl 0 rfl) ?_
  refine wv_get zx zb zg hin_X rfl zo zK zP 0 rfl 4 (by decide) rfl fl_X_33 rfl d_X_archive_21 ?_
  refine ct_V (ws' := wX g x l0 t0 p0 ba h0 r0 un ++ wLog g l0 l1 l2 l3 l4 k o ke va n sy ++ wAr g h0 h1 hd hc nx) (rest := []) (st1 := [.int (nI 1)]) zx zb zm zo zg zK zP zD zS zA zl.1 (c_Ar_isFull_t lL g h0 h1 hd hc nx (by omega)) ok_Ar_isFull ov_Ar_isFull ml_X_150 (by decide) 6 5 rfl rfl rfl [6, 7] [0, 1, 2, 3, 4, 5] 8 (by decide) rfl rfl rfl rfl (by decide) rfl rfl rfl (Nat.le_of_ble_eq_true rfl) d_X_archive_24 (fun HX oX zP zD zS => ?_)
  refine wn_ieq_F (tgt := 33) zx zb d_X_archive_27 (by decide) (by omega) (by omega) ?_
  refine lv_bipush (v := (-2)) zx zb d_X_archive_30 (by decide) ?_
  exact ct_iret zQ zx zb zr zk zP zD zS d_X_archive_32 rfl (⟨rfl, rfl⟩)
set_option maxRecDepth 20000 in
theorem c_X_archive_t (lL : Launch) (g : Gt) (x : Nat) (l0 : Nat) (t0 : Nat) (p0 : Nat) (ba : Nat) (h0 : Nat) (r0 : Nat) (un : Int32) (l1 : Nat) (l2 : Nat) (l3 : Nat) (l4 : Nat) (k : Nat → Nat) (o : Nat → Nat) (ke : Nat → Nat) (va : Nat → Int32) (n : Nat) (sy : Nat) (h1 : Nat) (hd : Nat → Nat) (hc : Nat) (nx : Nat) (hs : sy ≤ 512) (hw : (nx + 1) * 8 ≤ sy) (hh : hc < 10) : Ct lL g y_X_archive (.code y_X_archive b_X_archive 1 (some .int)) 6 200 [.ref x] (wX g x l0 t0 p0 ba h0 r0 un ++ wLog g l0 l1 l2 l3 l4 k o ke va n sy ++ wAr g h0 h1 hd hc nx) (exP (some (.int (nI nx))) (wX g x l0 t0 p0 ba h0 r0 un ++ wLog g l0 l1 l2 l3 l4 k o ke va n sy ++ wAr g h0 h1 (va_up hd nx 1) (hc + 1) (nx + 1))) := by
  refine Ct.ofW (by decide) (Nat.le_of_ble_eq_true rfl) ?_
  intro pX eX sX mX aX bX tX cX AX lsX HX oX QX zx zb zr zk zm zo zg zK zP zD zA zS zQ zl
  have zo : sX.vm.findClass R_X = some mX.cls := zo
  have zl : lv_has lsX 1 [(0, .ref x)] := zl
  refine lv_aload_n zx zb d_X_archive_0 rfl (lv_at zl 0 rfl) ?_
  refine wv_get zx zb zg hin_X rfl zo zK zP 0 rfl 4 (by decide) rfl fl_X_33 rfl d_X_archive_1 ?_
  refine lv_aload_n zx zb d_X_archive_4 rfl (lv_at zl 0 rfl) ?_
  refine wv_get zx zb zg hin_X rfl zo zK zP 0 rfl 0 (by decide) rfl fl_X_12 rfl d_X_archive_5 ?_
  refine wv_get zx zb zg hin_Log rfl zo zK zP 1 rfl 5 (by decide) rfl fl_X_112 rfl d_X_archive_8 ?_
  refine ct_V (ws' := wX g x l0 t0 p0 ba h0 r0 un ++ wLog g l0 l1 l2 l3 l4 k o ke va n sy ++ wAr g h0 h1 hd hc nx) (rest := []) (st1 := [.int (nI 1)]) zx zb zm zo zg zK zP zD zS zA zl.1 (c_Ar_within_t lL g h0 h1 hd hc nx sy (by omega) (by omega)) ok_Ar_nextIsWithin ov_Ar_nextIsWithin ml_X_147 (by decide) 6 5 rfl rfl rfl [6, 7] [0, 1, 2, 3, 4, 5] 8 (by decide) rfl rfl rfl rfl (by decide) rfl rfl rfl (Nat.le_of_ble_eq_true rfl) d_X_archive_11 (fun HX oX zP zD zS => ?_)
  refine wn_ine_T (tgt := 20) zx zb d_X_archive_14 (by decide) (by omega) (by omega) ?_
  refine lv_aload_n zx zb d_X_archive_20 rfl (lv_at zl 0 rfl) ?_
  refine wv_get zx zb zg hin_X rfl zo zK zP 0 rfl 4 (by decide) rfl fl_X_33 rfl d_X_archive_21 ?_
  refine ct_V (ws' := wX g x l0 t0 p0 ba h0 r0 un ++ wLog g l0 l1 l2 l3 l4 k o ke va n sy ++ wAr g h0 h1 hd hc nx) (rest := []) (st1 := [.int (nI 0)]) zx zb zm zo zg zK zP zD zS zA zl.1 (c_Ar_isFull_f lL g h0 h1 hd hc nx (by omega)) ok_Ar_isFull ov_Ar_isFull ml_X_150 (by decide) 6 5 rfl rfl rfl [6, 7] [0, 1, 2, 3, 4, 5] 8 (by decide) rfl rfl rfl rfl (by decide) rfl rfl rfl (Nat.le_of_ble_eq_true rfl) d_X_archive_24 (fun HX oX zP zD zS => ?_)
  refine wn_ieq_T (tgt := 33) zx zb d_X_archive_27 (by decide) (by omega) (by omega) ?_
  refine lv_aload_n zx zb d_X_archive_33 rfl (lv_at zl 0 rfl) ?_
  refine wv_get zx zb zg hin_X rfl zo zK zP 0 rfl 4 (by decide) rfl fl_X_33 rfl d_X_archive_34 ?_
  refine ct_V (ws' := wX g x l0 t0 p0 ba h0 r0 un ++ wLog g l0 l1 l2 l3 l4 k o ke va n sy ++ wAr g h0 h1 (va_up hd nx 1) (hc + 1) (nx + 1)) (rest := []) (st1 := [.int (nI nx)]) zx zb zm zo zg zK zP zD zS zA zl.1 (c_Ar_holdNext lL g h0 h1 hd hc nx (by omega)) ok_Ar_holdNext ov_Ar_holdNext ml_X_151 (by decide) 6 5 rfl rfl rfl [6, 7] [0, 1, 2, 3, 4, 5] 8 (by decide) rfl rfl rfl rfl (by decide) rfl rfl rfl (Nat.le_of_ble_eq_true rfl) d_X_archive_37 (fun HX oX zP zD zS => ?_)
  exact ct_iret zQ zx zb zr zk zP zD zS d_X_archive_40 rfl (⟨rfl, rfl⟩)
set_option maxRecDepth 20000 in
theorem c_X_drop_t (lL : Launch) (g : Gt) (x : Nat) (l0 : Nat) (t0 : Nat) (p0 : Nat) (ba : Nat) (h0 : Nat) (r0 : Nat) (un : Int32) (h1 : Nat) (hd : Nat → Nat) (hc : Nat) (nx : Nat) (sg : Nat) (hs : sg < nx) (hnx : nx ≤ 64) (hh : hd sg = 1) (hc1 : 0 < hc) : Ct lL g y_X_drop (.code y_X_drop b_X_drop 2 (some .boolean)) 6 200 [.ref x, .int (nI sg)] (wX g x l0 t0 p0 ba h0 r0 un ++ wAr g h0 h1 hd hc nx) (exP (some (.int (nI 1))) (wX g x l0 t0 p0 ba h0 r0 un ++ wAr g h0 h1 (va_up hd sg 0) (hc - 1) nx)) := by
  refine Ct.ofW (by decide) (Nat.le_of_ble_eq_true rfl) ?_
  intro pX eX sX mX aX bX tX cX AX lsX HX oX QX zx zb zr zk zm zo zg zK zP zD zA zS zQ zl
  have zo : sX.vm.findClass R_X = some mX.cls := zo
  have zl : lv_has lsX 2 [(0, .ref x), (1, .int (nI sg))] := zl
  refine lv_aload_n zx zb d_X_drop_0 rfl (lv_at zl 0 rfl) ?_
  refine wv_get zx zb zg hin_X rfl zo zK zP 0 rfl 4 (by decide) rfl fl_X_33 rfl d_X_drop_1 ?_
  refine lv_iload_n zx zb d_X_drop_4 rfl (lv_at zl 1 rfl) ?_
  refine ct_V (ws' := wX g x l0 t0 p0 ba h0 r0 un ++ wAr g h0 h1 (va_up hd sg 0) (hc - 1) nx) (rest := []) (st1 := [.int (nI 1)]) zx zb zm zo zg zK zP zD zS zA zl.1 (c_Ar_release_t lL g h0 h1 hd hc nx sg hs (by omega) (by omega) (by omega)) ok_Ar_release ov_Ar_release ml_X_154 (by decide) 1 5 rfl rfl rfl [1, 2] [0] 3 (by decide) rfl rfl rfl rfl (by decide) rfl rfl rfl (Nat.le_of_ble_eq_true rfl) d_X_drop_5 (fun HX oX zP zD zS => ?_)
  exact ct_zret zQ zx zb zr zk zP zD zS d_X_drop_8 rfl (by decide) (⟨rfl, rfl⟩)
set_option maxRecDepth 20000 in
theorem c_X_drop_f (lL : Launch) (g : Gt) (x : Nat) (l0 : Nat) (t0 : Nat) (p0 : Nat) (ba : Nat) (h0 : Nat) (r0 : Nat) (un : Int32) (h1 : Nat) (hd : Nat → Nat) (hc : Nat) (nx : Nat) (sg : Nat) (hs : sg < nx) (hnx : nx ≤ 64) (hh : hd sg = 0) : Ct lL g y_X_drop (.code y_X_drop b_X_drop 2 (some .boolean)) 6 200 [.ref x, .int (nI sg)] (wX g x l0 t0 p0 ba h0 r0 un ++ wAr g h0 h1 hd hc nx) (exP (some (.int (nI 0))) (wX g x l0 t0 p0 ba h0 r0 un ++ wAr g h0 h1 hd hc nx)) := by
  refine Ct.ofW (by decide) (Nat.le_of_ble_eq_true rfl) ?_
  intro pX eX sX mX aX bX tX cX AX lsX HX oX QX zx zb zr zk zm zo zg zK zP zD zA zS zQ zl
  have zo : sX.vm.findClass R_X = some mX.cls := zo
  have zl : lv_has lsX 2 [(0, .ref x), (1, .int (nI sg))] := zl
  refine lv_aload_n zx zb d_X_drop_0 rfl (lv_at zl 0 rfl) ?_
  refine wv_get zx zb zg hin_X rfl zo zK zP 0 rfl 4 (by decide) rfl fl_X_33 rfl d_X_drop_1 ?_
  refine lv_iload_n zx zb d_X_drop_4 rfl (lv_at zl 1 rfl) ?_
  refine ct_V (ws' := wX g x l0 t0 p0 ba h0 r0 un ++ wAr g h0 h1 hd hc nx) (rest := []) (st1 := [.int (nI 0)]) zx zb zm zo zg zK zP zD zS zA zl.1 (c_Ar_release_f lL g h0 h1 hd hc nx sg hs (by omega) (by omega)) ok_Ar_release ov_Ar_release ml_X_154 (by decide) 1 5 rfl rfl rfl [1, 2] [0] 3 (by decide) rfl rfl rfl rfl (by decide) rfl rfl rfl (Nat.le_of_ble_eq_true rfl) d_X_drop_5 (fun HX oX zP zD zS => ?_)
  exact ct_zret zQ zx zb zr zk zP zD zS d_X_drop_8 rfl (by decide) (⟨rfl, rfl⟩)
set_option maxRecDepth 20000 in
theorem c_X_drop_g (lL : Launch) (g : Gt) (x : Nat) (l0 : Nat) (t0 : Nat) (p0 : Nat) (ba : Nat) (h0 : Nat) (r0 : Nat) (un : Int32) (h1 : Nat) (hd : Nat → Nat) (hc : Nat) (nx : Nat) (sg : Nat) (hs : nx ≤ sg) (hnx : nx ≤ 64) (hb2 : sg < 2147483648) : Ct lL g y_X_drop (.code y_X_drop b_X_drop 2 (some .boolean)) 6 200 [.ref x, .int (nI sg)] (wX g x l0 t0 p0 ba h0 r0 un ++ wAr g h0 h1 hd hc nx) (exP (some (.int (nI 0))) (wX g x l0 t0 p0 ba h0 r0 un ++ wAr g h0 h1 hd hc nx)) := by
  refine Ct.ofW (by decide) (Nat.le_of_ble_eq_true rfl) ?_
  intro pX eX sX mX aX bX tX cX AX lsX HX oX QX zx zb zr zk zm zo zg zK zP zD zA zS zQ zl
  have zo : sX.vm.findClass R_X = some mX.cls := zo
  have zl : lv_has lsX 2 [(0, .ref x), (1, .int (nI sg))] := zl
  refine lv_aload_n zx zb d_X_drop_0 rfl (lv_at zl 0 rfl) ?_
  refine wv_get zx zb zg hin_X rfl zo zK zP 0 rfl 4 (by decide) rfl fl_X_33 rfl d_X_drop_1 ?_
  refine lv_iload_n zx zb d_X_drop_4 rfl (lv_at zl 1 rfl) ?_
  refine ct_V (ws' := wX g x l0 t0 p0 ba h0 r0 un ++ wAr g h0 h1 hd hc nx) (rest := []) (st1 := [.int (nI 0)]) zx zb zm zo zg zK zP zD zS zA zl.1 (c_Ar_release_g lL g h0 h1 hd hc nx sg hs (by omega) (by omega)) ok_Ar_release ov_Ar_release ml_X_154 (by decide) 1 5 rfl rfl rfl [1, 2] [0] 3 (by decide) rfl rfl rfl rfl (by decide) rfl rfl rfl (Nat.le_of_ble_eq_true rfl) d_X_drop_5 (fun HX oX zP zD zS => ?_)
  exact ct_zret zQ zx zb zr zk zP zD zS d_X_drop_8 rfl (by decide) (⟨rfl, rfl⟩)
set_option maxRecDepth 20000 in
theorem c_X_drop_n (lL : Launch) (g : Gt) (x : Nat) (l0 : Nat) (t0 : Nat) (p0 : Nat) (ba : Nat) (h0 : Nat) (r0 : Nat) (un : Int32) (h1 : Nat) (hd : Nat → Nat) (hc : Nat) (nx : Nat) (sg : Int32) (hs : sg < 0) : Ct lL g y_X_drop (.code y_X_drop b_X_drop 2 (some .boolean)) 6 200 [.ref x, .int sg] (wX g x l0 t0 p0 ba h0 r0 un ++ wAr g h0 h1 hd hc nx) (exP (some (.int (nI 0))) (wX g x l0 t0 p0 ba h0 r0 un ++ wAr g h0 h1 hd hc nx)) := by
  refine Ct.ofW (by decide) (Nat.le_of_ble_eq_true rfl) ?_
  intro pX eX sX mX aX bX tX cX AX lsX HX oX QX zx zb zr zk zm zo zg zK zP zD zA zS zQ zl
  have zo : sX.vm.findClass R_X = some mX.cls := zo
  have zl : lv_has lsX 2 [(0, .ref x), (1, .int sg)] := zl
  refine lv_aload_n zx zb d_X_drop_0 rfl (lv_at zl 0 rfl) ?_
  refine wv_get zx zb zg hin_X rfl zo zK zP 0 rfl 4 (by decide) rfl fl_X_33 rfl d_X_drop_1 ?_
  refine lv_iload_n zx zb d_X_drop_4 rfl (lv_at zl 1 rfl) ?_
  refine ct_V (ws' := wX g x l0 t0 p0 ba h0 r0 un ++ wAr g h0 h1 hd hc nx) (rest := []) (st1 := [.int (nI 0)]) zx zb zm zo zg zK zP zD zS zA zl.1 (c_Ar_release_n lL g h0 h1 hd hc nx sg hs) ok_Ar_release ov_Ar_release ml_X_154 (by decide) 1 5 rfl rfl rfl [1, 2] [0] 3 (by decide) rfl rfl rfl rfl (by decide) rfl rfl rfl (Nat.le_of_ble_eq_true rfl) d_X_drop_5 (fun HX oX zP zD zS => ?_)
  exact ct_zret zQ zx zb zr zk zP zD zS d_X_drop_8 rfl (by decide) (⟨rfl, rfl⟩)
set_option maxRecDepth 20000 in
theorem c_X_restore_n (lL : Launch) (g : Gt) (x : Nat) (l0 : Nat) (t0 : Nat) (p0 : Nat) (ba : Nat) (h0 : Nat) (r0 : Nat) (un : Int32) (j : Int32) (ps : Int32) (hj : j < 0) : Ct lL g y_X_restore (.code y_X_restore b_X_restore 4 (some .int)) 6 200 [.ref x, .int j, .int ps] (wX g x l0 t0 p0 ba h0 r0 un) (exP (some (.int (-1))) (wX g x l0 t0 p0 ba h0 r0 un)) := by
  refine Ct.ofW (by decide) (Nat.le_of_ble_eq_true rfl) ?_
  intro pX eX sX mX aX bX tX cX AX lsX HX oX QX zx zb zr zk zm zo zg zK zP zD zA zS zQ zl
  have zo : sX.vm.findClass R_X = some mX.cls := zo
  have zl : lv_has lsX 4 [(0, .ref x), (1, .int j), (2, .int ps)] := zl
  refine lv_aload_n zx zb d_X_restore_0 rfl (lv_at zl 0 rfl) ?_
  refine lv_iload_n zx zb d_X_restore_1 rfl (lv_at zl 1 rfl) ?_
  refine ct_V (ws' := wX g x l0 t0 p0 ba h0 r0 un) (rest := []) (st1 := [.int (nI 0)]) zx zb zm zo zg zK zP zD zS zA zl.1 (c_X_isFin_n lL g x l0 t0 p0 ba h0 r0 un j hj) ok_X_isFinishedBackup ov_X_isFinishedBackup ml_X_138 (by decide) 0 0 rfl rfl rfl [0] [] 1 (by decide) rfl rfl rfl rfl (by decide) rfl rfl rfl (Nat.le_of_ble_eq_true rfl) d_X_restore_2 (fun HX oX zP zD zS => ?_)
  refine wn_ieq_T (tgt := 12) zx zb d_X_restore_5 (by decide) (by omega) (by omega) ?_
  refine lv_iconst (v := (-1)) zx zb d_X_restore_12 (by decide) ?_
  exact ct_iret zQ zx zb zr zk zP zD zS d_X_restore_13 rfl (⟨rfl, rfl⟩)
set_option maxRecDepth 20000 in
theorem c_X_restore_g (lL : Launch) (g : Gt) (x : Nat) (l0 : Nat) (t0 : Nat) (p0 : Nat) (ba : Nat) (h0 : Nat) (r0 : Nat) (un : Int32) (j : Nat) (ps : Int32) (hj : 3 ≤ j) (hj2 : j < 2147483648) : Ct lL g y_X_restore (.code y_X_restore b_X_restore 4 (some .int)) 6 200 [.ref x, .int (nI j), .int ps] (wX g x l0 t0 p0 ba h0 r0 un) (exP (some (.int (-1))) (wX g x l0 t0 p0 ba h0 r0 un)) := by
  refine Ct.ofW (by decide) (Nat.le_of_ble_eq_true rfl) ?_
  intro pX eX sX mX aX bX tX cX AX lsX HX oX QX zx zb zr zk zm zo zg zK zP zD zA zS zQ zl
  have zo : sX.vm.findClass R_X = some mX.cls := zo
  have zl : lv_has lsX 4 [(0, .ref x), (1, .int (nI j)), (2, .int ps)] := zl
  refine lv_aload_n zx zb d_X_restore_0 rfl (lv_at zl 0 rfl) ?_
  refine lv_iload_n zx zb d_X_restore_1 rfl (lv_at zl 1 rfl) ?_
  refine ct_V (ws' := wX g x l0 t0 p0 ba h0 r0 un) (rest := []) (st1 := [.int (nI 0)]) zx zb zm zo zg zK zP zD zS zA zl.1 (c_X_isFin_g lL g x l0 t0 p0 ba h0 r0 un j (by omega) (by omega)) ok_X_isFinishedBackup ov_X_isFinishedBackup ml_X_138 (by decide) 0 0 rfl rfl rfl [0] [] 1 (by decide) rfl rfl rfl rfl (by decide) rfl rfl rfl (Nat.le_of_ble_eq_true rfl) d_X_restore_2 (fun HX oX zP zD zS => ?_)
  refine wn_ieq_T (tgt := 12) zx zb d_X_restore_5 (by decide) (by omega) (by omega) ?_
  refine lv_iconst (v := (-1)) zx zb d_X_restore_12 (by decide) ?_
  exact ct_iret zQ zx zb zr zk zP zD zS d_X_restore_13 rfl (⟨rfl, rfl⟩)
set_option maxRecDepth 20000 in
theorem c_X_restore_f (lL : Launch) (g : Gt) (x : Nat) (l0 : Nat) (t0 : Nat) (p0 : Nat) (ba : Nat) (h0 : Nat) (r0 : Nat) (un : Int32) (b : Nat → Nat) (b1 : Nat) (bv : Nat → Int32) (pr : Nat) (fi : Nat) (st : Nat) (cp : Nat) (en : Nat) (pg : Nat) (j : Nat) (ps : Int32) (hj : j < 3) (hfi : fi = 0) : Ct lL g y_X_restore (.code y_X_restore b_X_restore 4 (some .int)) 6 200 [.ref x, .int (nI j), .int ps] (wX g x l0 t0 p0 ba h0 r0 un ++ wBA g ba b ++ wBk g (b j) b1 bv pr fi st cp en pg) (exP (some (.int (-1))) (wX g x l0 t0 p0 ba h0 r0 un ++ wBA g ba b ++ wBk g (b j) b1 bv pr fi st cp en pg)) := by
  refine Ct.ofW (by decide) (Nat.le_of_ble_eq_true rfl) ?_
  intro pX eX sX mX aX bX tX cX AX lsX HX oX QX zx zb zr zk zm zo zg zK zP zD zA zS zQ zl
  have zo : sX.vm.findClass R_X = some mX.cls := zo
  have zl : lv_has lsX 4 [(0, .ref x), (1, .int (nI j)), (2, .int ps)] := zl
  refine lv_aload_n zx zb d_X_restore_0 rfl (lv_at zl 0 rfl) ?_
  refine lv_iload_n zx zb d_X_restore_1 rfl (lv_at zl 1 rfl) ?_
  refine ct_V (ws' := wX g x l0 t0 p0 ba h0 r0 un ++ wBA g ba b ++ wBk g (b j) b1 bv pr fi st cp en pg) (rest := []) (st1 := [.int (nI 0)]) zx zb zm zo zg zK zP zD zS zA zl.1 (c_X_isFin_f lL g x l0 t0 p0 ba h0 r0 un b b1 bv pr fi st cp en pg j (by omega) (by omega)) ok_X_isFinishedBackup ov_X_isFinishedBackup ml_X_138 (by decide) 0 0 rfl rfl rfl [0, 1, 2, 3] [] 4 (by decide) rfl rfl rfl rfl (by decide) rfl rfl rfl (Nat.le_of_ble_eq_true rfl) d_X_restore_2 (fun HX oX zP zD zS => ?_)
  refine wn_ieq_T (tgt := 12) zx zb d_X_restore_5 (by decide) (by omega) (by omega) ?_
  refine lv_iconst (v := (-1)) zx zb d_X_restore_12 (by decide) ?_
  exact ct_iret zQ zx zb zr zk zP zD zS d_X_restore_13 rfl (⟨rfl, rfl⟩)
set_option maxRecDepth 20000 in
theorem c_X_restore_pn (lL : Launch) (g : Gt) (x : Nat) (l0 : Nat) (t0 : Nat) (p0 : Nat) (ba : Nat) (h0 : Nat) (r0 : Nat) (un : Int32) (b : Nat → Nat) (b1 : Nat) (bv : Nat → Int32) (pr : Nat) (fi : Nat) (st : Nat) (cp : Nat) (en : Nat) (pg : Nat) (j : Nat) (ps : Int32) (hj : j < 3) (hfi : fi = 1) (hps : ps < 0) : Ct lL g y_X_restore (.code y_X_restore b_X_restore 4 (some .int)) 6 200 [.ref x, .int (nI j), .int ps] (wX g x l0 t0 p0 ba h0 r0 un ++ wBA g ba b ++ wBk g (b j) b1 bv pr fi st cp en pg) (exP (some (.int (-1))) (wX g x l0 t0 p0 ba h0 r0 un ++ wBA g ba b ++ wBk g (b j) b1 bv pr fi st cp en pg)) := by
  refine Ct.ofW (by decide) (Nat.le_of_ble_eq_true rfl) ?_
  intro pX eX sX mX aX bX tX cX AX lsX HX oX QX zx zb zr zk zm zo zg zK zP zD zA zS zQ zl
  have zo : sX.vm.findClass R_X = some mX.cls := zo
  have zl : lv_has lsX 4 [(0, .ref x), (1, .int (nI j)), (2, .int ps)] := zl
  refine lv_aload_n zx zb d_X_restore_0 rfl (lv_at zl 0 rfl) ?_
  refine lv_iload_n zx zb d_X_restore_1 rfl (lv_at zl 1 rfl) ?_
  refine ct_V (ws' := wX g x l0 t0 p0 ba h0 r0 un ++ wBA g ba b ++ wBk g (b j) b1 bv pr fi st cp en pg) (rest := []) (st1 := [.int (nI 1)]) zx zb zm zo zg zK zP zD zS zA zl.1 (c_X_isFin_t lL g x l0 t0 p0 ba h0 r0 un b b1 bv pr fi st cp en pg j (by omega) (by omega)) ok_X_isFinishedBackup ov_X_isFinishedBackup ml_X_138 (by decide) 0 0 rfl rfl rfl [0, 1, 2, 3] [] 4 (by decide) rfl rfl rfl rfl (by decide) rfl rfl rfl (Nat.le_of_ble_eq_true rfl) d_X_restore_2 (fun HX oX zP zD zS => ?_)
  refine wn_ieq_F (tgt := 12) zx zb d_X_restore_5 (by decide) (by omega) (by omega) ?_
  refine lv_iload_n zx zb d_X_restore_8 rfl (lv_at zl 2 rfl) ?_
  refine lv_if_ge (tgt := 14) zx zb d_X_restore_9 (by decide) (fun h => absurd h (i32_nle hps)) (fun _ => ?_)
  refine lv_iconst (v := (-1)) zx zb d_X_restore_12 (by decide) ?_
  exact ct_iret zQ zx zb zr zk zP zD zS d_X_restore_13 rfl (⟨rfl, rfl⟩)
