set_option maxRecDepth 20000 in
theorem c_X_dirty (lL : Launch) (g : Gt) (x : Nat) (l0 : Nat) (t0 : Nat) (p0 : Nat) (ba : Nat) (h0 : Nat) (r0 : Nat) (un : Int32) (p1 : Nat) (p2 : Nat) (p3 : Nat) (p4 : Nat) (p5 : Nat) (me : Nat → Int32) (ms : Nat → Int32) (dk : Nat → Int32) (ds : Nat → Nat) (du : Nat → Nat) (hd : ∀ q, q < 8 → ds q ≤ 512) : Ct lL g y_X_dirty (.code y_X_dirty b_X_dirty 1 (some .int)) 6 200 [.ref x] (wX g x l0 t0 p0 ba h0 r0 un ++ wPg g p0 p1 p2 p3 p4 p5 me ms dk ds du) (exP (some (.int (nI (cdS ds 0 8)))) (wX g x l0 t0 p0 ba h0 r0 un ++ wPg g p0 p1 p2 p3 p4 p5 me ms dk ds du)) := by
  refine Ct.ofW (by decide) (Nat.le_of_ble_eq_true rfl) ?_
  intro pX eX sX mX aX bX tX cX AX lsX HX oX QX zx zb zr zk zm zo zg zK zP zD zA zS zQ zl
  have zo : sX.vm.findClass R_X = some mX.cls := zo
  have zl : lv_has lsX 1 [(0, .ref x)] := zl
  refine lv_aload_n zx zb d_X_dirty_0 rfl (lv_at zl 0 rfl) ?_
  refine wv_get zx zb zg hin_X rfl zo zK zP 0 rfl 2 (by decide) rfl fl_X_26 rfl d_X_dirty_1 ?_
  refine ct_V (ws' := wX g x l0 t0 p0 ba h0 r0 un ++ wPg g p0 p1 p2 p3 p4 p5 me ms dk ds du) (rest := []) (st1 := [.int (nI (cdS ds 0 8))]) zx zb zm zo zg zK zP zD zS zA zl.1 (c_Pg_countDirty lL g p0 p1 p2 p3 p4 p5 me ms dk ds du hd) ok_Pg_countDirty ov_Pg_countDirty ml_X_177 (by decide) 1 3 rfl rfl rfl [1, 2, 3, 4, 5, 6] [0] 7 (by decide) rfl rfl rfl rfl (by decide) rfl rfl rfl (Nat.le_of_ble_eq_true rfl) d_X_dirty_4 (fun HX oX zP zD zS => ?_)
  exact ct_iret zQ zx zb zr zk zP zD zS d_X_dirty_7 rfl (⟨rfl, rfl⟩)
set_option maxRecDepth 20000 in
theorem c_X_syncLog (lL : Launch) (g : Gt) (x : Nat) (l0 : Nat) (t0 : Nat) (p0 : Nat) (ba : Nat) (h0 : Nat) (r0 : Nat) (un : Int32) (l1 : Nat) (l2 : Nat) (l3 : Nat) (l4 : Nat) (k : Nat → Nat) (o : Nat → Nat) (ke : Nat → Nat) (va : Nat → Int32) (n : Nat) (sy : Nat) (p1 : Nat) (p2 : Nat) (p3 : Nat) (p4 : Nat) (p5 : Nat) (me : Nat → Int32) (ms : Nat → Int32) (dk : Nat → Int32) (ds : Nat → Nat) (du : Nat → Nat) (hs : sy ≤ n) : Ct lL g y_X_syncLog (.code y_X_syncLog b_X_syncLog 1 (some .int)) 2 44 [.ref x] (wX g x l0 t0 p0 ba h0 r0 un ++ wLog g l0 l1 l2 l3 l4 k o ke va n sy ++ wPg g p0 p1 p2 p3 p4 p5 me ms dk ds du) (exP (some (.int (nI (n - sy)))) (wX g x l0 t0 p0 ba h0 r0 un ++ wLog g l0 l1 l2 l3 l4 k o ke va n n ++ wPg g p0 p1 p2 p3 p4 p5 me (va_cpy me ms 0 0 32) dk ds du)) := by
  refine Ct.ofW (by decide) (Nat.le_of_ble_eq_true rfl) ?_
  intro pX eX sX mX aX bX tX cX AX lsX HX oX QX zx zb zr zk zm zo zg zK zP zD zA zS zQ zl
  have zo : sX.vm.findClass R_X = some mX.cls := zo
  have zl : lv_has lsX 1 [(0, .ref x)] := zl
  refine lv_aload_n zx zb d_X_syncLog_0 rfl (lv_at zl 0 rfl) ?_
  refine wv_get zx zb zg hin_X rfl zo zK zP 0 rfl 2 (by decide) rfl fl_X_26 rfl d_X_syncLog_1 ?_
  refine ct_V (ws' := wX g x l0 t0 p0 ba h0 r0 un ++ wLog g l0 l1 l2 l3 l4 k o ke va n sy ++ wPg g p0 p1 p2 p3 p4 p5 me (va_cpy me ms 0 0 32) dk ds du) (rest := []) (st1 := []) zx zb zm zo zg zK zP zD zS zA zl.1 (c_Pg_keepForCrash lL g p0 p1 p2 p3 p4 p5 me ms dk ds du) ok_Pg_keepForCrash ov_Pg_keepForCrash ml_X_190 (by decide) 6 3 rfl rfl rfl [6, 7, 8, 9, 10, 11] [0, 1, 2, 3, 4, 5] 12 (by decide) rfl rfl rfl rfl (by decide) rfl rfl rfl (Nat.le_of_ble_eq_true rfl) d_X_syncLog_4 (fun HX oX zP zD zS => ?_)
  refine lv_aload_n zx zb d_X_syncLog_7 rfl (lv_at zl 0 rfl) ?_
  refine wv_get zx zb zg hin_X rfl zo zK zP 0 rfl 0 (by decide) rfl fl_X_12 rfl d_X_syncLog_8 ?_
  refine ct_V (ws' := wX g x l0 t0 p0 ba h0 r0 un ++ wLog g l0 l1 l2 l3 l4 k o ke va n n ++ wPg g p0 p1 p2 p3 p4 p5 me (va_cpy me ms 0 0 32) dk ds du) (rest := []) (st1 := [.int (nI (n - sy))]) zx zb zm zo zg zK zP zD zS zA zl.1 (c_Log_syncAll lL g l0 l1 l2 l3 l4 k o ke va n sy (by omega)) ok_Log_syncAll ov_Log_syncAll ml_X_193 (by decide) 1 1 rfl rfl rfl [1, 2, 3, 4, 5] [0, 6, 7, 8, 9, 10, 11] 12 (by decide) rfl rfl rfl rfl (by decide) rfl rfl rfl (Nat.le_of_ble_eq_true rfl) d_X_syncLog_11 (fun HX oX zP zD zS => ?_)
  exact ct_iret zQ zx zb zr zk zP zD zS d_X_syncLog_14 rfl (⟨rfl, rfl⟩)
set_option maxRecDepth 20000 in
theorem c_X_sync (lL : Launch) (g : Gt) (x : Nat) (l0 : Nat) (t0 : Nat) (p0 : Nat) (ba : Nat) (h0 : Nat) (r0 : Nat) (un : Int32) (l1 : Nat) (l2 : Nat) (l3 : Nat) (l4 : Nat) (k : Nat → Nat) (o : Nat → Nat) (ke : Nat → Nat) (va : Nat → Int32) (n : Nat) (sy : Nat) (p1 : Nat) (p2 : Nat) (p3 : Nat) (p4 : Nat) (p5 : Nat) (me : Nat → Int32) (ms : Nat → Int32) (dk : Nat → Int32) (ds : Nat → Nat) (du : Nat → Nat) (hs : sy ≤ n) : Ct lL g y_X_sync (.code y_X_sync b_X_sync 1 (some .int)) 6 200 [.ref x] (wX g x l0 t0 p0 ba h0 r0 un ++ wLog g l0 l1 l2 l3 l4 k o ke va n sy ++ wPg g p0 p1 p2 p3 p4 p5 me ms dk ds du) (exP (some (.int (nI (n - sy)))) (wX g x l0 t0 p0 ba h0 r0 un ++ wLog g l0 l1 l2 l3 l4 k o ke va n n ++ wPg g p0 p1 p2 p3 p4 p5 me (va_cpy me ms 0 0 32) dk ds du)) := by
  refine Ct.ofW (by decide) (Nat.le_of_ble_eq_true rfl) ?_
  intro pX eX sX mX aX bX tX cX AX lsX HX oX QX zx zb zr zk zm zo zg zK zP zD zA zS zQ zl
  have zo : sX.vm.findClass R_X = some mX.cls := zo
  have zl : lv_has lsX 1 [(0, .ref x)] := zl
  refine lv_aload_n zx zb d_X_sync_0 rfl (lv_at zl 0 rfl) ?_
  refine ct_V (ws' := wX g x l0 t0 p0 ba h0 r0 un ++ wLog g l0 l1 l2 l3 l4 k o ke va n n ++ wPg g p0 p1 p2 p3 p4 p5 me (va_cpy me ms 0 0 32) dk ds du) (rest := []) (st1 := [.int (nI (n - sy))]) zx zb zm zo zg zK zP zD zS zA zl.1 (c_X_syncLog lL g x l0 t0 p0 ba h0 r0 un l1 l2 l3 l4 k o ke va n sy p1 p2 p3 p4 p5 me ms dk ds du (by omega)) ok_X_syncLog ov_X_syncLog ml_X_96 (by decide) 0 0 rfl rfl rfl [0, 1, 2, 3, 4, 5, 6, 7, 8, 9, 10, 11] [] 12 (by decide) rfl rfl rfl rfl (by decide) rfl rfl rfl (Nat.le_of_ble_eq_true rfl) d_X_sync_1 (fun HX oX zP zD zS => ?_)
  exact ct_iret zQ zx zb zr zk zP zD zS d_X_sync_4 rfl (⟨rfl, rfl⟩)
set_option maxRecDepth 20000 in
theorem c_X_flushPage_c (lL : Launch) (g : Gt) (x : Nat) (l0 : Nat) (t0 : Nat) (p0 : Nat) (ba : Nat) (h0 : Nat) (r0 : Nat) (un : Int32) (l1 : Nat) (l2 : Nat) (l3 : Nat) (l4 : Nat) (k : Nat → Nat) (o : Nat → Nat) (ke : Nat → Nat) (va : Nat → Int32) (n : Nat) (sy : Nat) (p1 : Nat) (p2 : Nat) (p3 : Nat) (p4 : Nat) (p5 : Nat) (me : Nat → Int32) (ms : Nat → Int32) (dk : Nat → Int32) (ds : Nat → Nat) (du : Nat → Nat) (q : Nat) (hq : q < 8) (hd : ds q = 0) : Ct lL g y_X_flushPage (.code y_X_flushPage b_X_flushPage 2 (some .boolean)) 1 21 [.ref x, .int (nI q)] (wX g x l0 t0 p0 ba h0 r0 un ++ wLog g l0 l1 l2 l3 l4 k o ke va n sy ++ wPg g p0 p1 p2 p3 p4 p5 me ms dk ds du) (exP (some (.int (nI 0))) (wX g x l0 t0 p0 ba h0 r0 un ++ wLog g l0 l1 l2 l3 l4 k o ke va n sy ++ wPg g p0 p1 p2 p3 p4 p5 me ms dk ds du)) := by
  refine Ct.ofW (by decide) (Nat.le_of_ble_eq_true rfl) ?_
  intro pX eX sX mX aX bX tX cX AX lsX HX oX QX zx zb zr zk zm zo zg zK zP zD zA zS zQ zl
  have zo : sX.vm.findClass R_X = some mX.cls := zo
  have zl : lv_has lsX 2 [(0, .ref x), (1, .int (nI q))] := zl
  refine lv_aload_n zx zb d_X_flushPage_0 rfl (lv_at zl 0 rfl) ?_
  refine wv_get zx zb zg hin_X rfl zo zK zP 0 rfl 2 (by decide) rfl fl_X_26 rfl d_X_flushPage_1 ?_
  refine lv_iload_n zx zb d_X_flushPage_4 rfl (lv_at zl 1 rfl) ?_
  refine ct_V (ws' := wX g x l0 t0 p0 ba h0 r0 un ++ wLog g l0 l1 l2 l3 l4 k o ke va n sy ++ wPg g p0 p1 p2 p3 p4 p5 me ms dk ds du) (rest := []) (st1 := [.int (nI 0)]) zx zb zm zo zg zK zP zD zS zA zl.1 (c_Pg_isDirty_f lL g p0 p1 p2 p3 p4 p5 me ms dk ds du q (by omega) (by omega)) ok_Pg_isDirty ov_Pg_isDirty ml_X_196 (by decide) 6 3 rfl rfl rfl [6, 7, 8, 9, 10, 11] [0, 1, 2, 3, 4, 5] 12 (by decide) rfl rfl rfl rfl (by decide) rfl rfl rfl (Nat.le_of_ble_eq_true rfl) d_X_flushPage_5 (fun HX oX zP zD zS => ?_)
  refine wn_ine_F (tgt := 13) zx zb d_X_flushPage_8 (by decide) (by omega) (by omega) ?_
  refine lv_iconst (v := (nI 0)) zx zb d_X_flushPage_11 (by decide) ?_
  exact ct_zret zQ zx zb zr zk zP zD zS d_X_flushPage_12 rfl (by decide) (⟨rfl, rfl⟩)
set_option maxRecDepth 20000 in
theorem c_X_flushPage_d (lL : Launch) (g : Gt) (x : Nat) (l0 : Nat) (t0 : Nat) (p0 : Nat) (ba : Nat) (h0 : Nat) (r0 : Nat) (un : Int32) (l1 : Nat) (l2 : Nat) (l3 : Nat) (l4 : Nat) (k : Nat → Nat) (o : Nat → Nat) (ke : Nat → Nat) (va : Nat → Int32) (n : Nat) (sy : Nat) (p1 : Nat) (p2 : Nat) (p3 : Nat) (p4 : Nat) (p5 : Nat) (me : Nat → Int32) (ms : Nat → Int32) (dk : Nat → Int32) (ds : Nat → Nat) (du : Nat → Nat) (q : Nat) (hq : q < 8) (hn : n ≤ 512) (hs : sy ≤ n) (hd : 0 < ds q) (hd2 : ds q ≤ 512) (hu : du q ≤ sy) : Ct lL g y_X_flushPage (.code y_X_flushPage b_X_flushPage 2 (some .boolean)) 2 46 [.ref x, .int (nI q)] (wX g x l0 t0 p0 ba h0 r0 un ++ wLog g l0 l1 l2 l3 l4 k o ke va n sy ++ wPg g p0 p1 p2 p3 p4 p5 me ms dk ds du) (exP (some (.int (nI 1))) (wX g x l0 t0 p0 ba h0 r0 un ++ wLog g l0 l1 l2 l3 l4 k o ke va n sy ++ wPg g p0 p1 p2 p3 p4 p5 me ms (va_cpy me dk (q * 4) (q * 4) 4) (va_up ds q 0) (va_up du q 0))) := by
  refine Ct.ofW (by decide) (Nat.le_of_ble_eq_true rfl) ?_
  intro pX eX sX mX aX bX tX cX AX lsX HX oX QX zx zb zr zk zm zo zg zK zP zD zA zS zQ zl
  have zo : sX.vm.findClass R_X = some mX.cls := zo
  have zl : lv_has lsX 2 [(0, .ref x), (1, .int (nI q))] := zl
  refine lv_aload_n zx zb d_X_flushPage_0 rfl (lv_at zl 0 rfl) ?_
  refine wv_get zx zb zg hin_X rfl zo zK zP 0 rfl 2 (by decide) rfl fl_X_26 rfl d_X_flushPage_1 ?_
  refine lv_iload_n zx zb d_X_flushPage_4 rfl (lv_at zl 1 rfl) ?_
  refine ct_V (ws' := wX g x l0 t0 p0 ba h0 r0 un ++ wLog g l0 l1 l2 l3 l4 k o ke va n sy ++ wPg g p0 p1 p2 p3 p4 p5 me ms dk ds du) (rest := []) (st1 := [.int (nI 1)]) zx zb zm zo zg zK zP zD zS zA zl.1 (c_Pg_isDirty_t lL g p0 p1 p2 p3 p4 p5 me ms dk ds du q (by omega) (by omega) (by omega)) ok_Pg_isDirty ov_Pg_isDirty ml_X_196 (by decide) 6 3 rfl rfl rfl [6, 7, 8, 9, 10, 11] [0, 1, 2, 3, 4, 5] 12 (by decide) rfl rfl rfl rfl (by decide) rfl rfl rfl (Nat.le_of_ble_eq_true rfl) d_X_flushPage_5 (fun HX oX zP zD zS => ?_)
  refine wn_ine_T (tgt := 13) zx zb d_X_flushPage_8 (by decide) (by omega) (by omega) ?_
  refine lv_aload_n zx zb d_X_flushPage_13 rfl (lv_at zl 0 rfl) ?_
  refine wv_get zx zb zg hin_X rfl zo zK zP 0 rfl 2 (by decide) rfl fl_X_26 rfl d_X_flushPage_14 ?_
  refine wv_get zx zb zg hin_Pg rfl zo zK zP 6 rfl 4 (by decide) rfl fl_X_199 rfl d_X_flushPage_17 ?_
  refine lv_iload_n zx zb d_X_flushPage_20 rfl (lv_at zl 1 rfl) ?_
  refine wv_ialdN zx zb zK zP 11 rfl (by omega) (by decide) d_X_flushPage_21 ?_
  refine lv_aload_n zx zb d_X_flushPage_22 rfl (lv_at zl 0 rfl) ?_
  refine wv_get zx zb zg hin_X rfl zo zK zP 0 rfl 0 (by decide) rfl fl_X_12 rfl d_X_flushPage_23 ?_
  refine wv_get zx zb zg hin_Log rfl zo zK zP 1 rfl 5 (by decide) rfl fl_X_112 rfl d_X_flushPage_26 ?_
  refine wn_cle_T (tgt := 37) zx zb d_X_flushPage_29 (by decide) (by omega) (by omega) (by omega) ?_
  refine lv_aload_n zx zb d_X_flushPage_37 rfl (lv_at zl 0 rfl) ?_
  refine wv_get zx zb zg hin_X rfl zo zK zP 0 rfl 2 (by decide) rfl fl_X_26 rfl d_X_flushPage_38 ?_
  refine lv_iload_n zx zb d_X_flushPage_41 rfl (lv_at zl 1 rfl) ?_
  refine ct_V (ws' := wX g x l0 t0 p0 ba h0 r0 un ++ wLog g l0 l1 l2 l3 l4 k o ke va n sy ++ wPg g p0 p1 p2 p3 p4 p5 me ms (va_cpy me dk (q * 4) (q * 4) 4) (va_up ds q 0) (va_up du q 0)) (rest := []) (st1 := []) zx zb zm zo zg zK zP zD zS zA zl.1 (c_Pg_writeToDisk lL g p0 p1 p2 p3 p4 p5 me ms dk ds du q (by omega)) ok_Pg_writeToDisk ov_Pg_writeToDisk ml_X_202 (by decide) 6 3 rfl rfl rfl [6, 7, 8, 9, 10, 11] [0, 1, 2, 3, 4, 5] 12 (by decide) rfl rfl rfl rfl (by decide) rfl rfl rfl (Nat.le_of_ble_eq_true rfl) d_X_flushPage_42 (fun HX oX zP zD zS => ?_)
  refine lv_iconst (v := (nI 1)) zx zb d_X_flushPage_45 (by decide) ?_
  exact ct_zret zQ zx zb zr zk zP zD zS d_X_flushPage_46 rfl (by decide) (⟨rfl, rfl⟩)
set_option maxRecDepth 20000 in
theorem c_X_flushPage_s (lL : Launch) (g : Gt) (x : Nat) (l0 : Nat) (t0 : Nat) (p0 : Nat) (ba : Nat) (h0 : Nat) (r0 : Nat) (un : Int32) (l1 : Nat) (l2 : Nat) (l3 : Nat) (l4 : Nat) (k : Nat → Nat) (o : Nat → Nat) (ke : Nat → Nat) (va : Nat → Int32) (n : Nat) (sy : Nat) (p1 : Nat) (p2 : Nat) (p3 : Nat) (p4 : Nat) (p5 : Nat) (me : Nat → Int32) (ms : Nat → Int32) (dk : Nat → Int32) (ds : Nat → Nat) (du : Nat → Nat) (q : Nat) (hq : q < 8) (hn : n ≤ 512) (hs : sy ≤ n) (hd : 0 < ds q) (hd2 : ds q ≤ 512) (hu : sy < du q) (hu2 : du q ≤ 512) : Ct lL g y_X_flushPage (.code y_X_flushPage b_X_flushPage 2 (some .boolean)) 3 64 [.ref x, .int (nI q)] (wX g x l0 t0 p0 ba h0 r0 un ++ wLog g l0 l1 l2 l3 l4 k o ke va n sy ++ wPg g p0 p1 p2 p3 p4 p5 me ms dk ds du) (exP (some (.int (nI 1))) (wX g x l0 t0 p0 ba h0 r0 un ++ wLog g l0 l1 l2 l3 l4 k o ke va n n ++ wPg g p0 p1 p2 p3 p4 p5 me (va_cpy me ms 0 0 32) (va_cpy me dk (q * 4) (q * 4) 4) (va_up ds q 0) (va_up du q 0))) := by
  refine Ct.ofW (by decide) (Nat.le_of_ble_eq_true rfl) ?_
  intro pX eX sX mX aX bX tX cX AX lsX HX oX QX zx zb zr zk zm zo zg zK zP zD zA zS zQ zl
  have zo : sX.vm.findClass R_X = some mX.cls := zo
  have zl : lv_has lsX 2 [(0, .ref x), (1, .int (nI q))] := zl
  refine lv_aload_n zx zb d_X_flushPage_0 rfl (lv_at zl 0 rfl) ?_
  refine wv_get zx zb zg hin_X rfl zo zK zP 0 rfl 2 (by decide) rfl fl_X_26 rfl d_X_flushPage_1 ?_
  refine lv_iload_n zx zb d_X_flushPage_4 rfl (lv_at zl 1 rfl) ?_
  refine ct_V (ws' := wX g x l0 t0 p0 ba h0 r0 un ++ wLog g l0 l1 l2 l3 l4 k o ke va n sy ++ wPg g p0 p1 p2 p3 p4 p5 me ms dk ds du) (rest := []) (st1 := [.int (nI 1)]) zx zb zm zo zg zK zP zD zS zA zl.1 (c_Pg_isDirty_t lL g p0 p1 p2 p3 p4 p5 me ms dk ds du q (by omega) (by omega) (by omega)) ok_Pg_isDirty ov_Pg_isDirty ml_X_196 (by decide) 6 3 rfl rfl rfl [6, 7, 8, 9, 10, 11] [0, 1, 2, 3, 4, 5] 12 (by decide) rfl rfl rfl rfl (by decide) rfl rfl rfl (Nat.le_of_ble_eq_true rfl) d_X_flushPage_5 (fun HX oX zP zD zS => ?_)
  refine wn_ine_T (tgt := 13) zx zb d_X_flushPage_8 (by decide) (by omega) (by omega) ?_
  refine lv_aload_n zx zb d_X_flushPage_13 rfl (lv_at zl 0 rfl) ?_
  refine wv_get zx zb zg hin_X rfl zo zK zP 0 rfl 2 (by decide) rfl fl_X_26 rfl d_X_flushPage_14 ?_
  refine wv_get zx zb zg hin_Pg rfl zo zK zP 6 rfl 4 (by decide) rfl fl_X_199 rfl d_X_flushPage_17 ?_
  refine lv_iload_n zx zb d_X_flushPage_20 rfl (lv_at zl 1 rfl) ?_
  refine wv_ialdN zx zb zK zP 11 rfl (by omega) (by decide) d_X_flushPage_21 ?_
  refine lv_aload_n zx zb d_X_flushPage_22 rfl (lv_at zl 0 rfl) ?_
  refine wv_get zx zb zg hin_X rfl zo zK zP 0 rfl 0 (by decide) rfl fl_X_12 rfl d_X_flushPage_23 ?_
  refine wv_get zx zb zg hin_Log rfl zo zK zP 1 rfl 5 (by decide) rfl fl_X_112 rfl d_X_flushPage_26 ?_
  refine wn_cle_F (tgt := 37) zx zb d_X_flushPage_29 (by decide) (by omega) (by omega) (by omega) ?_
  refine lv_aload_n zx zb d_X_flushPage_32 rfl (lv_at zl 0 rfl) ?_
  refine ct_V (ws' := wX g x l0 t0 p0 ba h0 r0 un ++ wLog g l0 l1 l2 l3 l4 k o ke va n n ++ wPg g p0 p1 p2 p3 p4 p5 me (va_cpy me ms 0 0 32) dk ds du) (rest := []) (st1 := [.int (nI (n - sy))]) zx zb zm zo zg zK zP zD zS zA zl.1 (c_X_syncLog lL g x l0 t0 p0 ba h0 r0 un l1 l2 l3 l4 k o ke va n sy p1 p2 p3 p4 p5 me ms dk ds du (by omega)) ok_X_syncLog ov_X_syncLog ml_X_96 (by decide) 0 0 rfl rfl rfl [0, 1, 2, 3, 4, 5, 6, 7, 8, 9, 10, 11] [] 12 (by decide) rfl rfl rfl rfl (by decide) rfl rfl rfl (Nat.le_of_ble_eq_true rfl) d_X_flushPage_33 (fun HX oX zP zD zS => ?_)
  refine lv_pop zx zb d_X_flushPage_36 rfl ?_
  refine lv_aload_n zx zb d_X_flushPage_37 rfl (lv_at zl 0 rfl) ?_
  refine wv_get zx zb zg hin_X rfl zo zK zP 0 rfl 2 (by decide) rfl fl_X_26 rfl d_X_flushPage_38 ?_
  refine lv_iload_n zx zb d_X_flushPage_41 rfl (lv_at zl 1 rfl) ?_
  refine ct_V (ws' := wX g x l0 t0 p0 ba h0 r0 un ++ wLog g l0 l1 l2 l3 l4 k o ke va n n ++ wPg g p0 p1 p2 p3 p4 p5 me (va_cpy me ms 0 0 32) (va_cpy me dk (q * 4) (q * 4) 4) (va_up ds q 0) (va_up du q 0)) (rest := []) (st1 := []) zx zb zm zo zg zK zP zD zS zA zl.1 (c_Pg_writeToDisk lL g p0 p1 p2 p3 p4 p5 me (va_cpy me ms 0 0 32) dk ds du q (by omega)) ok_Pg_writeToDisk ov_Pg_writeToDisk ml_X_202 (by decide) 6 3 rfl rfl rfl [6, 7, 8, 9, 10, 11] [0, 1, 2, 3, 4, 5] 12 (by decide) rfl rfl rfl rfl (by decide) rfl rfl rfl (Nat.le_of_ble_eq_true rfl) d_X_flushPage_42 (fun HX oX zP zD zS => ?_)
  refine lv_iconst (v := (nI 1)) zx zb d_X_flushPage_45 (by decide) ?_
  exact ct_zret zQ zx zb zr zk zP zD zS d_X_flushPage_46 rfl (by decide) (⟨rfl, rfl⟩)
set_option maxRecDepth 20000 in
theorem c_X_flush_n (lL : Launch) (g : Gt) (x : Nat) (l0 : Nat) (t0 : Nat) (p0 : Nat) (ba : Nat) (h0 : Nat) (r0 : Nat) (un : Int32) (q : Int32) (hq : q < 0) : Ct lL g y_X_flush (.code y_X_flush b_X_flush 2 (some .int)) 6 200 [.ref x, .int q] (wX g x l0 t0 p0 ba h0 r0 un) (exP (some (.int (-1))) (wX g x l0 t0 p0 ba h0 r0 un)) := by
  refine Ct.ofW (by decide) (Nat.le_of_ble_eq_true rfl) ?_
  intro pX eX sX mX aX bX tX cX AX lsX HX oX QX zx zb zr zk zm zo zg zK zP zD zA zS zQ zl
  have zo : sX.vm.findClass R_X = some mX.cls := zo
  have zl : lv_has lsX 2 [(0, .ref x), (1, .int q)] := zl
  refine lv_iload_n zx zb d_X_flush_0 rfl (lv_at zl 1 rfl) ?_
  refine lv_if_lt (tgt := 10) zx zb d_X_flush_1 (by decide) (fun _ => ?_) (fun h => absurd h (fun h => h hq))
  refine lv_iconst (v := (-1)) zx zb d_X_flush_10 (by decide) ?_
  exact ct_iret zQ zx zb zr zk zP zD zS d_X_flush_11 rfl (⟨rfl, rfl⟩)
set_option maxRecDepth 20000 in
theorem c_X_flush_g (lL : Launch) (g : Gt) (x : Nat) (l0 : Nat) (t0 : Nat) (p0 : Nat) (ba : Nat) (h0 : Nat) (r0 : Nat) (un : Int32) (q : Nat) (hq : 8 ≤ q) (hq2 : q < 2147483648) : Ct lL g y_X_flush (.code y_X_flush b_X_flush 2 (some .int)) 6 200 [.ref x, .int (nI q)] (wX g x l0 t0 p0 ba h0 r0 un) (exP (some (.int (-1))) (wX g x l0 t0 p0 ba h0 r0 un)) := by
  refine Ct.ofW (by decide) (Nat.le_of_ble_eq_true rfl) ?_
  intro pX eX sX mX aX bX tX cX AX lsX HX oX QX zx zb zr zk zm zo zg zK zP zD zA zS zQ zl
  have zo : sX.vm.findClass R_X = some mX.cls := zo
  have zl : lv_has lsX 2 [(0, .ref x), (1, .int (nI q))] := zl
  refine lv_iload_n zx zb d_X_flush_0 rfl (lv_at zl 1 rfl) ?_
  refine wn_ilt_F (tgt := 10) zx zb d_X_flush_1 (by decide) (by omega) (trivial) ?_
  refine lv_iload_n zx zb d_X_flush_4 rfl (lv_at zl 1 rfl) ?_
  refine lv_bipush (v := (nI 8)) zx zb d_X_flush_5 (by decide) ?_
  refine wn_clt_F (tgt := 12) zx zb d_X_flush_7 (by decide) (by omega) (by omega) (by omega) ?_
  refine lv_iconst (v := (-1)) zx zb d_X_flush_10 (by decide) ?_
  exact ct_iret zQ zx zb zr zk zP zD zS d_X_flush_11 rfl (⟨rfl, rfl⟩)
set_option maxRecDepth 20000 in
theorem c_X_flush_c (lL : Launch) (g : Gt) (x : Nat) (l0 : Nat) (t0 : Nat) (p0 : Nat) (ba : Nat) (h0 : Nat) (r0 : Nat) (un : Int32) (l1 : Nat) (l2 : Nat) (l3 : Nat) (l4 : Nat) (k : Nat → Nat) (o : Nat → Nat) (ke : Nat → Nat) (va : Nat → Int32) (n : Nat) (sy : Nat) (p1 : Nat) (p2 : Nat) (p3 : Nat) (p4 : Nat) (p5 : Nat) (me : Nat → Int32) (ms : Nat → Int32) (dk : Nat → Int32) (ds : Nat → Nat) (du : Nat → Nat) (q : Nat) (hq : q < 8) (hd : ds q = 0) : Ct lL g y_X_flush (.code y_X_flush b_X_flush 2 (some .int)) 6 200 [.ref x, .int (nI q)] (wX g x l0 t0 p0 ba h0 r0 un ++ wLog g l0 l1 l2 l3 l4 k o ke va n sy ++ wPg g p0 p1 p2 p3 p4 p5 me ms dk ds du) (exP (some (.int (nI 0))) (wX g x l0 t0 p0 ba h0 r0 un ++ wLog g l0 l1 l2 l3 l4 k o ke va n sy ++ wPg g p0 p1 p2 p3 p4 p5 me ms dk ds du)) := by
  refine Ct.ofW (by decide) (Nat.le_of_ble_eq_true rfl) ?_
  intro pX eX sX mX aX bX tX cX AX lsX HX oX QX zx zb zr zk zm zo zg zK zP zD zA zS zQ zl
  have zo : sX.vm.findClass R_X = some mX.cls := zo
  have zl : lv_has lsX 2 [(0, .ref x), (1, .int (nI q))] := zl
  refine lv_iload_n zx zb d_X_flush_0 rfl (lv_at zl 1 rfl) ?_
  refine wn_ilt_F (tgt := 10) zx zb d_X_flush_1 (by decide) (by omega) (trivial) ?_
  refine lv_iload_n zx zb d_X_flush_4 rfl (lv_at zl 1 rfl) ?_
  refine lv_bipush (v := (nI 8)) zx zb d_X_flush_5 (by decide) ?_
  refine wn_clt_T (tgt := 12) zx zb d_X_flush_7 (by decide) (by omega) (by omega) (by omega) ?_
  refine lv_aload_n zx zb d_X_flush_12 rfl (lv_at zl 0 rfl) ?_
  refine lv_iload_n zx zb d_X_flush_13 rfl (lv_at zl 1 rfl) ?_
  refine ct_V (ws' := wX g x l0 t0 p0 ba h0 r0 un ++ wLog g l0 l1 l2 l3 l4 k o ke va n sy ++ wPg g p0 p1 p2 p3 p4 p5 me ms dk ds du) (rest := []) (st1 := [.int (nI 0)]) zx zb zm zo zg zK zP zD zS zA zl.1 (c_X_flushPage_c lL g x l0 t0 p0 ba h0 r0 un l1 l2 l3 l4 k o ke va n sy p1 p2 p3 p4 p5 me ms dk ds du q (by omega) (by omega)) ok_X_flushPage ov_X_flushPage ml_X_100 (by decide) 0 0 rfl rfl rfl [0, 1, 2, 3, 4, 5, 6, 7, 8, 9, 10, 11] [] 12 (by decide) rfl rfl rfl rfl (by decide) rfl rfl rfl (Nat.le_of_ble_eq_true rfl) d_X_flush_14 (fun HX oX zP zD zS => ?_)
  refine wn_ieq_T (tgt := 24) zx zb d_X_flush_17 (by decide) (by omega) (by omega) ?_
  refine lv_iconst (v := (nI 0)) zx zb d_X_flush_24 (by decide) ?_
  exact ct_iret zQ zx zb zr zk zP zD zS d_X_flush_25 rfl (⟨rfl, rfl⟩)
set_option maxRecDepth 20000 in
theorem c_X_flush_d (lL : Launch) (g : Gt) (x : Nat) (l0 : Nat) (t0 : Nat) (p0 : Nat) (ba : Nat) (h0 : Nat) (r0 : Nat) (un : Int32) (l1 : Nat) (l2 : Nat) (l3 : Nat) (l4 : Nat) (k : Nat → Nat) (o : Nat → Nat) (ke : Nat → Nat) (va : Nat → Int32) (n : Nat) (sy : Nat) (p1 : Nat) (p2 : Nat) (p3 : Nat) (p4 : Nat) (p5 : Nat) (me : Nat → Int32) (ms : Nat → Int32) (dk : Nat → Int32) (ds : Nat → Nat) (du : Nat → Nat) (q : Nat) (hq : q < 8) (hn : n ≤ 512) (hs : sy ≤ n) (hd : 0 < ds q) (hd2 : ds q ≤ 512) (hu : du q ≤ sy) : Ct lL g y_X_flush (.code y_X_flush b_X_flush 2 (some .int)) 6 200 [.ref x, .int (nI q)] (wX g x l0 t0 p0 ba h0 r0 un ++ wLog g l0 l1 l2 l3 l4 k o ke va n sy ++ wPg g p0 p1 p2 p3 p4 p5 me ms dk ds du) (exP (some (.int (nI 1))) (wX g x l0 t0 p0 ba h0 r0 un ++ wLog g l0 l1 l2 l3 l4 k o ke va n sy ++ wPg g p0 p1 p2 p3 p4 p5 me ms (va_cpy me dk (q * 4) (q * 4) 4) (va_up ds q 0) (va_up du q 0))) := by
  refine Ct.ofW (by decide) (Nat.le_of_ble_eq_true rfl) ?_
  intro pX eX sX mX aX bX tX cX AX lsX HX oX QX zx zb zr zk zm zo zg zK zP zD zA zS zQ zl
  have zo : sX.vm.findClass R_X = some mX.cls := zo
  have zl : lv_has lsX 2 [(0, .ref x), (1, .int (nI q))] := zl
  refine lv_iload_n zx zb d_X_flush_0 rfl (lv_at zl 1 rfl) ?_
  refine wn_ilt_F (tgt := 10) zx zb d_X_flush_1 (by decide) (by omega) (trivial) ?_
  refine lv_iload_n zx zb d_X_flush_4 rfl (lv_at zl 1 rfl) ?_
  refine lv_bipush (v := (nI 8)) zx zb d_X_flush_5 (by decide) ?_
  refine wn_clt_T (tgt := 12) zx zb d_X_flush_7 (by decide) (by omega) (by omega) (by omega) ?_
  refine lv_aload_n zx zb d_X_flush_12 rfl (lv_at zl 0 rfl) ?_
  refine lv_iload_n zx zb d_X_flush_13 rfl (lv_at zl 1 rfl) ?_
  refine ct_V (ws' := wX g x l0 t0 p0 ba h0 r0 un ++ wLog g l0 l1 l2 l3 l4 k o ke va n sy ++ wPg g p0 p1 p2 p3 p4 p5 me ms (va_cpy me dk (q * 4) (q * 4) 4) (va_up ds q 0) (va_up du q 0)) (rest := []) (st1 := [.int (nI 1)]) zx zb zm zo zg zK zP zD zS zA zl.1 (c_X_flushPage_d lL g x l0 t0 p0 ba h0 r0 un l1 l2 l3 l4 k o ke va n sy p1 p2 p3 p4 p5 me ms dk ds du q (by omega) (by omega) (by omega) (by omega) (by omega) (by omega)) ok_X_flushPage ov_X_flushPage ml_X_100 (by decide) 0 0 rfl rfl rfl [0, 1, 2, 3, 4, 5, 6, 7, 8, 9, 10, 11] [] 12 (by decide) rfl rfl rfl rfl (by decide) rfl rfl rfl (Nat.le_of_ble_eq_true rfl) d_X_flush_14 (fun HX oX zP zD zS => ?_)
  refine wn_ieq_F (tgt := 24) zx zb d_X_flush_17 (by decide) (by omega) (by omega) ?_
  refine lv_iconst (v := (nI 1)) zx zb d_X_flush_20 (by decide) ?_
  refine lv_goto (tgt := 25) zx zb d_X_flush_21 (by decide) ?_
  exact ct_iret zQ zx zb zr zk zP zD zS d_X_flush_25 rfl (⟨rfl, rfl⟩)
set_option maxRecDepth 20000 in
theorem c_X_flush_s (lL : Launch) (g : Gt) (x : Nat) (l0 : Nat) (t0 : Nat) (p0 : Nat) (ba : Nat) (h0 : Nat) (r0 : Nat) (un : Int32) (l1 : Nat) (l2 : Nat) (l3 : Nat) (l4 : Nat) (k : Nat → Nat) (o : Nat → Nat) (ke : Nat → Nat) (va : Nat → Int32) (n : Nat) (sy : Nat) (p1 : Nat) (p2 : Nat) (p3 : Nat) (p4 : Nat) (p5 : Nat) (me : Nat → Int32) (ms : Nat → Int32) (dk : Nat → Int32) (ds : Nat → Nat) (du : Nat → Nat) (q : Nat) (hq : q < 8) (hn : n ≤ 512) (hs : sy ≤ n) (hd : 0 < ds q) (hd2 : ds q ≤ 512) (hu : sy < du q) (hu2 : du q ≤ 512) : Ct lL g y_X_flush (.code y_X_flush b_X_flush 2 (some .int)) 6 200 [.ref x, .int (nI q)] (wX g x l0 t0 p0 ba h0 r0 un ++ wLog g l0 l1 l2 l3 l4 k o ke va n sy ++ wPg g p0 p1 p2 p3 p4 p5 me ms dk ds du) (exP (some (.int (nI 1))) (wX g x l0 t0 p0 ba h0 r0 un ++ wLog g l0 l1 l2 l3 l4 k o ke va n n ++ wPg g p0 p1 p2 p3 p4 p5 me (va_cpy me ms 0 0 32) (va_cpy me dk (q * 4) (q * 4) 4) (va_up ds q 0) (va_up du q 0))) := by
  refine Ct.ofW (by decide) (Nat.le_of_ble_eq_true rfl) ?_
  intro pX eX sX mX aX bX tX cX AX lsX HX oX QX zx zb zr zk zm zo zg zK zP zD zA zS zQ zl
  have zo : sX.vm.findClass R_X = some mX.cls := zo
  have zl : lv_has lsX 2 [(0, .ref x), (1, .int (nI q))] := zl
  refine lv_iload_n zx zb d_X_flush_0 rfl (lv_at zl 1 rfl) ?_
  refine wn_ilt_F (tgt := 10) zx zb d_X_flush_1 (by decide) (by omega) (trivial) ?_
  refine lv_iload_n zx zb d_X_flush_4 rfl (lv_at zl 1 rfl) ?_
  refine lv_bipush (v := (nI 8)) zx zb d_X_flush_5 (by decide) ?_
  refine wn_clt_T (tgt := 12) zx zb d_X_flush_7 (by decide) (by omega) (by omega) (by omega) ?_
  refine lv_aload_n zx zb d_X_flush_12 rfl (lv_at zl 0 rfl) ?_
  refine lv_iload_n zx zb d_X_flush_13 rfl (lv_at zl 1 rfl) ?_
  refine ct_V (ws' := wX g x l0 t0 p0 ba h0 r0 un ++ wLog g l0 l1 l2 l3 l4 k o ke va n n ++ wPg g p0 p1 p2 p3 p4 p5 me (va_cpy me ms 0 0 32) (va_cpy me dk (q * 4) (q * 4) 4) (va_up ds q 0) (va_up du q 0)) (rest := []) (st1 := [.int (nI 1)]) zx zb zm zo zg zK zP zD zS zA zl.1 (c_X_flushPage_s lL g x l0 t0 p0 ba h0 r0 un l1 l2 l3 l4 k o ke va n sy p1 p2 p3 p4 p5 me ms dk ds du q (by omega) (by omega) (by omega) (by omega) (by omega) (by omega) (by omega)) ok_X_flushPage ov_X_flushPage ml_X_100 (by decide) 0 0 rfl rfl rfl [0, 1, 2, 3, 4, 5, 6, 7, 8, 9, 10, 11] [] 12 (by decide) rfl rfl rfl rfl (by decide) rfl rfl rfl (Nat.le_of_ble_eq_true rfl) d_X_flush_14 (fun HX oX zP zD zS => ?_)
  refine wn_ieq_F (tgt := 24) zx zb d_X_flush_17 (by decide) (by omega) (by omega) ?_
  refine lv_iconst (v := (nI 1)) zx zb d_X_flush_20 (by decide) ?_
  refine lv_goto (tgt := 25) zx zb d_X_flush_21 (by decide) ?_
  exact ct_iret zQ zx zb zr zk zP zD zS d_X_flush_25 rfl (⟨rfl, rfl⟩)
/-- every dirty page to disk -/
def mcS (me : Nat → Int32) : (Nat → Int32) → (Nat → Nat) → (Nat → Nat) → Nat → Nat → (Nat → Int32) × (Nat → Nat) × (Nat → Nat)
  | dk, ds, du, _, 0 => (dk, ds, du)
  | dk, ds, du, q, n + 1 => if 0 < ds q then mcS me (va_cpy me dk (q * 4) (q * 4) 4) (va_up ds q 0) (va_up du q 0) (q + 1) n else mcS me dk ds du (q + 1) n
set_option maxRecDepth 20000 in
theorem c_X_makeCheckpoint (lL : Launch) (g : Gt) (x : Nat) (l0 : Nat) (t0 : Nat) (p0 : Nat) (ba : Nat) (h0 : Nat) (r0 : Nat) (un : Int32) (l1 : Nat) (l2 : Nat) (l3 : Nat) (l4 : Nat) (k : Nat → Nat) (o : Nat → Nat) (ke : Nat → Nat) (va : Nat → Int32) (n : Nat) (sy : Nat) (t1 : Nat) (t2 : Nat) (t3 : Nat) (t4 : Nat) (c : Nat → Nat) (f : Nat → Nat) (tk : Nat → Nat) (tv : Nat → Int32) (p1 : Nat) (p2 : Nat) (p3 : Nat) (p4 : Nat) (p5 : Nat) (me : Nat → Int32) (ms : Nat → Int32) (dk : Nat → Int32) (ds : Nat → Nat) (du : Nat → Nat) (hn : n ≤ 512) (hs : sy ≤ n) (hd : ∀ j, j < 8 → ds j ≤ 512) (hu : ∀ j, j < 8 → du j ≤ n) (hc : ∀ t, t < 3 → c t ≤ 4) (hf : ∀ t, t < 3 → f t ≤ 512) : Ct lL g y_X_makeCheckpoint (.code y_X_makeCheckpoint b_X_makeCheckpoint 2 (some .int)) 3 67 [.ref x] (wX g x l0 t0 p0 ba h0 r0 un ++ wLog g l0 l1 l2 l3 l4 k o ke va n sy ++ wTr g t0 t1 t2 t3 t4 c f tk tv ++ wPg g p0 p1 p2 p3 p4 p5 me ms dk ds du) (exP (some (.int (nI (lfs c f 0 3 n)))) (wX g x l0 t0 p0 ba h0 r0 un ++ wLog g l0 l1 l2 l3 l4 k o ke va n n ++ wTr g t0 t1 t2 t3 t4 c f tk tv ++ wPg g p0 p1 p2 p3 p4 p5 me (va_cpy me ms 0 0 32) ((mcS me dk ds du 0 8).1) ((mcS me dk ds du 0 8).2.1) ((mcS me dk ds du 0 8).2.2))) := by
  refine Ct.ofW (by decide) (Nat.le_of_ble_eq_true rfl) ?_
  intro pX eX sX mX aX bX tX cX AX lsX HX oX QX zx zb zr zk zm zo zg zK zP zD zA zS zQ zl
  have zo : sX.vm.findClass R_X = some mX.cls := zo
  have zl : lv_has lsX 2 [(0, .ref x)] := zl
  refine lv_aload_n zx zb d_X_makeCheckpoint_0 rfl (lv_at zl 0 rfl) ?_
  refine ct_V (ws' := wX g x l0 t0 p0 ba h0 r0 un ++ wLog g l0 l1 l2 l3 l4 k o ke va n n ++ wTr g t0 t1 t2 t3 t4 c f tk tv ++ wPg g p0 p1 p2 p3 p4 p5 me (va_cpy me ms 0 0 32) dk ds du) (rest := []) (st1 := [.int (nI (n - sy))]) zx zb zm zo zg zK zP zD zS zA zl.1 (c_X_syncLog lL g x l0 t0 p0 ba h0 r0 un l1 l2 l3 l4 k o ke va n sy p1 p2 p3 p4 p5 me ms dk ds du (by omega)) ok_X_syncLog ov_X_syncLog ml_X_96 (by decide) 0 0 rfl rfl rfl [0, 1, 2, 3, 4, 5, 11, 12, 13, 14, 15, 16] [6, 7, 8, 9, 10] 17 (by decide) rfl rfl rfl rfl (by decide) rfl rfl rfl (Nat.le_of_ble_eq_true rfl) d_X_makeCheckpoint_1 (fun HX oX zP zD zS => ?_)
  refine lv_pop zx zb d_X_makeCheckpoint_4 rfl ?_
  refine lv_iconst (v := (nI 0)) zx zb d_X_makeCheckpoint_5 (by decide) ?_
  refine lv_istore_n (lv' := [(1, .int (nI 0)), (0, .ref x)]) zx zb d_X_makeCheckpoint_6 rfl zl (by decide) rfl (fun lsX zl => ?_)
  have loop7 : ∀ (kk : Nat) (q : Nat) (dkq : Nat → Int32) (dsq : Nat → Nat) (duq : Nat → Nat), kk = 8 - q → (q ≤ 8) → (∀ j, j < 8 → dsq j ≤ 512) → (∀ j, j < 8 → duq j ≤ n) → (mcS me dkq dsq duq q (8 - q) = mcS me dk ds du 0 8) → ∀ (lsX : Array Slot) (HX : Heap) (oX : List Loc), lv_has lsX 2 [(0, .ref x), (1, .int (nI q))] → va_P g.1 cls (wX g x l0 t0 p0 ba h0 r0 un ++ wLog g l0 l1 l2 l3 l4 k o ke va n n ++ wTr g t0 t1 t2 t3 t4 c f tk tv ++ wPg g p0 p1 p2 p3 p4 p5 me (va_cpy me ms 0 0 32) dkq dsq duq) HX → va_D AX (wX g x l0 t0 p0 ba h0 r0 un ++ wLog g l0 l1 l2 l3 l4 k o ke va n n ++ wTr g t0 t1 t2 t3 t4 c f tk tv ++ wPg g p0 p1 p2 p3 p4 p5 me (va_cpy me ms 0 0 32) dkq dsq duq) → va_S AX sX.heap HX oX → W pX lL eX (rmL 3 67) sX mX aX bX tX cX HX oX 0 0 QX (F0 mX 7 lsX []) := by
    intro kk
    induction kk using Nat.strongRecOn with
    | ind kk ih_loop7 =>
      intro q dkq dsq duq hkk hq hdd huu hi lsX HX oX zl zP zD zS
      rcases Nat.lt_or_ge q 8 with h3 | h3
      · have hdq := hdd q h3
        have huq := huu q h3
        have e3 : 8 - q = (8 - (q + 1)) + 1 := by omega
        rw [e3] at hi
        refine lv_iload_n zx zb d_X_makeCheckpoint_7 rfl (lv_at zl 1 rfl) ?_
        refine lv_bipush (v := (nI 8)) zx zb d_X_makeCheckpoint_8 (by decide) ?_
        refine wn_cge_F (tgt := 25) zx zb d_X_makeCheckpoint_10 (by decide) (by omega) (by omega) (by omega) ?_
        rcases Nat.eq_zero_or_pos (dsq q) with hz | hz
        · have hi : mcS me dkq dsq duq (q + 1) (8 - (q + 1)) = mcS me dk ds du 0 8 := (if_neg (by omega)).symm.trans hi
          refine lv_aload_n zx zb d_X_makeCheckpoint_13 rfl (lv_at zl 0 rfl) ?_
          refine lv_iload_n zx zb d_X_makeCheckpoint_14 rfl (lv_at zl 1 rfl) ?_
          refine ct_V (ws' := wX g x l0 t0 p0 ba h0 r0 un ++ wLog g l0 l1 l2 l3 l4 k o ke va n n ++ wTr g t0 t1 t2 t3 t4 c f tk tv ++ wPg g p0 p1 p2 p3 p4 p5 me (va_cpy me ms 0 0 32) dkq dsq duq) (rest := []) (st1 := [.int (nI 0)]) zx zb zm zo zg zK zP zD zS zA zl.1 (c_X_flushPage_c lL g x l0 t0 p0 ba h0 r0 un l1 l2 l3 l4 k o ke va n n p1 p2 p3 p4 p5 me (va_cpy me ms 0 0 32) dkq dsq duq q (by omega) (by omega)) ok_X_flushPage ov_X_flushPage ml_X_100 (by decide) 0 0 rfl rfl rfl [0, 1, 2, 3, 4, 5, 11, 12, 13, 14, 15, 16] [6, 7, 8, 9, 10] 17 (by decide) rfl rfl rfl rfl (by decide) rfl rfl rfl (Nat.le_of_ble_eq_true rfl) d_X_makeCheckpoint_15 (fun HX oX zP zD zS => ?_)
          refine lv_pop zx zb d_X_makeCheckpoint_18 rfl ?_
          refine lv_iinc (k := 1) (lv' := [(1, .int (nI (q + 1))), (0, .ref x)]) zx zb d_X_makeCheckpoint_19 zl rfl (ni_inc _) (by decide) rfl (fun lsX zl => ?_)
          refine lv_goto (tgt := 7) zx zb d_X_makeCheckpoint_22 (by decide) ?_
          exact ih_loop7 _ (by omega) (q + 1) dkq dsq duq rfl (by omega) hdd huu hi lsX HX oX (lv_sub zl [1, 0] rfl) zP zD zS
        · have hi : mcS me (va_cpy me dkq (q * 4) (q * 4) 4) (va_up dsq q 0) (va_up duq q 0) (q + 1) (8 - (q + 1)) = mcS me dk ds du 0 8 := (if_pos hz).symm.trans hi
          have hdd2 : ∀ j, j < 8 → va_up dsq q 0 j ≤ 512 := up_le (by omega) hdd
          have huu2 : ∀ j, j < 8 → va_up duq q 0 j ≤ n := up_le (by omega) huu
          refine lv_aload_n zx zb d_X_makeCheckpoint_13 rfl (lv_at zl 0 rfl) ?_
          refine lv_iload_n zx zb d_X_makeCheckpoint_14 rfl (lv_at zl 1 rfl) ?_
          refine ct_V (ws' := wX g x l0 t0 p0 ba h0 r0 un ++ wLog g l0 l1 l2 l3 l4 k o ke va n n ++ wTr g t0 t1 t2 t3 t4 c f tk tv ++ wPg g p0 p1 p2 p3 p4 p5 me (va_cpy me ms 0 0 32) (va_cpy me dkq (q * 4) (q * 4) 4) (va_up dsq q 0) (va_up duq q 0)) (rest := []) (st1 := [.int (nI 1)]) zx zb zm zo zg zK zP zD zS zA zl.1 (c_X_flushPage_d lL g x l0 t0 p0 ba h0 r0 un l1 l2 l3 l4 k o ke va n n p1 p2 p3 p4 p5 me (va_cpy me ms 0 0 32) dkq dsq duq q (by omega) (by omega) (by omega) (by omega) (by omega) (by omega)) ok_X_flushPage ov_X_flushPage ml_X_100 (by decide) 0 0 rfl rfl rfl [0, 1, 2, 3, 4, 5, 11, 12, 13, 14, 15, 16] [6, 7, 8, 9, 10] 17 (by decide) rfl rfl rfl rfl (by decide) rfl rfl rfl (Nat.le_of_ble_eq_true rfl) d_X_makeCheckpoint_15 (fun HX oX zP zD zS => ?_)
          refine lv_pop zx zb d_X_makeCheckpoint_18 rfl ?_
          refine lv_iinc (k := 1) (lv' := [(1, .int (nI (q + 1))), (0, .ref x)]) zx zb d_X_makeCheckpoint_19 zl rfl (ni_inc _) (by decide) rfl (fun lsX zl => ?_)
          refine lv_goto (tgt := 7) zx zb d_X_makeCheckpoint_22 (by decide) ?_
          exact ih_loop7 _ (by omega) (q + 1) (va_cpy me dkq (q * 4) (q * 4) 4) (va_up dsq q 0) (va_up duq q 0) rfl (by omega) hdd2 huu2 hi lsX HX oX (lv_sub zl [1, 0] rfl) zP zD zS
      · have e3 : q = 8 := by omega
        subst e3
        have hi : (dkq, dsq, duq) = mcS me dk ds du 0 8 := hi
        refine lv_iload_n zx zb d_X_makeCheckpoint_7 rfl (lv_at zl 1 rfl) ?_
        refine lv_bipush (v := (nI 8)) zx zb d_X_makeCheckpoint_8 (by decide) ?_
        refine wn_cge_T (tgt := 25) zx zb d_X_makeCheckpoint_10 (by decide) (by omega) (by omega) (by omega) ?_
        refine lv_aload_n zx zb d_X_makeCheckpoint_25 rfl (lv_at zl 0 rfl) ?_
        refine wv_get zx zb zg hin_X rfl zo zK zP 0 rfl 1 (by decide) rfl fl_X_19 rfl d_X_makeCheckpoint_26 ?_
        refine lv_aload_n zx zb d_X_makeCheckpoint_29 rfl (lv_at zl 0 rfl) ?_
        refine wv_get zx zb zg hin_X rfl zo zK zP 0 rfl 0 (by decide) rfl fl_X_12 rfl d_X_makeCheckpoint_30 ?_
        refine wv_get zx zb zg hin_Log rfl zo zK zP 1 rfl 4 (by decide) rfl fl_X_69 rfl d_X_makeCheckpoint_33 ?_
        refine ct_V (ws' := wX g x l0 t0 p0 ba h0 r0 un ++ wLog g l0 l1 l2 l3 l4 k o ke va n n ++ wTr g t0 t1 t2 t3 t4 c f tk tv ++ wPg g p0 p1 p2 p3 p4 p5 me (va_cpy me ms 0 0 32) dkq dsq duq) (rest := []) (st1 := [.int (nI (lfs c f 0 3 n))]) zx zb zm zo zg zK zP zD zS zA zl.1 (c_Tr_leastFirstSet lL g t0 t1 t2 t3 t4 c f tk tv n hc hf (by omega)) ok_Tr_leastFirstSet ov_Tr_leastFirstSet ml_X_205 (by decide) 6 2 rfl rfl rfl [6, 7, 8, 9, 10] [0, 1, 2, 3, 4, 5, 11, 12, 13, 14, 15, 16] 17 (by decide) rfl rfl rfl rfl (by decide) rfl rfl rfl (Nat.le_of_ble_eq_true rfl) d_X_makeCheckpoint_36 (fun HX oX zP zD zS => ?_)
        exact ct_iret zQ zx zb zr zk zP zD zS d_X_makeCheckpoint_39 rfl (⟨rfl, by rw [← hi]⟩)
  exact loop7 _ 0 dk ds du rfl (by omega) hd hu rfl lsX HX oX (lv_sub zl [1, 0] rfl) zP zD zS
set_option maxRecDepth 20000 in
theorem c_X_checkpoint (lL : Launch) (g : Gt) (x : Nat) (l0 : Nat) (t0 : Nat) (p0 : Nat) (ba : Nat) (h0 : Nat) (r0 : Nat) (un : Int32) (l1 : Nat) (l2 : Nat) (l3 : Nat) (l4 : Nat) (k : Nat → Nat) (o : Nat → Nat) (ke : Nat → Nat) (va : Nat → Int32) (n : Nat) (sy : Nat) (t1 : Nat) (t2 : Nat) (t3 : Nat) (t4 : Nat) (c : Nat → Nat) (f : Nat → Nat) (tk : Nat → Nat) (tv : Nat → Int32) (p1 : Nat) (p2 : Nat) (p3 : Nat) (p4 : Nat) (p5 : Nat) (me : Nat → Int32) (ms : Nat → Int32) (dk : Nat → Int32) (ds : Nat → Nat) (du : Nat → Nat) (hn : n ≤ 512) (hs : sy ≤ n) (hd : ∀ j, j < 8 → ds j ≤ 512) (hu : ∀ j, j < 8 → du j ≤ n) (hc : ∀ t, t < 3 → c t ≤ 4) (hf : ∀ t, t < 3 → f t ≤ 512) : Ct lL g y_X_checkpoint (.code y_X_checkpoint b_X_checkpoint 1 (some .int)) 6 200 [.ref x] (wX g x l0 t0 p0 ba h0 r0 un ++ wLog g l0 l1 l2 l3 l4 k o ke va n sy ++ wTr g t0 t1 t2 t3 t4 c f tk tv ++ wPg g p0 p1 p2 p3 p4 p5 me ms dk ds du) (exP (some (.int (nI (lfs c f 0 3 n)))) (wX g x l0 t0 p0 ba h0 r0 un ++ wLog g l0 l1 l2 l3 l4 k o ke va n n ++ wTr g t0 t1 t2 t3 t4 c f tk tv ++ wPg g p0 p1 p2 p3 p4 p5 me (va_cpy me ms 0 0 32) ((mcS me dk ds du 0 8).1) ((mcS me dk ds du 0 8).2.1) ((mcS me dk ds du 0 8).2.2))) := by
  refine Ct.ofW (by decide) (Nat.le_of_ble_eq_true rfl) ?_
  intro pX eX sX mX aX bX tX cX AX lsX HX oX QX zx zb zr zk zm zo zg zK zP zD zA zS zQ zl
  have zo : sX.vm.findClass R_X = some mX.cls := zo
  have zl : lv_has lsX 1 [(0, .ref x)] := zl
  refine lv_aload_n zx zb d_X_checkpoint_0 rfl (lv_at zl 0 rfl) ?_
  refine ct_V (ws' := wX g x l0 t0 p0 ba h0 r0 un ++ wLog g l0 l1 l2 l3 l4 k o ke va n n ++ wTr g t0 t1 t2 t3 t4 c f tk tv ++ wPg g p0 p1 p2 p3 p4 p5 me (va_cpy me ms 0 0 32) ((mcS me dk ds du 0 8).1) ((mcS me dk ds du 0 8).2.1) ((mcS me dk ds du 0 8).2.2)) (rest := []) (st1 := [.int (nI (lfs c f 0 3 n))]) zx zb zm zo zg zK zP zD zS zA zl.1 (c_X_makeCheckpoint lL g x l0 t0 p0 ba h0 r0 un l1 l2 l3 l4 k o ke va n sy t1 t2 t3 t4 c f tk tv p1 p2 p3 p4 p5 me ms dk ds du (by omega) (by omega) hd hu hc hf) ok_X_makeCheckpoint ov_X_makeCheckpoint ml_X_103 (by decide) 0 0 rfl rfl rfl [0, 1, 2, 3, 4, 5, 6, 7, 8, 9, 10, 11, 12, 13, 14, 15, 16] [] 17 (by decide) rfl rfl rfl rfl (by decide) rfl rfl rfl (Nat.le_of_ble_eq_true rfl) d_X_checkpoint_1 (fun HX oX zP zD zS => ?_)
  exact ct_iret zQ zx zb zr zk zP zD zS d_X_checkpoint_4 rfl (⟨rfl, rfl⟩)
set_option maxRecDepth 20000 in
theorem c_X_crash_i (lL : Launch) (g : Gt) (x : Nat) (l0 : Nat) (t0 : Nat) (p0 : Nat) (ba : Nat) (h0 : Nat) (r0 : Nat) (l1 : Nat) (l2 : Nat) (l3 : Nat) (l4 : Nat) (k : Nat → Nat) (o : Nat → Nat) (ke : Nat → Nat) (va : Nat → Int32) (n : Nat) (sy : Nat) (t1 : Nat) (t2 : Nat) (t3 : Nat) (t4 : Nat) (c : Nat → Nat) (f : Nat → Nat) (tk : Nat → Nat) (tv : Nat → Int32) (p1 : Nat) (p2 : Nat) (p3 : Nat) (p4 : Nat) (p5 : Nat) (me : Nat → Int32) (ms : Nat → Int32) (dk : Nat → Int32) (ds : Nat → Nat) (du : Nat → Nat) (hs : sy ≤ n) (hn : sy < 512) (hd : ∀ j, j < 8 → ds j ≤ 512) (hdu : ∀ j, j < 8 → du j ≤ 512) : Ct lL g y_X_crash (.code y_X_crash b_X_crash 2 (some .int)) 6 200 [.ref x] (wX g x l0 t0 p0 ba h0 r0 (-1) ++ wLog g l0 l1 l2 l3 l4 k o ke va n sy ++ wTr g t0 t1 t2 t3 t4 c f tk tv ++ wPg g p0 p1 p2 p3 p4 p5 me ms dk ds du) (exP (some (.int (nI (n - sy)))) (wX g x l0 t0 p0 ba h0 r0 (-1) ++ wLog g l0 l1 l2 l3 l4 (va_up k sy 3) (va_up o sy 0) (va_up ke sy 0) (upd va sy (nI 0)) (sy + 1) (sy + 1) ++ wTr g t0 t1 t2 t3 t4 (va_up (va_up (va_up c 0 0) 1 0) 2 0) f tk tv ++ wPg g p0 p1 p2 p3 p4 p5 (va_cpy ms me 0 0 32) (va_cpy (va_cpy ms me 0 0 32) ms 0 0 32) dk ((lcS sy ds du 0 8).1) ((lcS sy ds du 0 8).2))) := by
  refine Ct.ofW (by decide) (Nat.le_of_ble_eq_true rfl) ?_
  intro pX eX sX mX aX bX tX cX AX lsX HX oX QX zx zb zr zk zm zo zg zK zP zD zA zS zQ zl
  have zo : sX.vm.findClass R_X = some mX.cls := zo
  have zl : lv_has lsX 2 [(0, .ref x)] := zl
  refine lv_aload_n zx zb d_X_crash_0 rfl (lv_at zl 0 rfl) ?_
  refine wv_get zx zb zg hin_X rfl zo zK zP 0 rfl 0 (by decide) rfl fl_X_12 rfl d_X_crash_1 ?_
  refine ct_V (ws' := wX g x l0 t0 p0 ba h0 r0 (-1) ++ wLog g l0 l1 l2 l3 l4 k o ke va sy sy ++ wTr g t0 t1 t2 t3 t4 c f tk tv ++ wPg g p0 p1 p2 p3 p4 p5 me ms dk ds du) (rest := []) (st1 := [.int (nI (n - sy))]) zx zb zm zo zg zK zP zD zS zA zl.1 (c_Log_loseUnsynced lL g l0 l1 l2 l3 l4 k o ke va n sy (by omega)) ok_Log_loseUnsynced ov_Log_loseUnsynced ml_X_106 (by decide) 1 1 rfl rfl rfl [1, 2, 3, 4, 5] [0, 6, 7, 8, 9, 10, 11, 12, 13, 14, 15, 16] 17 (by decide) rfl rfl rfl rfl (by decide) rfl rfl rfl (Nat.le_of_ble_eq_true rfl) d_X_crash_4 (fun HX oX zP zD zS => ?_)
  refine lv_istore_n (lv' := [(1, .int (nI (n - sy))), (0, .ref x)]) zx zb d_X_crash_7 rfl zl (by decide) rfl (fun lsX zl => ?_)
  refine lv_aload_n zx zb d_X_crash_8 rfl (lv_at zl 1 rfl) ?_
  refine wv_get zx zb zg hin_X rfl zo zK zP 0 rfl 1 (by decide) rfl fl_X_19 rfl d_X_crash_9 ?_
  refine ct_V (ws' := wX g x l0 t0 p0 ba h0 r0 (-1) ++ wLog g l0 l1 l2 l3 l4 k o ke va sy sy ++ wTr g t0 t1 t2 t3 t4 (va_up (va_up (va_up c 0 0) 1 0) 2 0) f tk tv ++ wPg g p0 p1 p2 p3 p4 p5 me ms dk ds du) (rest := []) (st1 := []) zx zb zm zo zg zK zP zD zS zA zl.1 (c_Tr_closeAll lL g t0 t1 t2 t3 t4 c f tk tv) ok_Tr_closeAll ov_Tr_closeAll ml_X_109 (by decide) 6 2 rfl rfl rfl [6, 7, 8, 9, 10] [0, 1, 2, 3, 4, 5, 11, 12, 13, 14, 15, 16] 17 (by decide) rfl rfl rfl rfl (by decide) rfl rfl rfl (Nat.le_of_ble_eq_true rfl) d_X_crash_12 (fun HX oX zP zD zS => ?_)
  refine lv_aload_n zx zb d_X_crash_15 rfl (lv_at zl 1 rfl) ?_
  refine wv_get zx zb zg hin_X rfl zo zK zP 0 rfl 2 (by decide) rfl fl_X_26 rfl d_X_crash_16 ?_
  refine lv_aload_n zx zb d_X_crash_19 rfl (lv_at zl 1 rfl) ?_
  refine wv_get zx zb zg hin_X rfl zo zK zP 0 rfl 0 (by decide) rfl fl_X_12 rfl d_X_crash_20 ?_
  refine wv_get zx zb zg hin_Log rfl zo zK zP 1 rfl 5 (by decide) rfl fl_X_112 rfl d_X_crash_23 ?_
  refine ct_V (ws' := wX g x l0 t0 p0 ba h0 r0 (-1) ++ wLog g l0 l1 l2 l3 l4 k o ke va sy sy ++ wTr g t0 t1 t2 t3 t4 (va_up (va_up (va_up c 0 0) 1 0) 2 0) f tk tv ++ wPg g p0 p1 p2 p3 p4 p5 (va_cpy ms me 0 0 32) ms dk ((lcS sy ds du 0 8).1) ((lcS sy ds du 0 8).2)) (rest := []) (st1 := []) zx zb zm zo zg zK zP zD zS zA zl.1 (c_Pg_lose lL g p0 p1 p2 p3 p4 p5 me ms dk ds du sy (by omega) hd hdu) ok_Pg_loseCommitsBehind ov_Pg_loseCommitsBehind ml_X_115 (by decide) 11 3 rfl rfl rfl [11, 12, 13, 14, 15, 16] [0, 1, 2, 3, 4, 5, 6, 7, 8, 9, 10] 17 (by decide) rfl rfl rfl rfl (by decide) rfl rfl rfl (Nat.le_of_ble_eq_true rfl) d_X_crash_26 (fun HX oX zP zD zS => ?_)
  refine lv_aload_n zx zb d_X_crash_29 rfl (lv_at zl 1 rfl) ?_
  refine wv_get zx zb zg hin_X rfl zo zK zP 0 rfl 6 (by decide) rfl fl_X_51 rfl d_X_crash_30 ?_
  refine lv_iconst (v := (-1)) zx zb d_X_crash_33 (by decide) ?_
  refine lv_icmp_eq (tgt := 54) zx zb d_X_crash_34 (by decide) (fun _ => ?_) (fun h => absurd h (fun h => h rfl))
  refine lv_aload_n zx zb d_X_crash_54 rfl (lv_at zl 1 rfl) ?_
  refine wv_get zx zb zg hin_X rfl zo zK zP 0 rfl 0 (by decide) rfl fl_X_12 rfl d_X_crash_55 ?_
  refine ct_V (ws' := wX g x l0 t0 p0 ba h0 r0 (-1) ++ wLog g l0 l1 l2 l3 l4 k o ke va sy sy ++ wTr g t0 t1 t2 t3 t4 (va_up (va_up (va_up c 0 0) 1 0) 2 0) f tk tv ++ wPg g p0 p1 p2 p3 p4 p5 (va_cpy ms me 0 0 32) ms dk ((lcS sy ds du 0 8).1) ((lcS sy ds du 0 8).2)) (rest := []) (st1 := [.int (nI 0)]) zx zb zm zo zg zK zP zD zS zA zl.1 (c_Log_isFull lL g l0 l1 l2 l3 l4 k o ke va sy sy (by omega)) ok_Log_isFull ov_Log_isFull ml_X_65 (by decide) 1 1 rfl rfl rfl [1, 2, 3, 4, 5] [0, 6, 7, 8, 9, 10, 11, 12, 13, 14, 15, 16] 17 (by decide) rfl rfl rfl rfl (by decide) rfl rfl rfl (Nat.le_of_ble_eq_true rfl) d_X_crash_58 (fun HX oX zP zD zS => ?_)
  refine wn_ine_F (tgt := 76) zx zb d_X_crash_61 (by decide) (by omega) (by omega) ?_
  refine lv_aload_n zx zb d_X_crash_64 rfl (lv_at zl 1 rfl) ?_
  refine wv_get zx zb zg hin_X rfl zo zK zP 0 rfl 0 (by decide) rfl fl_X_12 rfl d_X_crash_65 ?_
  refine lv_iconst (v := (nI 3)) zx zb d_X_crash_68 (by decide) ?_
  refine lv_iconst (v := (nI 0)) zx zb d_X_crash_69 (by decide) ?_
  refine lv_iconst (v := (nI 0)) zx zb d_X_crash_70 (by decide) ?_
  refine lv_iconst (v := (nI 0)) zx zb d_X_crash_71 (by decide) ?_
  refine ct_V (ws' := wX g x l0 t0 p0 ba h0 r0 (-1) ++ wLog g l0 l1 l2 l3 l4 (va_up k sy 3) (va_up o sy 0) (va_up ke sy 0) (upd va sy (nI 0)) (sy + 1) sy ++ wTr g t0 t1 t2 t3 t4 (va_up (va_up (va_up c 0 0) 1 0) 2 0) f tk tv ++ wPg g p0 p1 p2 p3 p4 p5 (va_cpy ms me 0 0 32) ms dk ((lcS sy ds du 0 8).1) ((lcS sy ds du 0 8).2)) (rest := []) (st1 := [.int (nI (sy + 1))]) zx zb zm zo zg zK zP zD zS zA zl.1 (c_Log_append lL g l0 l1 l2 l3 l4 k o ke va sy sy 3 0 0 (nI 0) (by omega)) ok_Log_append ov_Log_append ml_X_76 (by decide) 1 1 rfl rfl rfl [1, 2, 3, 4, 5] [0, 6, 7, 8, 9, 10, 11, 12, 13, 14, 15, 16] 17 (by decide) rfl rfl rfl rfl (by decide) rfl rfl rfl (Nat.le_of_ble_eq_true rfl) d_X_crash_72 (fun HX oX zP zD zS => ?_)
  refine lv_pop zx zb d_X_crash_75 rfl ?_
  refine lv_aload_n zx zb d_X_crash_76 rfl (lv_at zl 1 rfl) ?_
  refine ct_V (ws' := wX g x l0 t0 p0 ba h0 r0 (-1) ++ wLog g l0 l1 l2 l3 l4 (va_up k sy 3) (va_up o sy 0) (va_up ke sy 0) (upd va sy (nI 0)) (sy + 1) (sy + 1) ++ wTr g t0 t1 t2 t3 t4 (va_up (va_up (va_up c 0 0) 1 0) 2 0) f tk tv ++ wPg g p0 p1 p2 p3 p4 p5 (va_cpy ms me 0 0 32) (va_cpy (va_cpy ms me 0 0 32) ms 0 0 32) dk ((lcS sy ds du 0 8).1) ((lcS sy ds du 0 8).2)) (rest := []) (st1 := [.int (nI ((sy + 1) - sy))]) zx zb zm zo zg zK zP zD zS zA zl.1 (c_X_syncLog lL g x l0 t0 p0 ba h0 r0 (-1) l1 l2 l3 l4 (va_up k sy 3) (va_up o sy 0) (va_up ke sy 0) (upd va sy (nI 0)) (sy + 1) sy p1 p2 p3 p4 p5 (va_cpy ms me 0 0 32) ms dk ((lcS sy ds du 0 8).1) ((lcS sy ds du 0 8).2) (by omega)) ok_X_syncLog ov_X_syncLog ml_X_96 (by decide) 0 0 rfl rfl rfl [0, 1, 2, 3, 4, 5, 11, 12, 13, 14, 15, 16] [6, 7, 8, 9, 10] 17 (by decide) rfl rfl rfl rfl (by decide) rfl rfl rfl (Nat.le_of_ble_eq_true rfl) d_X_crash_77 (fun HX oX zP zD zS => ?_)
  refine lv_pop zx zb d_X_crash_80 rfl ?_
  refine lv_iload_n zx zb d_X_crash_81 rfl (lv_at zl 0 rfl) ?_
  exact ct_iret zQ zx zb zr zk zP zD zS d_X_crash_82 rfl (⟨rfl, rfl⟩)
set_option maxRecDepth 20000 in
theorem c_X_crash_b (lL : Launch) (g : Gt) (x : Nat) (l0 : Nat) (t0 : Nat) (p0 : Nat) (ba : Nat) (h0 : Nat) (r0 : Nat) (l1 : Nat) (l2 : Nat) (l3 : Nat) (l4 : Nat) (k : Nat → Nat) (o : Nat → Nat) (ke : Nat → Nat) (va : Nat → Int32) (n : Nat) (sy : Nat) (t1 : Nat) (t2 : Nat) (t3 : Nat) (t4 : Nat) (c : Nat → Nat) (f : Nat → Nat) (tk : Nat → Nat) (tv : Nat → Int32) (p1 : Nat) (p2 : Nat) (p3 : Nat) (p4 : Nat) (p5 : Nat) (me : Nat → Int32) (ms : Nat → Int32) (dk : Nat → Int32) (ds : Nat → Nat) (du : Nat → Nat) (b : Nat → Nat) (b1 : Nat) (bv : Nat → Int32) (pr : Nat) (fi : Nat) (st : Nat) (cp : Nat) (en : Nat) (pg : Nat) (j : Nat) (hs : sy ≤ n) (hn : sy < 512) (hd : ∀ j, j < 8 → ds j ≤ 512) (hdu : ∀ j, j < 8 → du j ≤ 512) (hj : j < 3) : Ct lL g y_X_crash (.code y_X_crash b_X_crash 2 (some .int)) 6 200 [.ref x] (wX g x l0 t0 p0 ba h0 r0 (nI j) ++ wLog g l0 l1 l2 l3 l4 k o ke va n sy ++ wTr g t0 t1 t2 t3 t4 c f tk tv ++ wPg g p0 p1 p2 p3 p4 p5 me ms dk ds du ++ wBA g ba b ++ wBk g (b j) b1 bv pr fi st cp en pg) (exP (some (.int (nI (n - sy)))) (wX g x l0 t0 p0 ba h0 r0 (-1) ++ wLog g l0 l1 l2 l3 l4 (va_up k sy 3) (va_up o sy 0) (va_up ke sy 0) (upd va sy (nI 0)) (sy + 1) (sy + 1) ++ wTr g t0 t1 t2 t3 t4 (va_up (va_up (va_up c 0 0) 1 0) 2 0) f tk tv ++ wPg g p0 p1 p2 p3 p4 p5 (va_cpy ms me 0 0 32) (va_cpy (va_cpy ms me 0 0 32) ms 0 0 32) dk ((lcS sy ds du 0 8).1) ((lcS sy ds du 0 8).2) ++ wBA g ba b ++ wBk g (b j) b1 bv 0 0 st cp en pg)) := by
  refine Ct.ofW (by decide) (Nat.le_of_ble_eq_true rfl) ?_
  intro pX eX sX mX aX bX tX cX AX lsX HX oX QX zx zb zr zk zm zo zg zK zP zD zA zS zQ zl
  have zo : sX.vm.findClass R_X = some mX.cls := zo
  have zl : lv_has lsX 2 [(0, .ref x)] := zl
  refine lv_aload_n zx zb d_X_crash_0 rfl (lv_at zl 0 rfl) ?_
  refine wv_get zx zb zg hin_X rfl zo zK zP 0 rfl 0 (by decide) rfl fl_X_12 rfl d_X_crash_1 ?_
  refine ct_V (ws' := wX g x l0 t0 p0 ba h0 r0 (nI j) ++ wLog g l0 l1 l2 l3 l4 k o ke va sy sy ++ wTr g t0 t1 t2 t3 t4 c f tk tv ++ wPg g p0 p1 p2 p3 p4 p5 me ms dk ds du ++ wBA g ba b ++ wBk g (b j) b1 bv pr fi st cp en pg) (rest := []) (st1 := [.int (nI (n - sy))]) zx zb zm zo zg zK zP zD zS zA zl.1 (c_Log_loseUnsynced lL g l0 l1 l2 l3 l4 k o ke va n sy (by omega)) ok_Log_loseUnsynced ov_Log_loseUnsynced ml_X_106 (by decide) 1 1 rfl rfl rfl [1, 2, 3, 4, 5] [0, 6, 7, 8, 9, 10, 11, 12, 13, 14, 15, 16, 17, 18, 19] 20 (by decide) rfl rfl rfl rfl (by decide) rfl rfl rfl (Nat.le_of_ble_eq_true rfl) d_X_crash_4 (fun HX oX zP zD zS => ?_)
  refine lv_istore_n (lv' := [(1, .int (nI (n - sy))), (0, .ref x)]) zx zb d_X_crash_7 rfl zl (by decide) rfl (fun lsX zl => ?_)
  refine lv_aload_n zx zb d_X_crash_8 rfl (lv_at zl 1 rfl) ?_
  refine wv_get zx zb zg hin_X rfl zo zK zP 0 rfl 1 (by decide) rfl fl_X_19 rfl d_X_crash_9 ?_
  refine ct_V (ws' := wX g x l0 t0 p0 ba h0 r0 (nI j) ++ wLog g l0 l1 l2 l3 l4 k o ke va sy sy ++ wTr g t0 t1 t2 t3 t4 (va_up (va_up (va_up c 0 0) 1 0) 2 0) f tk tv ++ wPg g p0 p1 p2 p3 p4 p5 me ms dk ds du ++ wBA g ba b ++ wBk g (b j) b1 bv pr fi st cp en pg) (rest := []) (st1 := []) zx zb zm zo zg zK zP zD zS zA zl.1 (c_Tr_closeAll lL g t0 t1 t2 t3 t4 c f tk tv) ok_Tr_closeAll ov_Tr_closeAll ml_X_109 (by decide) 6 2 rfl rfl rfl [6, 7, 8, 9, 10] [0, 1, 2, 3, 4, 5, 11, 12, 13, 14, 15, 16, 17, 18, 19] 20 (by decide) rfl rfl rfl rfl (by decide) rfl rfl rfl (Nat.le_of_ble_eq_true rfl) d_X_crash_12 (fun HX oX zP zD zS => ?_)
  refine lv_aload_n zx zb d_X_crash_15 rfl (lv_at zl 1 rfl) ?_
  refine wv_get zx zb zg hin_X rfl zo zK zP 0 rfl 2 (by decide) rfl fl_X_26 rfl d_X_crash_16 ?_
  refine lv_aload_n zx zb d_X_crash_19 rfl (lv_at zl 1 rfl) ?_
  refine wv_get zx zb zg hin_X rfl zo zK zP 0 rfl 0 (by decide) rfl fl_X_12 rfl d_X_crash_20 ?_
  refine wv_get zx zb zg hin_Log rfl zo zK zP 1 rfl 5 (by decide) rfl fl_X_112 rfl d_X_crash_23 ?_
  refine ct_V (ws' := wX g x l0 t0 p0 ba h0 r0 (nI j) ++ wLog g l0 l1 l2 l3 l4 k o ke va sy sy ++ wTr g t0 t1 t2 t3 t4 (va_up (va_up (va_up c 0 0) 1 0) 2 0) f tk tv ++ wPg g p0 p1 p2 p3 p4 p5 (va_cpy ms me 0 0 32) ms dk ((lcS sy ds du 0 8).1) ((lcS sy ds du 0 8).2) ++ wBA g ba b ++ wBk g (b j) b1 bv pr fi st cp en pg) (rest := []) (st1 := []) zx zb zm zo zg zK zP zD zS zA zl.1 (c_Pg_lose lL g p0 p1 p2 p3 p4 p5 me ms dk ds du sy (by omega) hd hdu) ok_Pg_loseCommitsBehind ov_Pg_loseCommitsBehind ml_X_115 (by decide) 11 3 rfl rfl rfl [11, 12, 13, 14, 15, 16] [0, 1, 2, 3, 4, 5, 6, 7, 8, 9, 10, 17, 18, 19] 20 (by decide) rfl rfl rfl rfl (by decide) rfl rfl rfl (Nat.le_of_ble_eq_true rfl) d_X_crash_26 (fun HX oX zP zD zS => ?_)
  refine lv_aload_n zx zb d_X_crash_29 rfl (lv_at zl 1 rfl) ?_
  refine wv_get zx zb zg hin_X rfl zo zK zP 0 rfl 6 (by decide) rfl fl_X_51 rfl d_X_crash_30 ?_
  refine lv_iconst (v := (-1)) zx zb d_X_crash_33 (by decide) ?_
  refine lv_icmp_eq (tgt := 54) zx zb d_X_crash_34 (by decide) (fun h => absurd h (ni_ne_m1 (by omega))) (fun _ => ?_)
  refine lv_aload_n zx zb d_X_crash_37 rfl (lv_at zl 1 rfl) ?_
  refine wv_get zx zb zg hin_X rfl zo zK zP 0 rfl 3 (by decide) rfl fl_X_46 rfl d_X_crash_38 ?_
  refine lv_aload_n zx zb d_X_crash_41 rfl (lv_at zl 1 rfl) ?_
  refine wv_get zx zb zg hin_X rfl zo zK zP 0 rfl 6 (by decide) rfl fl_X_51 rfl d_X_crash_42 ?_
  refine wv_aald (v := b j) zx zb zK zP 17 rfl rfl (by omega) (by decide) d_X_crash_45 ?_
  refine ct_V (ws' := wX g x l0 t0 p0 ba h0 r0 (nI j) ++ wLog g l0 l1 l2 l3 l4 k o ke va sy sy ++ wTr g t0 t1 t2 t3 t4 (va_up (va_up (va_up c 0 0) 1 0) 2 0) f tk tv ++ wPg g p0 p1 p2 p3 p4 p5 (va_cpy ms me 0 0 32) ms dk ((lcS sy ds du 0 8).1) ((lcS sy ds du 0 8).2) ++ wBA g ba b ++ wBk g (b j) b1 bv 0 0 st cp en pg) (rest := []) (st1 := []) zx zb zm zo zg zK zP zD zS zA zl.1 (c_Bk_remove lL g (b j) b1 bv pr fi st cp en pg) ok_Bk_remove ov_Bk_remove ml_X_118 (by decide) 18 4 rfl rfl rfl [18, 19] [0, 1, 2, 3, 4, 5, 6, 7, 8, 9, 10, 11, 12, 13, 14, 15, 16, 17] 20 (by decide) rfl rfl rfl rfl (by decide) rfl rfl rfl (Nat.le_of_ble_eq_true rfl) d_X_crash_46 (fun HX oX zP zD zS => ?_)
  refine lv_aload_n zx zb d_X_crash_49 rfl (lv_at zl 1 rfl) ?_
  refine lv_iconst (v := (-1)) zx zb d_X_crash_50 (by decide) ?_
  refine wv_put zx zb zg hin_X rfl t_X t_X_ok n_X zo zK zP zD zS 0 rfl 6 (by decide) rfl fl_X_51 rfl rfl rfl (Nat.le_of_ble_eq_true rfl) d_X_crash_51 (fun HX oX zP zD zS => ?_)
  have zP : va_P g.1 cls (wX g x l0 t0 p0 ba h0 r0 (-1) ++ wLog g l0 l1 l2 l3 l4 k o ke va sy sy ++ wTr g t0 t1 t2 t3 t4 (va_up (va_up (va_up c 0 0) 1 0) 2 0) f tk tv ++ wPg g p0 p1 p2 p3 p4 p5 (va_cpy ms me 0 0 32) ms dk ((lcS sy ds du 0 8).1) ((lcS sy ds du 0 8).2) ++ wBA g ba b ++ wBk g (b j) b1 bv 0 0 st cp en pg) HX := zP
  have zD : va_D AX (wX g x l0 t0 p0 ba h0 r0 (-1) ++ wLog g l0 l1 l2 l3 l4 k o ke va sy sy ++ wTr g t0 t1 t2 t3 t4 (va_up (va_up (va_up c 0 0) 1 0) 2 0) f tk tv ++ wPg g p0 p1 p2 p3 p4 p5 (va_cpy ms me 0 0 32) ms dk ((lcS sy ds du 0 8).1) ((lcS sy ds du 0 8).2) ++ wBA g ba b ++ wBk g (b j) b1 bv 0 0 st cp en pg) := zD
  refine lv_aload_n zx zb d_X_crash_54 rfl (lv_at zl 1 rfl) ?_
  refine wv_get zx zb zg hin_X rfl zo zK zP 0 rfl 0 (by decide) rfl fl_X_12 rfl d_X_crash_55 ?_
  refine ct_V (ws' := wX g x l0 t0 p0 ba h0 r0 (-1) ++ wLog g l0 l1 l2 l3 l4 k o ke va sy sy ++ wTr g t0 t1 t2 t3 t4 (va_up (va_up (va_up c 0 0) 1 0) 2 0) f tk tv ++ wPg g p0 p1 p2 p3 p4 p5 (va_cpy ms me 0 0 32) ms dk ((lcS sy ds du 0 8).1) ((lcS sy ds du 0 8).2) ++ wBA g ba b ++ wBk g (b j) b1 bv 0 0 st cp en pg) (rest := []) (st1 := [.int (nI 0)]) zx zb zm zo zg zK zP zD zS zA zl.1 (c_Log_isFull lL g l0 l1 l2 l3 l4 k o ke va sy sy (by omega)) ok_Log_isFull ov_Log_isFull ml_X_65 (by decide) 1 1 rfl rfl rfl [1, 2, 3, 4, 5] [0, 6, 7, 8, 9, 10, 11, 12, 13, 14, 15, 16, 17, 18, 19] 20 (by decide) rfl rfl rfl rfl (by decide) rfl rfl rfl (Nat.le_of_ble_eq_true rfl) d_X_crash_58 (fun HX oX zP zD zS => ?_)
  refine wn_ine_F (tgt := 76) zx zb d_X_crash_61 (by decide) (by omega) (by omega) ?_
  refine lv_aload_n zx zb d_X_crash_64 rfl (lv_at zl 1 rfl) ?_
  refine wv_get zx zb zg hin_X rfl zo zK zP 0 rfl 0 (by decide) rfl fl_X_12 rfl d_X_crash_65 ?_
  refine lv_iconst (v := (nI 3)) zx zb d_X_crash_68 (by decide) ?_
  refine lv_iconst (v := (nI 0)) zx zb d_X_crash_69 (by decide) ?_
  refine lv_iconst (v := (nI 0)) zx zb d_X_crash_70 (by decide) ?_
  refine lv_iconst (v := (nI 0)) zx zb d_X_crash_71 (by decide) ?_
  refine ct_V (ws' := wX g x l0 t0 p0 ba h0 r0 (-1) ++ wLog g l0 l1 l2 l3 l4 (va_up k sy 3) (va_up o sy 0) (va_up ke sy 0) (upd va sy (nI 0)) (sy + 1) sy ++ wTr g t0 t1 t2 t3 t4 (va_up (va_up (va_up c 0 0) 1 0) 2 0) f tk tv ++ wPg g p0 p1 p2 p3 p4 p5 (va_cpy ms me 0 0 32) ms dk ((lcS sy ds du 0 8).1) ((lcS sy ds du 0 8).2) ++ wBA g ba b ++ wBk g (b j) b1 bv 0 0 st cp en pg) (rest := []) (st1 := [.int (nI (sy + 1))]) zx zb zm zo zg zK zP zD zS zA zl.1 (c_Log_append lL g l0 l1 l2 l3 l4 k o ke va sy sy 3 0 0 (nI 0) (by omega)) ok_Log_append ov_Log_append ml_X_76 (by decide) 1 1 rfl rfl rfl [1, 2, 3, 4, 5] [0, 6, 7, 8, 9, 10, 11, 12, 13, 14, 15, 16, 17, 18, 19] 20 (by decide) rfl rfl rfl rfl (by decide) rfl rfl rfl (Nat.le_of_ble_eq_true rfl) d_X_crash_72 (fun HX oX zP zD zS => ?_)
  refine lv_pop zx zb d_X_crash_75 rfl ?_
  refine lv_aload_n zx zb d_X_crash_76 rfl (lv_at zl 1 rfl) ?_
  refine ct_V (ws' := wX g x l0 t0 p0 ba h0 r0 (-1) ++ wLog g l0 l1 l2 l3 l4 (va_up k sy 3) (va_up o sy 0) (va_up ke sy 0) (upd va sy (nI 0)) (sy + 1) (sy + 1) ++ wTr g t0 t1 t2 t3 t4 (va_up (va_up (va_up c 0 0) 1 0) 2 0) f tk tv ++ wPg g p0 p1 p2 p3 p4 p5 (va_cpy ms me 0 0 32) (va_cpy (va_cpy ms me 0 0 32) ms 0 0 32) dk ((lcS sy ds du 0 8).1) ((lcS sy ds du 0 8).2) ++ wBA g ba b ++ wBk g (b j) b1 bv 0 0 st cp en pg) (rest := []) (st1 := [.int (nI ((sy + 1) - sy))]) zx zb zm zo zg zK zP zD zS zA zl.1 (c_X_syncLog lL g x l0 t0 p0 ba h0 r0 (-1) l1 l2 l3 l4 (va_up k sy 3) (va_up o sy 0) (va_up ke sy 0) (upd va sy (nI 0)) (sy + 1) sy p1 p2 p3 p4 p5 (va_cpy ms me 0 0 32) ms dk ((lcS sy ds du 0 8).1) ((lcS sy ds du 0 8).2) (by omega)) ok_X_syncLog ov_X_syncLog ml_X_96 (by decide) 0 0 rfl rfl rfl [0, 1, 2, 3, 4, 5, 11, 12, 13, 14, 15, 16] [6, 7, 8, 9, 10, 17, 18, 19] 20 (by decide) rfl rfl rfl rfl (by decide) rfl rfl rfl (Nat.le_of_ble_eq_true rfl) d_X_crash_77 (fun HX oX zP zD zS => ?_)
  refine lv_pop zx zb d_X_crash_80 rfl ?_
  refine lv_iload_n zx zb d_X_crash_81 rfl (lv_at zl 0 rfl) ?_
  exact ct_iret zQ zx zb zr zk zP zD zS d_X_crash_82 rfl (⟨rfl, rfl⟩)
set_option maxRecDepth 20000 in
theorem c_X_free_0 (lL : Launch) (g : Gt) (x : Nat) (l0 : Nat) (t0 : Nat) (p0 : Nat) (ba : Nat) (h0 : Nat) (r0 : Nat) (un : Int32) (b : Nat → Nat) (v0 : Nat) (bv0 : Nat → Int32) (pr0 : Nat) (fi0 : Nat) (st0 : Nat) (cp0 : Nat) (en0 : Nat) (pg0 : Nat) (v1 : Nat) (bv1 : Nat → Int32) (pr1 : Nat) (fi1 : Nat) (st1 : Nat) (cp1 : Nat) (en1 : Nat) (pg1 : Nat) (v2 : Nat) (bv2 : Nat → Int32) (pr2 : Nat) (fi2 : Nat) (st2 : Nat) (cp2 : Nat) (en2 : Nat) (pg2 : Nat) (p0_ : pr0 = 0) : Ct lL g y_X_leastFreeBackup (.code y_X_leastFreeBackup b_X_leastFreeBackup 2 (some .int)) 0 0 [.ref x] (wX g x l0 t0 p0 ba h0 r0 un ++ wBA g ba b ++ wBk g (b 0) v0 bv0 pr0 fi0 st0 cp0 en0 pg0 ++ wBk g (b 1) v1 bv1 pr1 fi1 st1 cp1 en1 pg1 ++ wBk g (b 2) v2 bv2 pr2 fi2 st2 cp2 en2 pg2) (exP (some (.int (nI 0))) (wX g x l0 t0 p0 ba h0 r0 un ++ wBA g ba b ++ wBk g (b 0) v0 bv0 pr0 fi0 st0 cp0 en0 pg0 ++ wBk g (b 1) v1 bv1 pr1 fi1 st1 cp1 en1 pg1 ++ wBk g (b 2) v2 bv2 pr2 fi2 st2 cp2 en2 pg2)) := by
  refine Ct.ofW (by decide) (Nat.le_of_ble_eq_true rfl) ?_
  intro pX eX sX mX aX bX tX cX AX lsX HX oX QX zx zb zr zk zm zo zg zK zP zD zA zS zQ zl
  have zo : sX.vm.findClass R_X = some mX.cls := zo
  have zl : lv_has lsX 2 [(0, .ref x)] := zl
  refine lv_iconst (v := (nI 0)) zx zb d_X_leastFreeBackup_0 (by decide) ?_
  refine lv_istore_n (lv' := [(1, .int (nI 0)), (0, .ref x)]) zx zb d_X_leastFreeBackup_1 rfl zl (by decide) rfl (fun lsX zl => ?_)
  refine lv_iload_n zx zb d_X_leastFreeBackup_2 rfl (lv_at zl 0 rfl) ?_
  refine lv_iconst (v := (nI 3)) zx zb d_X_leastFreeBackup_3 (by decide) ?_
  refine wn_cge_F (tgt := 27) zx zb d_X_leastFreeBackup_4 (by decide) (by omega) (by omega) (by omega) ?_
  refine lv_aload_n zx zb d_X_leastFreeBackup_7 rfl (lv_at zl 1 rfl) ?_
  refine wv_get zx zb zg hin_X rfl zo zK zP 0 rfl 3 (by decide) rfl fl_X_46 rfl d_X_leastFreeBackup_8 ?_
  refine lv_iload_n zx zb d_X_leastFreeBackup_11 rfl (lv_at zl 0 rfl) ?_
  refine wv_aald (v := b 0) zx zb zK zP 1 rfl rfl (by omega) (by decide) d_X_leastFreeBackup_12 ?_
  refine wv_get zx zb zg hin_Bk rfl zo zK zP 2 rfl 1 (by decide) rfl fl_X_187 rfl d_X_leastFreeBackup_13 ?_
  refine wn_ine_F (tgt := 21) zx zb d_X_leastFreeBackup_16 (by decide) (by omega) (by omega) ?_
  refine lv_iload_n zx zb d_X_leastFreeBackup_19 rfl (lv_at zl 0 rfl) ?_
  exact ct_iret zQ zx zb zr zk zP zD zS d_X_leastFreeBackup_20 rfl (⟨rfl, rfl⟩)
set_option maxRecDepth 20000 in
theorem c_X_free_1 (lL : Launch) (g : Gt) (x : Nat) (l0 : Nat) (t0 : Nat) (p0 : Nat) (ba : Nat) (h0 : Nat) (r0 : Nat) (un : Int32) (b : Nat → Nat) (v0 : Nat) (bv0 : Nat → Int32) (pr0 : Nat) (fi0 : Nat) (st0 : Nat) (cp0 : Nat) (en0 : Nat) (pg0 : Nat) (v1 : Nat) (bv1 : Nat → Int32) (pr1 : Nat) (fi1 : Nat) (st1 : Nat) (cp1 : Nat) (en1 : Nat) (pg1 : Nat) (v2 : Nat) (bv2 : Nat → Int32) (pr2 : Nat) (fi2 : Nat) (st2 : Nat) (cp2 : Nat) (en2 : Nat) (pg2 : Nat) (p0_ : pr0 = 1) (p1_ : pr1 = 0) : Ct lL g y_X_leastFreeBackup (.code y_X_leastFreeBackup b_X_leastFreeBackup 2 (some .int)) 0 0 [.ref x] (wX g x l0 t0 p0 ba h0 r0 un ++ wBA g ba b ++ wBk g (b 0) v0 bv0 pr0 fi0 st0 cp0 en0 pg0 ++ wBk g (b 1) v1 bv1 pr1 fi1 st1 cp1 en1 pg1 ++ wBk g (b 2) v2 bv2 pr2 fi2 st2 cp2 en2 pg2) (exP (some (.int (nI 1))) (wX g x l0 t0 p0 ba h0 r0 un ++ wBA g ba b ++ wBk g (b 0) v0 bv0 pr0 fi0 st0 cp0 en0 pg0 ++ wBk g (b 1) v1 bv1 pr1 fi1 st1 cp1 en1 pg1 ++ wBk g (b 2) v2 bv2 pr2 fi2 st2 cp2 en2 pg2)) := by
  refine Ct.ofW (by decide) (Nat.le_of_ble_eq_true rfl) ?_
  intro pX eX sX mX aX bX tX cX AX lsX HX oX QX zx zb zr zk zm zo zg zK zP zD zA zS zQ zl
  have zo : sX.vm.findClass R_X = some mX.cls := zo
  have zl : lv_has lsX 2 [(0, .ref x)] := zl
  refine lv_iconst (v := (nI 0)) zx zb d_X_leastFreeBackup_0 (by decide) ?_
  refine lv_istore_n (lv' := [(1, .int (nI 0)), (0, .ref x)]) zx zb d_X_leastFreeBackup_1 rfl zl (by decide) rfl (fun lsX zl => ?_)
  refine lv_iload_n zx zb d_X_leastFreeBackup_2 rfl (lv_at zl 0 rfl) ?_
  refine lv_iconst (v := (nI 3)) zx zb d_X_leastFreeBackup_3 (by decide) ?_
  refine wn_cge_F (tgt := 27) zx zb d_X_leastFreeBackup_4 (by decide) (by omega) (by omega) (by omega) ?_
  refine lv_aload_n zx zb d_X_leastFreeBackup_7 rfl (lv_at zl 1 rfl) ?_
  refine wv_get zx zb zg hin_X rfl zo zK zP 0 rfl 3 (by decide) rfl fl_X_46 rfl d_X_leastFreeBackup_8 ?_
  refine lv_iload_n zx zb d_X_leastFreeBackup_11 rfl (lv_at zl 0 rfl) ?_
  refine wv_aald (v := b 0) zx zb zK zP 1 rfl rfl (by omega) (by decide) d_X_leastFreeBackup_12 ?_
  refine wv_get zx zb zg hin_Bk rfl zo zK zP 2 rfl 1 (by decide) rfl fl_X_187 rfl d_X_leastFreeBackup_13 ?_
  refine wn_ine_T (tgt := 21) zx zb d_X_leastFreeBackup_16 (by decide) (by omega) (by omega) ?_
  refine lv_iinc (k := 0) (lv' := [(1, .int (nI 1)), (0, .ref x)]) zx zb d_X_leastFreeBackup_21 zl rfl (ni_inc _) (by decide) rfl (fun lsX zl => ?_)
  refine lv_goto (tgt := 2) zx zb d_X_leastFreeBackup_24 (by decide) ?_
  refine lv_iload_n zx zb d_X_leastFreeBackup_2 rfl (lv_at zl 0 rfl) ?_
  refine lv_iconst (v := (nI 3)) zx zb d_X_leastFreeBackup_3 (by decide) ?_
  refine wn_cge_F (tgt := 27) zx zb d_X_leastFreeBackup_4 (by decide) (by omega) (by omega) (by omega) ?_
  refine lv_aload_n zx zb d_X_leastFreeBackup_7 rfl (lv_at zl 1 rfl) ?_
  refine wv_get zx zb zg hin_X rfl zo zK zP 0 rfl 3 (by decide) rfl fl_X_46 rfl d_X_leastFreeBackup_8 ?_
  refine lv_iload_n zx zb d_X_leastFreeBackup_11 rfl (lv_at zl 0 rfl) ?_
  refine wv_aald (v := b 1) zx zb zK zP 1 rfl rfl (by omega) (by decide) d_X_leastFreeBackup_12 ?_
  refine wv_get zx zb zg hin_Bk rfl zo zK zP 4 rfl 1 (by decide) rfl fl_X_187 rfl d_X_leastFreeBackup_13 ?_
  refine wn_ine_F (tgt := 21) zx zb d_X_leastFreeBackup_16 (by decide) (by omega) (by omega) ?_
  refine lv_iload_n zx zb d_X_leastFreeBackup_19 rfl (lv_at zl 0 rfl) ?_
  exact ct_iret zQ zx zb zr zk zP zD zS d_X_leastFreeBackup_20 rfl (⟨rfl, rfl⟩)
set_option maxRecDepth 20000 in
theorem c_X_free_2 (lL : Launch) (g : Gt) (x : Nat) (l0 : Nat) (t0 : Nat) (p0 : Nat) (ba : Nat) (h0 : Nat) (r0 : Nat) (un : Int32) (b : Nat → Nat) (v0 : Nat) (bv0 : Nat → Int32) (pr0 : Nat) (fi0 : Nat) (st0 : Nat) (cp0 : Nat) (en0 : Nat) (pg0 : Nat) (v1 : Nat) (bv1 : Nat → Int32) (pr1 : Nat) (fi1 : Nat) (st1 : Nat) (cp1 : Nat) (en1 : Nat) (pg1 : Nat) (v2 : Nat) (bv2 : Nat → Int32) (pr2 : Nat) (fi2 : Nat) (st2 : Nat) (cp2 : Nat) (en2 : Nat) (pg2 : Nat) (p0_ : pr0 = 1) (p1_ : pr1 = 1) (p2_ : pr2 = 0) : Ct lL g y_X_leastFreeBackup (.code y_X_leastFreeBackup b_X_leastFreeBackup 2 (some .int)) 0 0 [.ref x] (wX g x l0 t0 p0 ba h0 r0 un ++ wBA g ba b ++ wBk g (b 0) v0 bv0 pr0 fi0 st0 cp0 en0 pg0 ++ wBk g (b 1) v1 bv1 pr1 fi1 st1 cp1 en1 pg1 ++ wBk g (b 2) v2 bv2 pr2 fi2 st2 cp2 en2 pg2) (exP (some (.int (nI 2))) (wX g x l0 t0 p0 ba h0 r0 un ++ wBA g ba b ++ wBk g (b 0) v0 bv0 pr0 fi0 st0 cp0 en0 pg0 ++ wBk g (b 1) v1 bv1 pr1 fi1 st1 cp1 en1 pg1 ++ wBk g (b 2) v2 bv2 pr2 fi2 st2 cp2 en2 pg2)) := by
  refine Ct.ofW (by decide) (Nat.le_of_ble_eq_true rfl) ?_
  intro pX eX sX mX aX bX tX cX AX lsX HX oX QX zx zb zr zk zm zo zg zK zP zD zA zS zQ zl
  have zo : sX.vm.findClass R_X = some mX.cls := zo
  have zl : lv_has lsX 2 [(0, .ref x)] := zl
  refine lv_iconst (v := (nI 0)) zx zb d_X_leastFreeBackup_0 (by decide) ?_
  refine lv_istore_n (lv' := [(1, .int (nI 0)), (0, .ref x)]) zx zb d_X_leastFreeBackup_1 rfl zl (by decide) rfl (fun lsX zl => ?_)
  refine lv_iload_n zx zb d_X_leastFreeBackup_2 rfl (lv_at zl 0 rfl) ?_
  refine lv_iconst (v := (nI 3)) zx zb d_X_leastFreeBackup_3 (by decide) ?_
  refine wn_cge_F (tgt := 27) zx zb d_X_leastFreeBackup_4 (by decide) (by omega) (by omega) (by omega) ?_
  refine lv_aload_n zx zb d_X_leastFreeBackup_7 rfl (lv_at zl 1 rfl) ?_
  refine wv_get zx zb zg hin_X rfl zo zK zP 0 rfl 3 (by decide) rfl fl_X_46 rfl d_X_leastFreeBackup_8 ?_
  refine lv_iload_n zx zb d_X_leastFreeBackup_11 rfl (lv_at zl 0 rfl) ?_
  refine wv_aald (v := b 0) zx zb zK zP 1 rfl rfl (by omega) (by decide) d_X_leastFreeBackup_12 ?_
  refine wv_get zx zb zg hin_Bk rfl zo zK zP 2 rfl 1 (by decide) rfl fl_X_187 rfl d_X_leastFreeBackup_13 ?_
  refine wn_ine_T (tgt := 21) zx zb d_X_leastFreeBackup_16 (by decide) (by omega) (by omega) ?_
  refine lv_iinc (k := 0) (lv' := [(1, .int (nI 1)), (0, .ref x)]) zx zb d_X_leastFreeBackup_21 zl rfl (ni_inc _) (by decide) rfl (fun lsX zl => ?_)
  refine lv_goto (tgt := 2) zx zb d_X_leastFreeBackup_24 (by decide) ?_
  refine lv_iload_n zx zb d_X_leastFreeBackup_2 rfl (lv_at zl 0 rfl) ?_
  refine lv_iconst (v := (nI 3)) zx zb d_X_leastFreeBackup_3 (by decide) ?_
  refine wn_cge_F (tgt := 27) zx zb d_X_leastFreeBackup_4 (by decide) (by omega) (by omega) (by omega) ?_
  refine lv_aload_n zx zb d_X_leastFreeBackup_7 rfl (lv_at zl 1 rfl) ?_
  refine wv_get zx zb zg hin_X rfl zo zK zP 0 rfl 3 (by decide) rfl fl_X_46 rfl d_X_leastFreeBackup_8 ?_
  refine lv_iload_n zx zb d_X_leastFreeBackup_11 rfl (lv_at zl 0 rfl) ?_
  refine wv_aald (v := b 1) zx zb zK zP 1 rfl rfl (by omega) (by decide) d_X_leastFreeBackup_12 ?_
  refine wv_get zx zb zg hin_Bk rfl zo zK zP 4 rfl 1 (by decide) rfl fl_X_187 rfl d_X_leastFreeBackup_13 ?_
  refine wn_ine_T (tgt := 21) zx zb d_X_leastFreeBackup_16 (by decide) (by omega) (by omega) ?_
  refine lv_iinc (k := 0) (lv' := [(1, .int (nI 2)), (0, .ref x)]) zx zb d_X_leastFreeBackup_21 zl rfl (ni_inc _) (by decide) rfl (fun lsX zl => ?_)
  refine lv_goto (tgt := 2) zx zb d_X_leastFreeBackup_24 (by decide) ?_
  refine lv_iload_n zx zb d_X_leastFreeBackup_2 rfl (lv_at zl 0 rfl) ?_
  refine lv_iconst (v := (nI 3)) zx zb d_X_leastFreeBackup_3 (by decide) ?_
  refine wn_cge_F (tgt := 27) zx zb d_X_leastFreeBackup_4 (by decide) (by omega) (by omega) (by omega) ?_
  refine lv_aload_n zx zb d_X_leastFreeBackup_7 rfl (lv_at zl 1 rfl) ?_
  refine wv_get zx zb zg hin_X rfl zo zK zP 0 rfl 3 (by decide) rfl fl_X_46 rfl d_X_leastFreeBackup_8 ?_
  refine lv_iload_n zx zb d_X_leastFreeBackup_11 rfl (lv_at zl 0 rfl) ?_
  refine wv_aald (v := b 2) zx zb zK zP 1 rfl rfl (by omega) (by decide) d_X_leastFreeBackup_12 ?_
  refine wv_get zx zb zg hin_Bk rfl zo zK zP 6 rfl 1 (by decide) rfl fl_X_187 rfl d_X_leastFreeBackup_13 ?_
  refine wn_ine_F (tgt := 21) zx zb d_X_leastFreeBackup_16 (by decide) (by omega) (by omega) ?_
  refine lv_iload_n zx zb d_X_leastFreeBackup_19 rfl (lv_at zl 0 rfl) ?_
  exact ct_iret zQ zx zb zr zk zP zD zS d_X_leastFreeBackup_20 rfl (⟨rfl, rfl⟩)
set_option maxRecDepth 20000 in
theorem c_X_free_x (lL : Launch) (g : Gt) (x : Nat) (l0 : Nat) (t0 : Nat) (p0 : Nat) (ba : Nat) (h0 : Nat) (r0 : Nat) (un : Int32) (b : Nat → Nat) (v0 : Nat) (bv0 : Nat → Int32) (pr0 : Nat) (fi0 : Nat) (st0 : Nat) (cp0 : Nat) (en0 : Nat) (pg0 : Nat) (v1 : Nat) (bv1 : Nat → Int32) (pr1 : Nat) (fi1 : Nat) (st1 : Nat) (cp1 : Nat) (en1 : Nat) (pg1 : Nat) (v2 : Nat) (bv2 : Nat → Int32) (pr2 : Nat) (fi2 : Nat) (st2 : Nat) (cp2 : Nat) (en2 : Nat) (pg2 : Nat) (p0_ : pr0 = 1) (p1_ : pr1 = 1) (p2_ : pr2 = 1) : Ct lL g y_X_leastFreeBackup (.code y_X_leastFreeBackup b_X_leastFreeBackup 2 (some .int)) 0 0 [.ref x] (wX g x l0 t0 p0 ba h0 r0 un ++ wBA g ba b ++ wBk g (b 0) v0 bv0 pr0 fi0 st0 cp0 en0 pg0 ++ wBk g (b 1) v1 bv1 pr1 fi1 st1 cp1 en1 pg1 ++ wBk g (b 2) v2 bv2 pr2 fi2 st2 cp2 en2 pg2) (exP (some (.int (-1))) (wX g x l0 t0 p0 ba h0 r0 un ++ wBA g ba b ++ wBk g (b 0) v0 bv0 pr0 fi0 st0 cp0 en0 pg0 ++ wBk g (b 1) v1 bv1 pr1 fi1 st1 cp1 en1 pg1 ++ wBk g (b 2) v2 bv2 pr2 fi2 st2 cp2 en2 pg2)) := by
  refine Ct.ofW (by decide) (Nat.le_of_ble_eq_true rfl) ?_
  intro pX eX sX mX aX bX tX cX AX lsX HX oX QX zx zb zr zk zm zo zg zK zP zD zA zS zQ zl
  have zo : sX.vm.findClass R_X = some mX.cls := zo
  have zl : lv_has lsX 2 [(0, .ref x)] := zl
  refine lv_iconst (v := (nI 0)) zx zb d_X_leastFreeBackup_0 (by decide) ?_
  refine lv_istore_n (lv' := [(1, .int (nI 0)), (0, .ref x)]) zx zb d_X_leastFreeBackup_1 rfl zl (by decide) rfl (fun lsX zl => ?_)
  refine lv_iload_n zx zb d_X_leastFreeBackup_2 rfl (lv_at zl 0 rfl) ?_
  refine lv_iconst (v := (nI 3)) zx zb d_X_leastFreeBackup_3 (by decide) ?_
  refine wn_cge_F (tgt := 27) zx zb d_X_leastFreeBackup_4 (by decide) (by omega) (by omega) (by omega) ?_
  refine lv_aload_n zx zb d_X_leastFreeBackup_7 rfl (lv_at zl 1 rfl) ?_
  refine wv_get zx zb zg hin_X rfl zo zK zP 0 rfl 3 (by decide) rfl fl_X_46 rfl d_X_leastFreeBackup_8 ?_
  refine lv_iload_n zx zb d_X_leastFreeBackup_11 rfl (lv_at zl 0 rfl) ?_
  refine wv_aald (v := b 0) zx zb zK zP 1 rfl rfl (by omega) (by decide) d_X_leastFreeBackup_12 ?_
  refine wv_get zx zb zg hin_Bk rfl zo zK zP 2 rfl 1 (by decide) rfl fl_X_187 rfl d_X_leastFreeBackup_13 ?_
  refine wn_ine_T (tgt := 21) zx zb d_X_leastFreeBackup_16 (by decide) (by omega) (by omega) ?_
  refine lv_iinc (k := 0) (lv' := [(1, .int (nI 1)), (0, .ref x)]) zx zb d_X_leastFreeBackup_21 zl rfl (ni_inc _) (by decide) rfl (fun lsX zl => ?_)
  refine lv_goto (tgt := 2) zx zb d_X_leastFreeBackup_24 (by decide) ?_
  refine lv_iload_n zx zb d_X_leastFreeBackup_2 rfl (lv_at zl 0 rfl) ?_
  refine lv_iconst (v := (nI 3)) zx zb d_X_leastFreeBackup_3 (by decide) ?_
  refine wn_cge_F (tgt := 27) zx zb d_X_leastFreeBackup_4 (by decide) (by omega) (by omega) (by omega) ?_
  refine lv_aload_n zx zb d_X_leastFreeBackup_7 rfl (lv_at zl 1 rfl) ?_
  refine wv_get zx zb zg hin_X rfl zo zK zP 0 rfl 3 (by decide) rfl fl_X_46 rfl d_X_leastFreeBackup_8 ?_
  refine lv_iload_n zx zb d_X_leastFreeBackup_11 rfl (lv_at zl 0 rfl) ?_
  refine wv_aald (v := b 1) zx zb zK zP 1 rfl rfl (by omega) (by decide) d_X_leastFreeBackup_12 ?_
  refine wv_get zx zb zg hin_Bk rfl zo zK zP 4 rfl 1 (by decide) rfl fl_X_187 rfl d_X_leastFreeBackup_13 ?_
  refine wn_ine_T (tgt := 21) zx zb d_X_leastFreeBackup_16 (by decide) (by omega) (by omega) ?_
  refine lv_iinc (k := 0) (lv' := [(1, .int (nI 2)), (0, .ref x)]) zx zb d_X_leastFreeBackup_21 zl rfl (ni_inc _) (by decide) rfl (fun lsX zl => ?_)
  refine lv_goto (tgt := 2) zx zb d_X_leastFreeBackup_24 (by decide) ?_
  refine lv_iload_n zx zb d_X_leastFreeBackup_2 rfl (lv_at zl 0 rfl) ?_
  refine lv_iconst (v := (nI 3)) zx zb d_X_leastFreeBackup_3 (by decide) ?_
  refine wn_cge_F (tgt := 27) zx zb d_X_leastFreeBackup_4 (by decide) (by omega) (by omega) (by omega) ?_
  refine lv_aload_n zx zb d_X_leastFreeBackup_7 rfl (lv_at zl 1 rfl) ?_
  refine wv_get zx zb zg hin_X rfl zo zK zP 0 rfl 3 (by decide) rfl fl_X_46 rfl d_X_leastFreeBackup_8 ?_
  refine lv_iload_n zx zb d_X_leastFreeBackup_11 rfl (lv_at zl 0 rfl) ?_
  refine wv_aald (v := b 2) zx zb zK zP 1 rfl rfl (by omega) (by decide) d_X_leastFreeBackup_12 ?_
  refine wv_get zx zb zg hin_Bk rfl zo zK zP 6 rfl 1 (by decide) rfl fl_X_187 rfl d_X_leastFreeBackup_13 ?_
  refine wn_ine_T (tgt := 21) zx zb d_X_leastFreeBackup_16 (by decide) (by omega) (by omega) ?_
  refine lv_iinc (k := 0) (lv' := [(1, .int (nI 3)), (0, .ref x)]) zx zb d_X_leastFreeBackup_21 zl rfl (ni_inc _) (by decide) rfl (fun lsX zl => ?_)
  refine lv_goto (tgt := 2) zx zb d_X_leastFreeBackup_24 (by decide) ?_
  refine lv_iload_n zx zb d_X_leastFreeBackup_2 rfl (lv_at zl 0 rfl) ?_
  refine lv_iconst (v := (nI 3)) zx zb d_X_leastFreeBackup_3 (by decide) ?_
  refine wn_cge_T (tgt := 27) zx zb d_X_leastFreeBackup_4 (by decide) (by omega) (by omega) (by omega) ?_
  refine lv_iconst (v := (-1)) zx zb d_X_leastFreeBackup_27 (by decide) ?_
  exact ct_iret zQ zx zb zr zk zP zD zS d_X_leastFreeBackup_28 rfl (⟨rfl, rfl⟩)
set_option maxRecDepth 20000 in
theorem c_X_backup_u (lL : Launch) (g : Gt) (x : Nat) (l0 : Nat) (t0 : Nat) (p0 : Nat) (ba : Nat) (h0 : Nat) (r0 : Nat) (j : Nat) (hj : j < 3) : Ct lL g y_X_backup (.code y_X_backup b_X_backup 3 (some .int)) 6 200 [.ref x] (wX g x l0 t0 p0 ba h0 r0 (nI j)) (exP (some (.int (-1))) (wX g x l0 t0 p0 ba h0 r0 (nI j))) := by
  refine Ct.ofW (by decide) (Nat.le_of_ble_eq_true rfl) ?_
  intro pX eX sX mX aX bX tX cX AX lsX HX oX QX zx zb zr zk zm zo zg zK zP zD zA zS zQ zl
  have zo : sX.vm.findClass R_X = some mX.cls := zo
  have zl : lv_has lsX 3 [(0, .ref x)] := zl
  refine lv_aload_n zx zb d_X_backup_0 rfl (lv_at zl 0 rfl) ?_
  refine wv_get zx zb zg hin_X rfl zo zK zP 0 rfl 6 (by decide) rfl fl_X_51 rfl d_X_backup_1 ?_
  refine lv_iconst (v := (-1)) zx zb d_X_backup_4 (by decide) ?_
  refine lv_icmp_eq (tgt := 10) zx zb d_X_backup_5 (by decide) (fun h => absurd h (ni_ne_m1 (by omega))) (fun _ => ?_)
  refine lv_iconst (v := (-1)) zx zb d_X_backup_8 (by decide) ?_
  exact ct_iret zQ zx zb zr zk zP zD zS d_X_backup_9 rfl (⟨rfl, rfl⟩)
set_option maxRecDepth 20000 in
theorem c_X_backup_x (lL : Launch) (g : Gt) (x : Nat) (l0 : Nat) (t0 : Nat) (p0 : Nat) (ba : Nat) (h0 : Nat) (r0 : Nat) (b : Nat → Nat) (v0 : Nat) (bv0 : Nat → Int32) (pr0 : Nat) (fi0 : Nat) (st0 : Nat) (cp0 : Nat) (en0 : Nat) (pg0 : Nat) (v1 : Nat) (bv1 : Nat → Int32) (pr1 : Nat) (fi1 : Nat) (st1 : Nat) (cp1 : Nat) (en1 : Nat) (pg1 : Nat) (v2 : Nat) (bv2 : Nat → Int32) (pr2 : Nat) (fi2 : Nat) (st2 : Nat) (cp2 : Nat) (en2 : Nat) (pg2 : Nat) (p0_ : pr0 = 1) (p1_ : pr1 = 1) (p2_ : pr2 = 1) : Ct lL g y_X_backup (.code y_X_backup b_X_backup 3 (some .int)) 6 200 [.ref x] (wX g x l0 t0 p0 ba h0 r0 (-1) ++ wBA g ba b ++ wBk g (b 0) v0 bv0 pr0 fi0 st0 cp0 en0 pg0 ++ wBk g (b 1) v1 bv1 pr1 fi1 st1 cp1 en1 pg1 ++ wBk g (b 2) v2 bv2 pr2 fi2 st2 cp2 en2 pg2) (exP (some (.int (-2))) (wX g x l0 t0 p0 ba h0 r0 (-1) ++ wBA g ba b ++ wBk g (b 0) v0 bv0 pr0 fi0 st0 cp0 en0 pg0 ++ wBk g (b 1) v1 bv1 pr1 fi1 st1 cp1 en1 pg1 ++ wBk g (b 2) v2 bv2 pr2 fi2 st2 cp2 en2 pg2)) := by
  refine Ct.ofW (by decide) (Nat.le_of_ble_eq_true rfl) ?_
  intro pX eX sX mX aX bX tX cX AX lsX HX oX QX zx zb zr zk zm zo zg zK zP zD zA zS zQ zl
  have zo : sX.vm.findClass R_X = some mX.cls := zo
  have zl : lv_has lsX 3 [(0, .ref x)] := zl
  refine lv_aload_n zx zb d_X_backup_0 rfl (lv_at zl 0 rfl) ?_
  refine wv_get zx zb zg hin_X rfl zo zK zP 0 rfl 6 (by decide) rfl fl_X_51 rfl d_X_backup_1 ?_
  refine lv_iconst (v := (-1)) zx zb d_X_backup_4 (by decide) ?_
  refine lv_icmp_eq (tgt := 10) zx zb d_X_backup_5 (by decide) (fun _ => ?_) (fun h => absurd h (fun h => h rfl))
  refine lv_aload_n zx zb d_X_backup_10 rfl (lv_at zl 0 rfl) ?_
  refine ct_V (ws' := wX g x l0 t0 p0 ba h0 r0 (-1) ++ wBA g ba b ++ wBk g (b 0) v0 bv0 pr0 fi0 st0 cp0 en0 pg0 ++ wBk g (b 1) v1 bv1 pr1 fi1 st1 cp1 en1 pg1 ++ wBk g (b 2) v2 bv2 pr2 fi2 st2 cp2 en2 pg2) (rest := []) (st1 := [.int (-1)]) zx zb zm zo zg zK zP zD zS zA zl.1 (c_X_free_x lL g x l0 t0 p0 ba h0 r0 (-1) b v0 bv0 pr0 fi0 st0 cp0 en0 pg0 v1 bv1 pr1 fi1 st1 cp1 en1 pg1 v2 bv2 pr2 fi2 st2 cp2 en2 pg2 (by omega) (by omega) (by omega)) ok_X_leastFreeBackup ov_X_leastFreeBackup ml_X_121 (by decide) 0 0 rfl rfl rfl [0, 1, 2, 3, 4, 5, 6, 7] [] 8 (by decide) rfl rfl rfl rfl (by decide) rfl rfl rfl (Nat.le_of_ble_eq_true rfl) d_X_backup_11 (fun HX oX zP zD zS => ?_)
  refine lv_istore_n (lv' := [(1, .int (-1)), (0, .ref x)]) zx zb d_X_backup_14 rfl zl (by decide) rfl (fun lsX zl => ?_)
  refine lv_iload_n zx zb d_X_backup_15 rfl (lv_at zl 0 rfl) ?_
  refine lv_iconst (v := (-1)) zx zb d_X_backup_16 (by decide) ?_
  refine lv_icmp_ne (tgt := 23) zx zb d_X_backup_17 (by decide) (fun h => absurd h (fun h => h rfl)) (fun _ => ?_)
  refine lv_bipush (v := (-2)) zx zb d_X_backup_20 (by decide) ?_
  exact ct_iret zQ zx zb zr zk zP zD zS d_X_backup_22 rfl (⟨rfl, rfl⟩)
