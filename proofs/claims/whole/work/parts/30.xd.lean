set_option maxRecDepth 20000 in
theorem c_X_bound_x (lL : Launch) (g : Gt) (x : Nat) (l0 : Nat) (t0 : Nat) (p0 : Nat) (ba : Nat) (h0 : Nat) (r0 : Nat) (un : Int32) (b : Nat → Nat) (b1 : Nat) (bv : Nat → Int32) (pr : Nat) (fi : Nat) (st : Nat) (cp : Nat) (en : Nat) (pg : Nat) (j : Nat) (wh : Int32) (hj : j < 3) (hfi : fi = 1) (hw0 : ¬ wh = 0) (hw1 : ¬ wh = 1) : Ct lL g y_X_bound (.code y_X_bound b_X_bound 3 (some .int)) 6 200 [.ref x, .int (nI j), .int wh] (wX g x l0 t0 p0 ba h0 r0 un ++ wBA g ba b ++ wBk g (b j) b1 bv pr fi st cp en pg) (exP (some (.int (-1))) (wX g x l0 t0 p0 ba h0 r0 un ++ wBA g ba b ++ wBk g (b j) b1 bv pr fi st cp en pg)) := by
  refine Ct.ofW (by decide) (Nat.le_of_ble_eq_true rfl) ?_
  intro pX eX sX mX aX bX tX cX AX lsX HX oX QX zx zb zr zk zm zo zg zK zP zD zA zS zQ zl
  have zo : sX.vm.findClass R_X = some mX.cls := zo
  have zl : lv_has lsX 3 [(0, .ref x), (1, .int (nI j)), (2, .int wh)] := zl
  refine lv_aload_n zx zb d_X_bound_0 rfl (lv_at zl 0 rfl) ?_
  refine lv_iload_n zx zb d_X_bound_1 rfl (lv_at zl 1 rfl) ?_
  refine ct_V (rest := []) zx zb zm zo zg zK zP zD zS zA zl.1 (c_X_isFin_t lL g x l0 t0 p0 ba h0 r0 un b b1 bv pr fi st cp en pg j (by omega) (by omega)) ok_X_isFinishedBackup ov_X_isFinishedBackup ml_X_138 (by decide) 0 0 rfl rfl rfl [0, 1, 2, 3] (by decide) rfl rfl rfl (Nat.le_of_ble_eq_true rfl) d_X_bound_2 (fun rX uX HX oX zp zP zD zS => ?_)
  obtain ⟨rfl, rfl⟩ := zp
  have zP : va_P g.1 cls (wX g x l0 t0 p0 ba h0 r0 un ++ wBA g ba b ++ wBk g (b j) b1 bv pr fi st cp en pg) HX := zP
  have zD : va_D AX (wX g x l0 t0 p0 ba h0 r0 un ++ wBA g ba b ++ wBk g (b j) b1 bv pr fi st cp en pg) := zD
  refine W.eq (g2 := F0 mX 5 lsX [.int (nI 1)]) rfl ?_
  refine wn_ine_T (tgt := 10) zx zb d_X_bound_5 (by decide) (by omega) (by omega) ?_
  refine lv_iload_n zx zb d_X_bound_10 rfl (lv_at zl 2 rfl) ?_
  refine lv_lookup (tgt := 56) (off := 45) zx zb d_X_bound_11 (by decide) (by rw [lv_osw hw0 (by decide), lv_osw hw1 (by decide)]; rfl) (by decide) ?_
  refine lv_iconst (v := (-1)) zx zb d_X_bound_56 (by decide) ?_
  exact ct_iret zQ zx zb zr zk zP zD zS d_X_bound_57 rfl (⟨rfl, rfl⟩)
set_option maxRecDepth 20000 in
theorem c_X_archive_e (lL : Launch) (g : Gt) (x : Nat) (l0 : Nat) (t0 : Nat) (p0 : Nat) (ba : Nat) (h0 : Nat) (r0 : Nat) (un : Int32) (l1 : Nat) (l2 : Nat) (l3 : Nat) (l4 : Nat) (k : Nat → Nat) (o : Nat → Nat) (ke : Nat → Nat) (va : Nat → Int32) (n : Nat) (sy : Nat) (h1 : Nat) (hd : Nat → Nat) (hc : Nat) (nx : Nat) (hnx : nx = 64) : Ct lL g y_X_archive (.code y_X_archive b_X_archive 1 (some .int)) 6 200 [.ref x] (wX g x l0 t0 p0 ba h0 r0 un ++ wLog g l0 l1 l2 l3 l4 k o ke va n sy ++ wAr g h0 h1 hd hc nx) (exP (some (.int (-3))) (wX g x l0 t0 p0 ba h0 r0 un ++ wLog g l0 l1 l2 l3 l4 k o ke va n sy ++ wAr g h0 h1 hd hc nx)) := by
  refine Ct.ofW (by decide) (Nat.le_of_ble_eq_true rfl) ?_
  intro pX eX sX mX aX bX tX cX AX lsX HX oX QX zx zb zr zk zm zo zg zK zP zD zA zS zQ zl
  have zo : sX.vm.findClass R_X = some mX.cls := zo
  have zl : lv_has lsX 1 [(0, .ref x)] := zl
  refine lv_aload_n zx zb d_X_archive_0 rfl (lv_at zl 0 rfl) ?_
  refine wv_get zx zb zg hin_X rfl zo zK zP 0 rfl 4 (by decide) rfl fl_X_33 rfl d_X_archive_1 ?_
  refine lv_aload_n zx zb d_X_archive_4 rfl (lv_at zl 0 rfl) ?_
  refine wv_get zx zb zg hin_X rfl zo zK zP 0 rfl 0 (by decide) rfl fl_X_12 rfl d_X_archive_5 ?_
  refine wv_get zx zb zg hin_Log rfl zo zK zP 1 rfl 5 (by decide) rfl fl_X_112 rfl d_X_archive_8 ?_
  refine ct_V (rest := []) zx zb zm zo zg zK zP zD zS zA zl.1 (c_Ar_within_e lL g h0 h1 hd hc nx sy (by omega)) ok_Ar_nextIsWithin ov_Ar_nextIsWithin ml_X_147 (by decide) 6 5 rfl rfl rfl [6, 7] (by decide) rfl rfl rfl (Nat.le_of_ble_eq_true rfl) d_X_archive_11 (fun rX uX HX oX zp zP zD zS => ?_)
  obtain ⟨rfl, rfl⟩ := zp
  have zP : va_P g.1 cls (wX g x l0 t0 p0 ba h0 r0 un ++ wLog g l0 l1 l2 l3 l4 k o ke va n sy ++ wAr g h0 h1 hd hc nx) HX := zP
  have zD : va_D AX (wX g x l0 t0 p0 ba h0 r0 un ++ wLog g l0 l1 l2 l3 l4 k o ke va n sy ++ wAr g h0 h1 hd hc nx) := zD
  refine W.eq (g2 := F0 mX 14 lsX [.int (nI 0)]) rfl ?_
  refine wn_ine_F (tgt := 20) zx zb d_X_archive_14 (by decide) (by omega) (by omega) ?_
  refine lv_bipush (v := (-3)) zx zb d_X_archive_17 (by decide) ?_
  exact ct_iret zQ zx zb zr zk zP zD zS d_X_archive_19 rfl (⟨rfl, rfl⟩)
set_option maxRecDepth 20000 in
theorem c_X_archive_n (lL : Launch) (g : Gt) (x : Nat) (l0 : Nat) (t0 : Nat) (p0 : Nat) (ba : Nat) (h0 : Nat) (r0 : Nat) (un : Int32) (l1 : Nat) (l2 : Nat) (l3 : Nat) (l4 : Nat) (k : Nat → Nat) (o : Nat → Nat) (ke : Nat → Nat) (va : Nat → Int32) (n : Nat) (sy : Nat) (h1 : Nat) (hd : Nat → Nat) (hc : Nat) (nx : Nat) (hs : sy ≤ 512) (hnx : nx < 64) (hw : sy < (nx + 1) * 8) : Ct lL g y_X_archive (.code y_X_archive b_X_archive 1 (some .int)) 6 200 [.ref x] (wX g x l0 t0 p0 ba h0 r0 un ++ wLog g l0 l1 l2 l3 l4 k o ke va n sy ++ wAr g h0 h1 hd hc nx) (exP (some (.int (-3))) (wX g x l0 t0 p0 ba h0 r0 un ++ wLog g l0 l1 l2 l3 l4 k o ke va n sy ++ wAr g h0 h1 hd hc nx)) := by
  refine Ct.ofW (by decide) (Nat.le_of_ble_eq_true rfl) ?_
  intro pX eX sX mX aX bX tX cX AX lsX HX oX QX zx zb zr zk zm zo zg zK zP zD zA zS zQ zl
  have zo : sX.vm.findClass R_X = some mX.cls := zo
  have zl : lv_has lsX 1 [(0, .ref x)] := zl
  refine lv_aload_n zx zb d_X_archive_0 rfl (lv_at zl 0 rfl) ?_
  refine wv_get zx zb zg hin_X rfl zo zK zP 0 rfl 4 (by decide) rfl fl_X_33 rfl d_X_archive_1 ?_
  refine lv_aload_n zx zb d_X_archive_4 rfl (lv_at zl 0 rfl) ?_
  refine wv_get zx zb zg hin_X rfl zo zK zP 0 rfl 0 (by decide) rfl fl_X_12 rfl d_X_archive_5 ?_
  refine wv_get zx zb zg hin_Log rfl zo zK zP 1 rfl 5 (by decide) rfl fl_X_112 rfl d_X_archive_8 ?_
  refine ct_V (rest := []) zx zb zm zo zg zK zP zD zS zA zl.1 (c_Ar_within_f lL g h0 h1 hd hc nx sy (by omega) (by omega) (by omega)) ok_Ar_nextIsWithin ov_Ar_nextIsWithin ml_X_147 (by decide) 6 5 rfl rfl rfl [6, 7] (by decide) rfl rfl rfl (Nat.le_of_ble_eq_true rfl) d_X_archive_11 (fun rX uX HX oX zp zP zD zS => ?_)
  obtain ⟨rfl, rfl⟩ := zp
  have zP : va_P g.1 cls (wX g x l0 t0 p0 ba h0 r0 un ++ wLog g l0 l1 l2 l3 l4 k o ke va n sy ++ wAr g h0 h1 hd hc nx) HX := zP
  have zD : va_D AX (wX g x l0 t0 p0 ba h0 r0 un ++ wLog g l0 l1 l2 l3 l4 k o ke va n sy ++ wAr g h0 h1 hd hc nx) := zD
  refine W.eq (g2 := F0 mX 14 lsX [.int (nI 0)]) rfl ?_
  refine wn_ine_F (tgt := 20) zx zb d_X_archive_14 (by decide) (by omega) (by omega) ?_
  refine lv_bipush (v := (-3)) zx zb d_X_archive_17 (by decide) ?_
  exact ct_iret zQ zx zb zr zk zP zD zS d_X_archive_19 rfl (⟨rfl, rfl⟩)
set_option maxRecDepth 20000 in
theorem c_X_archive_f (lL : Launch) (g : Gt) (x : Nat) (l0 : Nat) (t0 : Nat) (p0 : Nat) (ba : Nat) (h0 : Nat) (r0 : Nat) (un : Int32) (l1 : Nat) (l2 : Nat) (l3 : Nat) (l4 : Nat) (k : Nat → Nat) (o : Nat → Nat) (ke : Nat → Nat) (va : Nat → Int32) (n : Nat) (sy : Nat) (h1 : Nat) (hd : Nat → Nat) (hc : Nat) (nx : Nat) (hs : sy ≤ 512) (hw : (nx + 1) * 8 ≤ sy) (hh : hc = 10) : Ct lL g y_X_archive (.code y_X_archive b_X_archive 1 (some .int)) 6 200 [.ref x] (wX g x l0 t0 p0 ba h0 r0 un ++ wLog g l0 l1 l2 l3 l4 k o ke va n sy ++ wAr g h0 h1 hd hc nx) (exP (some (.int (-2))) (wX g x l0 t0 p0 ba h0 r0 un ++ wLog g l0 l1 l2 l3 l4 k o ke va n sy ++ wAr g h0 h1 hd hc nx)) := by
  refine Ct.ofW (by decide) (Nat.le_of_ble_eq_true rfl) ?_
  intro pX eX sX mX aX bX tX cX AX lsX HX oX QX zx zb zr zk zm zo zg zK zP zD zA zS zQ zl
  have zo : sX.vm.findClass R_X = some mX.cls := zo
  have zl : lv_has lsX 1 [(0, .ref x)] := zl
  refine lv_aload_n zx zb d_X_archive_0 rfl (lv_at zl 0 rfl) ?_
  refine wv_get zx zb zg hin_X rfl zo zK zP 0 rfl 4 (by decide) rfl fl_X_33 rfl d_X_archive_1 ?_
  refine lv_aload_n zx zb d_X_archive_4 rfl (lv_at zl 0 rfl) ?_
  refine wv_get zx zb zg hin_X rfl zo zK zP 0 rfl 0 (by decide) rfl fl_X_12 rfl d_X_archive_5 ?_
  refine wv_get zx zb zg hin_Log rfl zo zK zP 1 rfl 5 (by decide) rfl fl_X_112 rfl d_X_archive_8 ?_
  refine ct_V (rest := []) zx zb zm zo zg zK zP zD zS zA zl.1 (c_Ar_within_t lL g h0 h1 hd hc nx sy (by omega) (by omega)) ok_Ar_nextIsWithin ov_Ar_nextIsWithin ml_X_147 (by decide) 6 5 rfl rfl rfl [6, 7] (by decide) rfl rfl rfl (Nat.le_of_ble_eq_true rfl) d_X_archive_11 (fun rX uX HX oX zp zP zD zS => ?_)
  obtain ⟨rfl, rfl⟩ := zp
  have zP : va_P g.1 cls (wX g x l0 t0 p0 ba h0 r0 un ++ wLog g l0 l1 l2 l3 l4 k o ke va n sy ++ wAr g h0 h1 hd hc nx) HX := zP
  have zD : va_D AX (wX g x l0 t0 p0 ba h0 r0 un ++ wLog g l0 l1 l2 l3 l4 k o ke va n sy ++ wAr g h0 h1 hd hc nx) := zD
  refine W.eq (g2 := F0 mX 14 lsX [.int (nI 1)]) rfl ?_
  refine wn_ine_T (tgt := 20) zx zb d_X_archive_14 (by decide) (by omega) (by omega) ?_
  refine lv_aload_n zx zb d_X_archive_20 rfl (lv_at zl 0 rfl) ?_
  refine wv_get zx zb zg hin_X rfl zo zK zP 0 rfl 4 (by decide) rfl fl_X_33 rfl d_X_archive_21 ?_
  refine ct_V (rest := []) zx zb zm zo zg zK zP zD zS zA zl.1 (c_Ar_isFull_t lL g h0 h1 hd hc nx (by omega)) ok_Ar_isFull ov_Ar_isFull ml_X_150 (by decide) 6 5 rfl rfl rfl [6, 7] (by decide) rfl rfl rfl (Nat.le_of_ble_eq_true rfl) d_X_archive_24 (fun rX uX HX oX zp zP zD zS => ?_)
  obtain ⟨rfl, rfl⟩ := zp
  have zP : va_P g.1 cls (wX g x l0 t0 p0 ba h0 r0 un ++ wLog g l0 l1 l2 l3 l4 k o ke va n sy ++ wAr g h0 h1 hd hc nx) HX := zP
  have zD : va_D AX (wX g x l0 t0 p0 ba h0 r0 un ++ wLog g l0 l1 l2 l3 l4 k o ke va n sy ++ wAr g h0 h1 hd hc nx) := zD
  refine W.eq (g2 := F0 mX 27 lsX [.int (nI 1)]) rfl ?_
  refine wn_ieq_F (tgt := 33) zx zb d_X_archive_27 (by decide) (by omega) (by omega) ?_
  refine lv_bipush (v := (-2)) zx zb d_X_archive_30 (by decide) ?_
  exact ct_iret zQ zx zb zr zk zP zD zS d_X_archive_32 rfl (⟨rfl, rfl⟩)
set_option maxRecDepth 20000 in
theorem c_X_archive_t (lL : Launch) (g : Gt) (x : Nat) (l0 : Nat) (t0 : Nat) (p0 : Nat) (ba : Nat) (h0 : Nat) (r0 : Nat) (un : Int32) (l1 : Nat) (l2 : Nat) (l3 : Nat) (l4 : Nat) (k : Nat → Nat) (o : Nat → Nat) (ke : Nat → Nat) (va : Nat → Int32) (n : Nat) (sy : Nat) (h1 : Nat) (hd : Nat → Nat) (hc : Nat) (nx : Nat) (hs : sy ≤ 512) (hw : (nx + 1) * 8 ≤ sy) (hh : hc < 10) : Ct lL g y_X_archive (.code y_X_archive b_X_archive 1 (some .int)) 6 200 [.ref x] (wX g x l0 t0 p0 ba h0 r0 un ++ wLog g l0 l1 l2 l3 l4 k o ke va n sy ++ wAr g h0 h1 hd hc nx) (exP (some (.int (nI nx))) (wX g x l0 t0 p0 ba h0 r0 un ++ wLog g l0 l1 l2 l3 l4 k o ke va n sy ++ wAr g h0 h1 (va_up hd nx 1) (hc + 1) (nx + 1))) := by
  refine Ct.ofW (by decide) (Nat.le_of_ble_eq_true rfl) ?_
  intro pX eX sX mX aX bX tX cX AX lsX HX oX QX zx zb zr zk zm zo zg zK zP zD zA zS zQ zl
  have zo : sX.vm.findClass R_X = some mX.cls := zo
  have zl : lv_has lsX 1 [(0, .ref x)] := zl
  refine lv_aload_n zx zb d_X_archive_0 rfl (lv_at zl 0 rfl) ?_
  refine wv_get zx zb zg hin_X rfl zo zK zP 0 rfl 4 (by decide) rfl fl_X_33 rfl d_X_archive_1 ?_
  refine lv_aload_n zx zb d_X_archive_4 rfl (lv_at zl 0 rfl) ?_
  refine wv_get zx zb zg hin_X rfl zo zK zP 0 rfl 0 (by decide) rfl fl_X_12 rfl d_X_archive_5 ?_
  refine wv_get zx zb zg hin_Log rfl zo zK zP 1 rfl 5 (by decide) rfl fl_X_112 rfl d_X_archive_8 ?_
  refine ct_V (rest := []) zx zb zm zo zg zK zP zD zS zA zl.1 (c_Ar_within_t lL g h0 h1 hd hc nx sy (by omega) (by omega)) ok_Ar_nextIsWithin ov_Ar_nextIsWithin ml_X_147 (by decide) 6 5 rfl rfl rfl [6, 7] (by decide) rfl rfl rfl (Nat.le_of_ble_eq_true rfl) d_X_archive_11 (fun rX uX HX oX zp zP zD zS => ?_)
  obtain ⟨rfl, rfl⟩ := zp
  have zP : va_P g.1 cls (wX g x l0 t0 p0 ba h0 r0 un ++ wLog g l0 l1 l2 l3 l4 k o ke va n sy ++ wAr g h0 h1 hd hc nx) HX := zP
  have zD : va_D AX (wX g x l0 t0 p0 ba h0 r0 un ++ wLog g l0 l1 l2 l3 l4 k o ke va n sy ++ wAr g h0 h1 hd hc nx) := zD
  refine W.eq (g2 := F0 mX 14 lsX [.int (nI 1)]) rfl ?_
  refine wn_ine_T (tgt := 20) zx zb d_X_archive_14 (by decide) (by omega) (by omega) ?_
  refine lv_aload_n zx zb d_X_archive_20 rfl (lv_at zl 0 rfl) ?_
  refine wv_get zx zb zg hin_X rfl zo zK zP 0 rfl 4 (by decide) rfl fl_X_33 rfl d_X_archive_21 ?_
  refine ct_V (rest := []) zx zb zm zo zg zK zP zD zS zA zl.1 (c_Ar_isFull_f lL g h0 h1 hd hc nx (by omega)) ok_Ar_isFull ov_Ar_isFull ml_X_150 (by decide) 6 5 rfl rfl rfl [6, 7] (by decide) rfl rfl rfl (Nat.le_of_ble_eq_true rfl) d_X_archive_24 (fun rX uX HX oX zp zP zD zS => ?_)
  obtain ⟨rfl, rfl⟩ := zp
  have zP : va_P g.1 cls (wX g x l0 t0 p0 ba h0 r0 un ++ wLog g l0 l1 l2 l3 l4 k o ke va n sy ++ wAr g h0 h1 hd hc nx) HX := zP
  have zD : va_D AX (wX g x l0 t0 p0 ba h0 r0 un ++ wLog g l0 l1 l2 l3 l4 k o ke va n sy ++ wAr g h0 h1 hd hc nx) := zD
  refine W.eq (g2 := F0 mX 27 lsX [.int (nI 0)]) rfl ?_
  refine wn_ieq_T (tgt := 33) zx zb d_X_archive_27 (by decide) (by omega) (by omega) ?_
  refine lv_aload_n zx zb d_X_archive_33 rfl (lv_at zl 0 rfl) ?_
  refine wv_get zx zb zg hin_X rfl zo zK zP 0 rfl 4 (by decide) rfl fl_X_33 rfl d_X_archive_34 ?_
  refine ct_V (rest := []) zx zb zm zo zg zK zP zD zS zA zl.1 (c_Ar_holdNext lL g h0 h1 hd hc nx (by omega)) ok_Ar_holdNext ov_Ar_holdNext ml_X_151 (by decide) 6 5 rfl rfl rfl [6, 7] (by decide) rfl rfl rfl (Nat.le_of_ble_eq_true rfl) d_X_archive_37 (fun rX uX HX oX zp zP zD zS => ?_)
  obtain ⟨rfl, rfl⟩ := zp
  have zP : va_P g.1 cls (wX g x l0 t0 p0 ba h0 r0 un ++ wLog g l0 l1 l2 l3 l4 k o ke va n sy ++ wAr g h0 h1 (va_up hd nx 1) (hc + 1) (nx + 1)) HX := zP
  have zD : va_D AX (wX g x l0 t0 p0 ba h0 r0 un ++ wLog g l0 l1 l2 l3 l4 k o ke va n sy ++ wAr g h0 h1 (va_up hd nx 1) (hc + 1) (nx + 1)) := zD
  refine W.eq (g2 := F0 mX 40 lsX [.int (nI nx)]) rfl ?_
  exact ct_iret zQ zx zb zr zk zP zD zS d_X_archive_40 rfl (⟨rfl, rfl⟩)
set_option maxRecDepth 20000 in
theorem c_X_drop_t (lL : Launch) (g : Gt) (x : Nat) (l0 : Nat) (t0 : Nat) (p0 : Nat) (ba : Nat) (h0 : Nat) (r0 : Nat) (un : Int32) (h1 : Nat) (hd : Nat → Nat) (hc : Nat) (nx : Nat) (sg : Nat) (hs : sg < nx) (hnx : nx ≤ 64) (hh : hd sg = 1) (hc1 : 0 < hc) : Ct lL g y_X_drop (.code y_X_drop b_X_drop 2 (some .boolean)) 6 200 [.ref x, .int (nI sg)] (wX g x l0 t0 p0 ba h0 r0 un ++ wAr g h0 h1 hd hc nx) (exP (some (.int (nI 1))) (wX g x l0 t0 p0 ba h0 r0 un ++ wAr g h0 h1 (va_up hd sg 0) (hc - 1) nx)) := by
  refine Ct.ofW (by decide) (Nat.le_of_ble_eq_true rfl) ?_
  intro pX eX sX mX aX bX tX cX AX lsX HX oX QX zx zb zr zk zm zo zg zK zP zD zA zS zQ zl
  have zo : sX.vm.findClass R_X = some mX.cls := zo
  have zl : lv_has lsX 2 [(0, .ref x), (1, .int (nI sg))] := zl
  refine lv_aload_n zx zb d_X_drop_0 rfl (lv_at zl 0 rfl) ?_
  refine wv_get zx zb zg hin_X rfl zo zK zP 0 rfl 4 (by decide) rfl fl_X_33 rfl d_X_drop_1 ?_
  refine lv_iload_n zx zb d_X_drop_4 rfl (lv_at zl 1 rfl) ?_
  refine ct_V (rest := []) zx zb zm zo zg zK zP zD zS zA zl.1 (c_Ar_release_t lL g h0 h1 hd hc nx sg hs (by omega) (by omega) (by omega)) ok_Ar_release ov_Ar_release ml_X_154 (by decide) 1 5 rfl rfl rfl [1, 2] (by decide) rfl rfl rfl (Nat.le_of_ble_eq_true rfl) d_X_drop_5 (fun rX uX HX oX zp zP zD zS => ?_)
  obtain ⟨rfl, rfl⟩ := zp
  have zP : va_P g.1 cls (wX g x l0 t0 p0 ba h0 r0 un ++ wAr g h0 h1 (va_up hd sg 0) (hc - 1) nx) HX := zP
  have zD : va_D AX (wX g x l0 t0 p0 ba h0 r0 un ++ wAr g h0 h1 (va_up hd sg 0) (hc - 1) nx) := zD
  refine W.eq (g2 := F0 mX 8 lsX [.int (nI 1)]) rfl ?_
  exact ct_zret zQ zx zb zr zk zP zD zS d_X_drop_8 rfl (by decide) (⟨rfl, rfl⟩)
set_option maxRecDepth 20000 in
theorem c_X_drop_f (lL : Launch) (g : Gt) (x : Nat) (l0 : Nat) (t0 : Nat) (p0 : Nat) (ba : Nat) (h0 : Nat) (r0 : Nat) (un : Int32) (h1 : Nat) (hd : Nat → Nat) (hc : Nat) (nx : Nat) (sg : Nat) (hs : sg < nx) (hnx : nx ≤ 64) (hh : hd sg = 0) : Ct lL g y_X_drop (.code y_X_drop b_X_drop 2 (some .boolean)) 6 200 [.ref x, .int (nI sg)] (wX g x l0 t0 p0 ba h0 r0 un ++ wAr g h0 h1 hd hc nx) (exP (some (.int (nI 0))) (wX g x l0 t0 p0 ba h0 r0 un ++ wAr g h0 h1 hd hc nx)) := by
  refine Ct.ofW (by decide) (Nat.le_of_ble_eq_true rfl) ?_
  intro pX eX sX mX aX bX tX cX AX lsX HX oX QX zx zb zr zk zm zo zg zK zP zD zA zS zQ zl
  have zo : sX.vm.findClass R_X = some mX.cls := zo
  have zl : lv_has lsX 2 [(0, .ref x), (1, .int (nI sg))] := zl
  refine lv_aload_n zx zb d_X_drop_0 rfl (lv_at zl 0 rfl) ?_
  refine wv_get zx zb zg hin_X rfl zo zK zP 0 rfl 4 (by decide) rfl fl_X_33 rfl d_X_drop_1 ?_
  refine lv_iload_n zx zb d_X_drop_4 rfl (lv_at zl 1 rfl) ?_
  refine ct_V (rest := []) zx zb zm zo zg zK zP zD zS zA zl.1 (c_Ar_release_f lL g h0 h1 hd hc nx sg hs (by omega) (by omega)) ok_Ar_release ov_Ar_release ml_X_154 (by decide) 1 5 rfl rfl rfl [1, 2] (by decide) rfl rfl rfl (Nat.le_of_ble_eq_true rfl) d_X_drop_5 (fun rX uX HX oX zp zP zD zS => ?_)
  obtain ⟨rfl, rfl⟩ := zp
  have zP : va_P g.1 cls (wX g x l0 t0 p0 ba h0 r0 un ++ wAr g h0 h1 hd hc nx) HX := zP
  have zD : va_D AX (wX g x l0 t0 p0 ba h0 r0 un ++ wAr g h0 h1 hd hc nx) := zD
  refine W.eq (g2 := F0 mX 8 lsX [.int (nI 0)]) rfl ?_
  exact ct_zret zQ zx zb zr zk zP zD zS d_X_drop_8 rfl (by decide) (⟨rfl, rfl⟩)
set_option maxRecDepth 20000 in
theorem c_X_drop_g (lL : Launch) (g : Gt) (x : Nat) (l0 : Nat) (t0 : Nat) (p0 : Nat) (ba : Nat) (h0 : Nat) (r0 : Nat) (un : Int32) (h1 : Nat) (hd : Nat → Nat) (hc : Nat) (nx : Nat) (sg : Nat) (hs : nx ≤ sg) (hnx : nx ≤ 64) (hb2 : sg < 2147483648) : Ct lL g y_X_drop (.code y_X_drop b_X_drop 2 (some .boolean)) 6 200 [.ref x, .int (nI sg)] (wX g x l0 t0 p0 ba h0 r0 un ++ wAr g h0 h1 hd hc nx) (exP (some (.int (nI 0))) (wX g x l0 t0 p0 ba h0 r0 un ++ wAr g h0 h1 hd hc nx)) := by
  refine Ct.ofW (by decide) (Nat.le_of_ble_eq_true rfl) ?_
  intro pX eX sX mX aX bX tX cX AX lsX HX oX QX zx zb zr zk zm zo zg zK zP zD zA zS zQ zl
  have zo : sX.vm.findClass R_X = some mX.cls := zo
  have zl : lv_has lsX 2 [(0, .ref x), (1, .int (nI sg))] := zl
  refine lv_aload_n zx zb d_X_drop_0 rfl (lv_at zl 0 rfl) ?_
  refine wv_get zx zb zg hin_X rfl zo zK zP 0 rfl 4 (by decide) rfl fl_X_33 rfl d_X_drop_1 ?_
  refine lv_iload_n zx zb d_X_drop_4 rfl (lv_at zl 1 rfl) ?_
  refine ct_V (rest := []) zx zb zm zo zg zK zP zD zS zA zl.1 (c_Ar_release_g lL g h0 h1 hd hc nx sg hs (by omega) (by omega)) ok_Ar_release ov_Ar_release ml_X_154 (by decide) 1 5 rfl rfl rfl [1, 2] (by decide) rfl rfl rfl (Nat.le_of_ble_eq_true rfl) d_X_drop_5 (fun rX uX HX oX zp zP zD zS => ?_)
  obtain ⟨rfl, rfl⟩ := zp
  have zP : va_P g.1 cls (wX g x l0 t0 p0 ba h0 r0 un ++ wAr g h0 h1 hd hc nx) HX := zP
  have zD : va_D AX (wX g x l0 t0 p0 ba h0 r0 un ++ wAr g h0 h1 hd hc nx) := zD
  refine W.eq (g2 := F0 mX 8 lsX [.int (nI 0)]) rfl ?_
  exact ct_zret zQ zx zb zr zk zP zD zS d_X_drop_8 rfl (by decide) (⟨rfl, rfl⟩)
set_option maxRecDepth 20000 in
theorem c_X_drop_n (lL : Launch) (g : Gt) (x : Nat) (l0 : Nat) (t0 : Nat) (p0 : Nat) (ba : Nat) (h0 : Nat) (r0 : Nat) (un : Int32) (h1 : Nat) (hd : Nat → Nat) (hc : Nat) (nx : Nat) (sg : Int32) (hs : sg < 0) : Ct lL g y_X_drop (.code y_X_drop b_X_drop 2 (some .boolean)) 6 200 [.ref x, .int sg] (wX g x l0 t0 p0 ba h0 r0 un ++ wAr g h0 h1 hd hc nx) (exP (some (.int (nI 0))) (wX g x l0 t0 p0 ba h0 r0 un ++ wAr g h0 h1 hd hc nx)) := by
  refine Ct.ofW (by decide) (Nat.le_of_ble_eq_true rfl) ?_
  intro pX eX sX mX aX bX tX cX AX lsX HX oX QX zx zb zr zk zm zo zg zK zP zD zA zS zQ zl
  have zo : sX.vm.findClass R_X = some mX.cls := zo
  have zl : lv_has lsX 2 [(0, .ref x), (1, .int sg)] := zl
  refine lv_aload_n zx zb d_X_drop_0 rfl (lv_at zl 0 rfl) ?_
  refine wv_get zx zb zg hin_X rfl zo zK zP 0 rfl 4 (by decide) rfl fl_X_33 rfl d_X_drop_1 ?_
  refine lv_iload_n zx zb d_X_drop_4 rfl (lv_at zl 1 rfl) ?_
  refine ct_V (rest := []) zx zb zm zo zg zK zP zD zS zA zl.1 (c_Ar_release_n lL g h0 h1 hd hc nx sg hs) ok_Ar_release ov_Ar_release ml_X_154 (by decide) 1 5 rfl rfl rfl [1, 2] (by decide) rfl rfl rfl (Nat.le_of_ble_eq_true rfl) d_X_drop_5 (fun rX uX HX oX zp zP zD zS => ?_)
  obtain ⟨rfl, rfl⟩ := zp
  have zP : va_P g.1 cls (wX g x l0 t0 p0 ba h0 r0 un ++ wAr g h0 h1 hd hc nx) HX := zP
  have zD : va_D AX (wX g x l0 t0 p0 ba h0 r0 un ++ wAr g h0 h1 hd hc nx) := zD
  refine W.eq (g2 := F0 mX 8 lsX [.int (nI 0)]) rfl ?_
  exact ct_zret zQ zx zb zr zk zP zD zS d_X_drop_8 rfl (by decide) (⟨rfl, rfl⟩)
set_option maxRecDepth 20000 in
theorem c_X_restore_n (lL : Launch) (g : Gt) (x : Nat) (l0 : Nat) (t0 : Nat) (p0 : Nat) (ba : Nat) (h0 : Nat) (r0 : Nat) (un : Int32) (j : Int32) (ps : Int32) (hj : j < 0) : Ct lL g y_X_restore (.code y_X_restore b_X_restore 4 (some .int)) 6 200 [.ref x, .int j, .int ps] (wX g x l0 t0 p0 ba h0 r0 un) (exP (some (.int (-1))) (wX g x l0 t0 p0 ba h0 r0 un)) := by
  refine Ct.ofW (by decide) (Nat.le_of_ble_eq_true rfl) ?_
  intro pX eX sX mX aX bX tX cX AX lsX HX oX QX zx zb zr zk zm zo zg zK zP zD zA zS zQ zl
  have zo : sX.vm.findClass R_X = some mX.cls := zo
  have zl : lv_has lsX 4 [(0, .ref x), (1, .int j), (2, .int ps)] := zl
  refine lv_aload_n zx zb d_X_restore_0 rfl (lv_at zl 0 rfl) ?_
  refine lv_iload_n zx zb d_X_restore_1 rfl (lv_at zl 1 rfl) ?_
  refine ct_V (rest := []) zx zb zm zo zg zK zP zD zS zA zl.1 (c_X_isFin_n lL g x l0 t0 p0 ba h0 r0 un j hj) ok_X_isFinishedBackup ov_X_isFinishedBackup ml_X_138 (by decide) 0 0 rfl rfl rfl [0] (by decide) rfl rfl rfl (Nat.le_of_ble_eq_true rfl) d_X_restore_2 (fun rX uX HX oX zp zP zD zS => ?_)
  obtain ⟨rfl, rfl⟩ := zp
  have zP : va_P g.1 cls (wX g x l0 t0 p0 ba h0 r0 un) HX := zP
  have zD : va_D AX (wX g x l0 t0 p0 ba h0 r0 un) := zD
  refine W.eq (g2 := F0 mX 5 lsX [.int (nI 0)]) rfl ?_
  refine wn_ieq_T (tgt := 12) zx zb d_X_restore_5 (by decide) (by omega) (by omega) ?_
  refine lv_iconst (v := (-1)) zx zb d_X_restore_12 (by decide) ?_
  exact ct_iret zQ zx zb zr zk zP zD zS d_X_restore_13 rfl (⟨rfl, rfl⟩)
set_option maxRecDepth 20000 in
theorem c_X_restore_g (lL : Launch) (g : Gt) (x : Nat) (l0 : Nat) (t0 : Nat) (p0 : Nat) (ba : Nat) (h0 : Nat) (r0 : Nat) (un : Int32) (j : Nat) (ps : Int32) (hj : 3 ≤ j) (hj2 : j < 2147483648) : Ct lL g y_X_restore (.code y_X_restore b_X_restore 4 (some .int)) 6 200 [.ref x, .int (nI j), .int ps] (wX g x l0 t0 p0 ba h0 r0 un) (exP (some (.int (-1))) (wX g x l0 t0 p0 ba h0 r0 un)) := by
  refine Ct.ofW (by decide) (Nat.le_of_ble_eq_true rfl) ?_
  intro pX eX sX mX aX bX tX cX AX lsX HX oX QX zx zb zr zk zm zo zg zK zP zD zA zS zQ zl
  have zo : sX.vm.findClass R_X = some mX.cls := zo
  have zl : lv_has lsX 4 [(0, .ref x), (1, .int (nI j)), (2, .int ps)] := zl
  refine lv_aload_n zx zb d_X_restore_0 rfl (lv_at zl 0 rfl) ?_
  refine lv_iload_n zx zb d_X_restore_1 rfl (lv_at zl 1 rfl) ?_
  refine ct_V (rest := []) zx zb zm zo zg zK zP zD zS zA zl.1 (c_X_isFin_g lL g x l0 t0 p0 ba h0 r0 un j (by omega) (by omega)) ok_X_isFinishedBackup ov_X_isFinishedBackup ml_X_138 (by decide) 0 0 rfl rfl rfl [0] (by decide) rfl rfl rfl (Nat.le_of_ble_eq_true rfl) d_X_restore_2 (fun rX uX HX oX zp zP zD zS => ?_)
  obtain ⟨rfl, rfl⟩ := zp
  have zP : va_P g.1 cls (wX g x l0 t0 p0 ba h0 r0 un) HX := zP
  have zD : va_D AX (wX g x l0 t0 p0 ba h0 r0 un) := zD
  refine W.eq (g2 := F0 mX 5 lsX [.int (nI 0)]) rfl ?_
  refine wn_ieq_T (tgt := 12) zx zb d_X_restore_5 (by decide) (by omega) (by omega) ?_
  refine lv_iconst (v := (-1)) zx zb d_X_restore_12 (by decide) ?_
  exact ct_iret zQ zx zb zr zk zP zD zS d_X_restore_13 rfl (⟨rfl, rfl⟩)
set_option maxRecDepth 20000 in
theorem c_X_restore_f (lL : Launch) (g : Gt) (x : Nat) (l0 : Nat) (t0 : Nat) (p0 : Nat) (ba : Nat) (h0 : Nat) (r0 : Nat) (un : Int32) (b : Nat → Nat) (b1 : Nat) (bv : Nat → Int32) (pr : Nat) (fi : Nat) (st : Nat) (cp : Nat) (en : Nat) (pg : Nat) (j : Nat) (ps : Int32) (hj : j < 3) (hfi : fi = 0) : Ct lL g y_X_restore (.code y_X_restore b_X_restore 4 (some .int)) 6 200 [.ref x, .int (nI j), .int ps] (wX g x l0 t0 p0 ba h0 r0 un ++ wBA g ba b ++ wBk g (b j) b1 bv pr fi st cp en pg) (exP (some (.int (-1))) (wX g x l0 t0 p0 ba h0 r0 un ++ wBA g ba b ++ wBk g (b j) b1 bv pr fi st cp en pg)) := by
  refine Ct.ofW (by decide) (Nat.le_of_ble_eq_true rfl) ?_
  intro pX eX sX mX aX bX tX cX AX lsX HX oX QX zx zb zr zk zm zo zg zK zP zD zA zS zQ zl
  have zo : sX.vm.findClass R_X = some mX.cls := zo
  have zl : lv_has lsX 4 [(0, .ref x), (1, .int (nI j)), (2, .int ps)] := zl
  refine lv_aload_n zx zb d_X_restore_0 rfl (lv_at zl 0 rfl) ?_
  refine lv_iload_n zx zb d_X_restore_1 rfl (lv_at zl 1 rfl) ?_
  refine ct_V (rest := []) zx zb zm zo zg zK zP zD zS zA zl.1 (c_X_isFin_f lL g x l0 t0 p0 ba h0 r0 un b b1 bv pr fi st cp en pg j (by omega) (by omega)) ok_X_isFinishedBackup ov_X_isFinishedBackup ml_X_138 (by decide) 0 0 rfl rfl rfl [0, 1, 2, 3] (by decide) rfl rfl rfl (Nat.le_of_ble_eq_true rfl) d_X_restore_2 (fun rX uX HX oX zp zP zD zS => ?_)
  obtain ⟨rfl, rfl⟩ := zp
  have zP : va_P g.1 cls (wX g x l0 t0 p0 ba h0 r0 un ++ wBA g ba b ++ wBk g (b j) b1 bv pr fi st cp en pg) HX := zP
  have zD : va_D AX (wX g x l0 t0 p0 ba h0 r0 un ++ wBA g ba b ++ wBk g (b j) b1 bv pr fi st cp en pg) := zD
  refine W.eq (g2 := F0 mX 5 lsX [.int (nI 0)]) rfl ?_
  refine wn_ieq_T (tgt := 12) zx zb d_X_restore_5 (by decide) (by omega) (by omega) ?_
  refine lv_iconst (v := (-1)) zx zb d_X_restore_12 (by decide) ?_
  exact ct_iret zQ zx zb zr zk zP zD zS d_X_restore_13 rfl (⟨rfl, rfl⟩)
set_option maxRecDepth 20000 in
theorem c_X_restore_pn (lL : Launch) (g : Gt) (x : Nat) (l0 : Nat) (t0 : Nat) (p0 : Nat) (ba : Nat) (h0 : Nat) (r0 : Nat) (un : Int32) (b : Nat → Nat) (b1 : Nat) (bv : Nat → Int32) (pr : Nat) (fi : Nat) (st : Nat) (cp : Nat) (en : Nat) (pg : Nat) (j : Nat) (ps : Int32) (hj : j < 3) (hfi : fi = 1) (hps : ps < 0) : Ct lL g y_X_restore (.code y_X_restore b_X_restore 4 (some .int)) 6 200 [.ref x, .int (nI j), .int ps] (wX g x l0 t0 p0 ba h0 r0 un ++ wBA g ba b ++ wBk g (b j) b1 bv pr fi st cp en pg) (exP (some (.int (-1))) (wX g x l0 t0 p0 ba h0 r0 un ++ wBA g ba b ++ wBk g (b j) b1 bv pr fi st cp en pg)) := by
  refine Ct.ofW (by decide) (Nat.le_of_ble_eq_true rfl) ?_
  intro pX eX sX mX aX bX tX cX AX lsX HX oX QX zx zb zr zk zm zo zg zK zP zD zA zS zQ zl
  have zo : sX.vm.findClass R_X = some mX.cls := zo
  have zl : lv_has lsX 4 [(0, .ref x), (1, .int (nI j)), (2, .int ps)] := zl
  refine lv_aload_n zx zb d_X_restore_0 rfl (lv_at zl 0 rfl) ?_
  refine lv_iload_n zx zb d_X_restore_1 rfl (lv_at zl 1 rfl) ?_
  refine ct_V (rest := []) zx zb zm zo zg zK zP zD zS zA zl.1 (c_X_isFin_t lL g x l0 t0 p0 ba h0 r0 un b b1 bv pr fi st cp en pg j (by omega) (by omega)) ok_X_isFinishedBackup ov_X_isFinishedBackup ml_X_138 (by decide) 0 0 rfl rfl rfl [0, 1, 2, 3] (by decide) rfl rfl rfl (Nat.le_of_ble_eq_true rfl) d_X_restore_2 (fun rX uX HX oX zp zP zD zS => ?_)
  obtain ⟨rfl, rfl⟩ := zp
  have zP : va_P g.1 cls (wX g x l0 t0 p0 ba h0 r0 un ++ wBA g ba b ++ wBk g (b j) b1 bv pr fi st cp en pg) HX := zP
  have zD : va_D AX (wX g x l0 t0 p0 ba h0 r0 un ++ wBA g ba b ++ wBk g (b j) b1 bv pr fi st cp en pg) := zD
  refine W.eq (g2 := F0 mX 5 lsX [.int (nI 1)]) rfl ?_
  refine wn_ieq_F (tgt := 12) zx zb d_X_restore_5 (by decide) (by omega) (by omega) ?_
  refine lv_iload_n zx zb d_X_restore_8 rfl (lv_at zl 2 rfl) ?_
  refine lv_if_ge (tgt := 14) zx zb d_X_restore_9 (by decide) (fun h => absurd h (i32_nle hps)) (fun _ => ?_)
  refine lv_iconst (v := (-1)) zx zb d_X_restore_12 (by decide) ?_
  exact ct_iret zQ zx zb zr zk zP zD zS d_X_restore_13 rfl (⟨rfl, rfl⟩)
set_option maxRecDepth 20000 in
theorem c_X_restore_e (lL : Launch) (g : Gt) (x : Nat) (l0 : Nat) (t0 : Nat) (p0 : Nat) (ba : Nat) (h0 : Nat) (r0 : Nat) (un : Int32) (b : Nat → Nat) (b1 : Nat) (bv : Nat → Int32) (pr : Nat) (fi : Nat) (st : Nat) (cp : Nat) (en : Nat) (pg : Nat) (j : Nat) (ps : Nat) (hj : j < 3) (hfi : fi = 1) (hps : ps < 2147483648) (hen : en ≤ 512) (hst : st ≤ 512) (hee : ps < en) : Ct lL g y_X_restore (.code y_X_restore b_X_restore 4 (some .int)) 6 200 [.ref x, .int (nI j), .int (nI ps)] (wX g x l0 t0 p0 ba h0 r0 un ++ wBA g ba b ++ wBk g (b j) b1 bv pr fi st cp en pg) (exP (some (.int (-4))) (wX g x l0 t0 p0 ba h0 r0 un ++ wBA g ba b ++ wBk g (b j) b1 bv pr fi st cp en pg)) := by
  refine Ct.ofW (by decide) (Nat.le_of_ble_eq_true rfl) ?_
  intro pX eX sX mX aX bX tX cX AX lsX HX oX QX zx zb zr zk zm zo zg zK zP zD zA zS zQ zl
  have zo : sX.vm.findClass R_X = some mX.cls := zo
  have zl : lv_has lsX 4 [(0, .ref x), (1, .int (nI j)), (2, .int (nI ps))] := zl
  refine lv_aload_n zx zb d_X_restore_0 rfl (lv_at zl 0 rfl) ?_
  refine lv_iload_n zx zb d_X_restore_1 rfl (lv_at zl 1 rfl) ?_
  refine ct_V (rest := []) zx zb zm zo zg zK zP zD zS zA zl.1 (c_X_isFin_t lL g x l0 t0 p0 ba h0 r0 un b b1 bv pr fi st cp en pg j (by omega) (by omega)) ok_X_isFinishedBackup ov_X_isFinishedBackup ml_X_138 (by decide) 0 0 rfl rfl rfl [0, 1, 2, 3] (by decide) rfl rfl rfl (Nat.le_of_ble_eq_true rfl) d_X_restore_2 (fun rX uX HX oX zp zP zD zS => ?_)
  obtain ⟨rfl, rfl⟩ := zp
  have zP : va_P g.1 cls (wX g x l0 t0 p0 ba h0 r0 un ++ wBA g ba b ++ wBk g (b j) b1 bv pr fi st cp en pg) HX := zP
  have zD : va_D AX (wX g x l0 t0 p0 ba h0 r0 un ++ wBA g ba b ++ wBk g (b j) b1 bv pr fi st cp en pg) := zD
  refine W.eq (g2 := F0 mX 5 lsX [.int (nI 1)]) rfl ?_
  refine wn_ieq_F (tgt := 12) zx zb d_X_restore_5 (by decide) (by omega) (by omega) ?_
  refine lv_iload_n zx zb d_X_restore_8 rfl (lv_at zl 2 rfl) ?_
  refine wn_ige_T (tgt := 14) zx zb d_X_restore_9 (by decide) (by omega) (trivial) ?_
  refine lv_aload_n zx zb d_X_restore_14 rfl (lv_at zl 0 rfl) ?_
  refine wv_get zx zb zg hin_X rfl zo zK zP 0 rfl 3 (by decide) rfl fl_X_46 rfl d_X_restore_15 ?_
  refine lv_iload_n zx zb d_X_restore_18 rfl (lv_at zl 1 rfl) ?_
  refine wv_aald (v := b j) zx zb zK zP 1 rfl rfl (by omega) (by decide) d_X_restore_19 ?_
  refine lv_astore_n (lv' := [(3, .ref (b j)), (0, .ref x), (1, .int (nI j)), (2, .int (nI ps))]) zx zb d_X_restore_20 rfl zl (by decide) rfl (fun lsX zl => ?_)
  refine lv_iload_n zx zb d_X_restore_21 rfl (lv_at zl 3 rfl) ?_
  refine lv_aload_n zx zb d_X_restore_22 rfl (lv_at zl 0 rfl) ?_
  refine wv_get zx zb zg hin_Bk rfl zo zK zP 2 rfl 5 (by decide) rfl fl_X_144 rfl d_X_restore_23 ?_
  refine wn_cge_F (tgt := 32) zx zb d_X_restore_26 (by decide) (by omega) (by omega) (by omega) ?_
  refine lv_bipush (v := (-4)) zx zb d_X_restore_29 (by decide) ?_
  exact ct_iret zQ zx zb zr zk zP zD zS d_X_restore_31 rfl (⟨rfl, rfl⟩)
set_option maxRecDepth 20000 in
theorem c_X_restore_m (lL : Launch) (g : Gt) (x : Nat) (l0 : Nat) (t0 : Nat) (p0 : Nat) (ba : Nat) (h0 : Nat) (r0 : Nat) (un : Int32) (b : Nat → Nat) (b1 : Nat) (bv : Nat → Int32) (pr : Nat) (fi : Nat) (st : Nat) (cp : Nat) (en : Nat) (pg : Nat) (h1 : Nat) (hd : Nat → Nat) (hc : Nat) (nx : Nat) (j : Nat) (ps : Nat) (hj : j < 3) (hfi : fi = 1) (hps : ps < 2147483648) (hen : en ≤ 512) (hst : st ≤ 512) (hnx : nx ≤ 64) (hh : ∀ j, j < 64 → hd j = 0 ∨ hd j = 1) (hee : en ≤ ps) (hsp : st < ps) (hgg : hgS hd nx (st / 8) (64 - st / 8) * 8 < ps) : Ct lL g y_X_restore (.code y_X_restore b_X_restore 4 (some .int)) 6 200 [.ref x, .int (nI j), .int (nI ps)] (wX g x l0 t0 p0 ba h0 r0 un ++ wBA g ba b ++ wBk g (b j) b1 bv pr fi st cp en pg ++ wAr g h0 h1 hd hc nx) (exP (some (.int (-6))) (wX g x l0 t0 p0 ba h0 r0 un ++ wBA g ba b ++ wBk g (b j) b1 bv pr fi st cp en pg ++ wAr g h0 h1 hd hc nx)) := by
  refine Ct.ofW (by decide) (Nat.le_of_ble_eq_true rfl) ?_
  intro pX eX sX mX aX bX tX cX AX lsX HX oX QX zx zb zr zk zm zo zg zK zP zD zA zS zQ zl
  have zo : sX.vm.findClass R_X = some mX.cls := zo
  have zl : lv_has lsX 4 [(0, .ref x), (1, .int (nI j)), (2, .int (nI ps))] := zl
  refine lv_aload_n zx zb d_X_restore_0 rfl (lv_at zl 0 rfl) ?_
  refine lv_iload_n zx zb d_X_restore_1 rfl (lv_at zl 1 rfl) ?_
  refine ct_V (rest := []) zx zb zm zo zg zK zP zD zS zA zl.1 (c_X_isFin_t lL g x l0 t0 p0 ba h0 r0 un b b1 bv pr fi st cp en pg j (by omega) (by omega)) ok_X_isFinishedBackup ov_X_isFinishedBackup ml_X_138 (by decide) 0 0 rfl rfl rfl [0, 1, 2, 3] (by decide) rfl rfl rfl (Nat.le_of_ble_eq_true rfl) d_X_restore_2 (fun rX uX HX oX zp zP zD zS => ?_)
  obtain ⟨rfl, rfl⟩ := zp
  have zP : va_P g.1 cls (wX g x l0 t0 p0 ba h0 r0 un ++ wBA g ba b ++ wBk g (b j) b1 bv pr fi st cp en pg ++ wAr g h0 h1 hd hc nx) HX := zP
  have zD : va_D AX (wX g x l0 t0 p0 ba h0 r0 un ++ wBA g ba b ++ wBk g (b j) b1 bv pr fi st cp en pg ++ wAr g h0 h1 hd hc nx) := zD
  refine W.eq (g2 := F0 mX 5 lsX [.int (nI 1)]) rfl ?_
  refine wn_ieq_F (tgt := 12) zx zb d_X_restore_5 (by decide) (by omega) (by omega) ?_
  refine lv_iload_n zx zb d_X_restore_8 rfl (lv_at zl 2 rfl) ?_
  refine wn_ige_T (tgt := 14) zx zb d_X_restore_9 (by decide) (by omega) (trivial) ?_
  refine lv_aload_n zx zb d_X_restore_14 rfl (lv_at zl 0 rfl) ?_
  refine wv_get zx zb zg hin_X rfl zo zK zP 0 rfl 3 (by decide) rfl fl_X_46 rfl d_X_restore_15 ?_
  refine lv_iload_n zx zb d_X_restore_18 rfl (lv_at zl 1 rfl) ?_
  refine wv_aald (v := b j) zx zb zK zP 1 rfl rfl (by omega) (by decide) d_X_restore_19 ?_
  refine lv_astore_n (lv' := [(3, .ref (b j)), (0, .ref x), (1, .int (nI j)), (2, .int (nI ps))]) zx zb d_X_restore_20 rfl zl (by decide) rfl (fun lsX zl => ?_)
  refine lv_iload_n zx zb d_X_restore_21 rfl (lv_at zl 3 rfl) ?_
  refine lv_aload_n zx zb d_X_restore_22 rfl (lv_at zl 0 rfl) ?_
  refine wv_get zx zb zg hin_Bk rfl zo zK zP 2 rfl 5 (by decide) rfl fl_X_144 rfl d_X_restore_23 ?_
  refine wn_cge_T (tgt := 32) zx zb d_X_restore_26 (by decide) (by omega) (by omega) (by omega) ?_
  refine lv_iload_n zx zb d_X_restore_32 rfl (lv_at zl 3 rfl) ?_
  refine lv_aload_n zx zb d_X_restore_33 rfl (lv_at zl 0 rfl) ?_
  refine wv_get zx zb zg hin_Bk rfl zo zK zP 2 rfl 3 (by decide) rfl fl_X_141 rfl d_X_restore_34 ?_
  refine wn_cle_F (tgt := 58) zx zb d_X_restore_37 (by decide) (by omega) (by omega) (by omega) ?_
  refine lv_aload_n zx zb d_X_restore_40 rfl (lv_at zl 1 rfl) ?_
  refine wv_get zx zb zg hin_X rfl zo zK zP 0 rfl 4 (by decide) rfl fl_X_33 rfl d_X_restore_41 ?_
  refine lv_aload_n zx zb d_X_restore_44 rfl (lv_at zl 0 rfl) ?_
  refine wv_get zx zb zg hin_Bk rfl zo zK zP 2 rfl 3 (by decide) rfl fl_X_141 rfl d_X_restore_45 ?_
  refine lv_iload_n zx zb d_X_restore_48 rfl (lv_at zl 3 rfl) ?_
  refine ct_V (rest := []) zx zb zm zo zg zK zP zD zS zA zl.1 (c_Ar_holdsRec_f lL g h0 h1 hd hc nx st ps (by omega) hh (by omega) (by omega) (by omega)) ok_Ar_holdsRecords ov_Ar_holdsRecords ml_X_157 (by decide) 4 5 rfl rfl rfl [4, 5] (by decide) rfl rfl rfl (Nat.le_of_ble_eq_true rfl) d_X_restore_49 (fun rX uX HX oX zp zP zD zS => ?_)
  obtain ⟨rfl, rfl⟩ := zp
  have zP : va_P g.1 cls (wX g x l0 t0 p0 ba h0 r0 un ++ wBA g ba b ++ wBk g (b j) b1 bv pr fi st cp en pg ++ wAr g h0 h1 hd hc nx) HX := zP
  have zD : va_D AX (wX g x l0 t0 p0 ba h0 r0 un ++ wBA g ba b ++ wBk g (b j) b1 bv pr fi st cp en pg ++ wAr g h0 h1 hd hc nx) := zD
  refine W.eq (g2 := F0 mX 52 lsX [.int (nI 0)]) rfl ?_
  refine wn_ine_F (tgt := 58) zx zb d_X_restore_52 (by decide) (by omega) (by omega) ?_
  refine lv_bipush (v := (-6)) zx zb d_X_restore_55 (by decide) ?_
  exact ct_iret zQ zx zb zr zk zP zD zS d_X_restore_57 rfl (⟨rfl, rfl⟩)
set_option maxRecDepth 20000 in
theorem c_X_restore_b (lL : Launch) (g : Gt) (x : Nat) (l0 : Nat) (t0 : Nat) (p0 : Nat) (ba : Nat) (h0 : Nat) (r0 : Nat) (un : Int32) (b : Nat → Nat) (b1 : Nat) (bv : Nat → Int32) (pr : Nat) (fi : Nat) (st : Nat) (cp : Nat) (en : Nat) (pg : Nat) (h1 : Nat) (hd : Nat → Nat) (hc : Nat) (nx : Nat) (l1 : Nat) (l2 : Nat) (l3 : Nat) (l4 : Nat) (k : Nat → Nat) (o : Nat → Nat) (ke : Nat → Nat) (va : Nat → Int32) (n : Nat) (sy : Nat) (j : Nat) (ps : Nat) (hj : j < 3) (hfi : fi = 1) (hps : ps < 2147483648) (hen : en ≤ 512) (hst : st ≤ 512) (hnx : nx ≤ 64) (hh : ∀ j, j < 64 → hd j = 0 ∨ hd j = 1) (hee : en ≤ ps) (hsp : st < ps) (hgg : ps ≤ hgS hd nx (st / 8) (64 - st / 8) * 8) (hn : n ≤ 512) (hpn : ps ≤ n) (hk4 : k (ps - 1) < 4) (hkc : k (ps - 1) ≠ 1) : Ct lL g y_X_restore (.code y_X_restore b_X_restore 4 (some .int)) 6 200 [.ref x, .int (nI j), .int (nI ps)] (wX g x l0 t0 p0 ba h0 r0 un ++ wBA g ba b ++ wBk g (b j) b1 bv pr fi st cp en pg ++ wAr g h0 h1 hd hc nx ++ wLog g l0 l1 l2 l3 l4 k o ke va n sy) (exP (some (.int (-5))) (wX g x l0 t0 p0 ba h0 r0 un ++ wBA g ba b ++ wBk g (b j) b1 bv pr fi st cp en pg ++ wAr g h0 h1 hd hc nx ++ wLog g l0 l1 l2 l3 l4 k o ke va n sy)) := by
  refine Ct.ofW (by decide) (Nat.le_of_ble_eq_true rfl) ?_
  intro pX eX sX mX aX bX tX cX AX lsX HX oX QX zx zb zr zk zm zo zg zK zP zD zA zS zQ zl
  have zo : sX.vm.findClass R_X = some mX.cls := zo
  have zl : lv_has lsX 4 [(0, .ref x), (1, .int (nI j)), (2, .int (nI ps))] := zl
  refine lv_aload_n zx zb d_X_restore_0 rfl (lv_at zl 0 rfl) ?_
  refine lv_iload_n zx zb d_X_restore_1 rfl (lv_at zl 1 rfl) ?_
  refine ct_V (rest := []) zx zb zm zo zg zK zP zD zS zA zl.1 (c_X_isFin_t lL g x l0 t0 p0 ba h0 r0 un b b1 bv pr fi st cp en pg j (by omega) (by omega)) ok_X_isFinishedBackup ov_X_isFinishedBackup ml_X_138 (by decide) 0 0 rfl rfl rfl [0, 1, 2, 3] (by decide) rfl rfl rfl (Nat.le_of_ble_eq_true rfl) d_X_restore_2 (fun rX uX HX oX zp zP zD zS => ?_)
  obtain ⟨rfl, rfl⟩ := zp
  have zP : va_P g.1 cls (wX g x l0 t0 p0 ba h0 r0 un ++ wBA g ba b ++ wBk g (b j) b1 bv pr fi st cp en pg ++ wAr g h0 h1 hd hc nx ++ wLog g l0 l1 l2 l3 l4 k o ke va n sy) HX := zP
  have zD : va_D AX (wX g x l0 t0 p0 ba h0 r0 un ++ wBA g ba b ++ wBk g (b j) b1 bv pr fi st cp en pg ++ wAr g h0 h1 hd hc nx ++ wLog g l0 l1 l2 l3 l4 k o ke va n sy) := zD
  refine W.eq (g2 := F0 mX 5 lsX [.int (nI 1)]) rfl ?_
  refine wn_ieq_F (tgt := 12) zx zb d_X_restore_5 (by decide) (by omega) (by omega) ?_
  refine lv_iload_n zx zb d_X_restore_8 rfl (lv_at zl 2 rfl) ?_
  refine wn_ige_T (tgt := 14) zx zb d_X_restore_9 (by decide) (by omega) (trivial) ?_
  refine lv_aload_n zx zb d_X_restore_14 rfl (lv_at zl 0 rfl) ?_
  refine wv_get zx zb zg hin_X rfl zo zK zP 0 rfl 3 (by decide) rfl fl_X_46 rfl d_X_restore_15 ?_
  refine lv_iload_n zx zb d_X_restore_18 rfl (lv_at zl 1 rfl) ?_
  refine wv_aald (v := b j) zx zb zK zP 1 rfl rfl (by omega) (by decide) d_X_restore_19 ?_
  refine lv_astore_n (lv' := [(3, .ref (b j)), (0, .ref x), (1, .int (nI j)), (2, .int (nI ps))]) zx zb d_X_restore_20 rfl zl (by decide) rfl (fun lsX zl => ?_)
  refine lv_iload_n zx zb d_X_restore_21 rfl (lv_at zl 3 rfl) ?_
  refine lv_aload_n zx zb d_X_restore_22 rfl (lv_at zl 0 rfl) ?_
  refine wv_get zx zb zg hin_Bk rfl zo zK zP 2 rfl 5 (by decide) rfl fl_X_144 rfl d_X_restore_23 ?_
  refine wn_cge_T (tgt := 32) zx zb d_X_restore_26 (by decide) (by omega) (by omega) (by omega) ?_
  refine lv_iload_n zx zb d_X_restore_32 rfl (lv_at zl 3 rfl) ?_
  refine lv_aload_n zx zb d_X_restore_33 rfl (lv_at zl 0 rfl) ?_
  refine wv_get zx zb zg hin_Bk rfl zo zK zP 2 rfl 3 (by decide) rfl fl_X_141 rfl d_X_restore_34 ?_
  refine wn_cle_F (tgt := 58) zx zb d_X_restore_37 (by decide) (by omega) (by omega) (by omega) ?_
  refine lv_aload_n zx zb d_X_restore_40 rfl (lv_at zl 1 rfl) ?_
  refine wv_get zx zb zg hin_X rfl zo zK zP 0 rfl 4 (by decide) rfl fl_X_33 rfl d_X_restore_41 ?_
  refine lv_aload_n zx zb d_X_restore_44 rfl (lv_at zl 0 rfl) ?_
  refine wv_get zx zb zg hin_Bk rfl zo zK zP 2 rfl 3 (by decide) rfl fl_X_141 rfl d_X_restore_45 ?_
  refine lv_iload_n zx zb d_X_restore_48 rfl (lv_at zl 3 rfl) ?_
  refine ct_V (rest := []) zx zb zm zo zg zK zP zD zS zA zl.1 (c_Ar_holdsRec_t lL g h0 h1 hd hc nx st ps (by omega) hh (by omega) (by omega)) ok_Ar_holdsRecords ov_Ar_holdsRecords ml_X_157 (by decide) 4 5 rfl rfl rfl [4, 5] (by decide) rfl rfl rfl (Nat.le_of_ble_eq_true rfl) d_X_restore_49 (fun rX uX HX oX zp zP zD zS => ?_)
  obtain ⟨rfl, rfl⟩ := zp
  have zP : va_P g.1 cls (wX g x l0 t0 p0 ba h0 r0 un ++ wBA g ba b ++ wBk g (b j) b1 bv pr fi st cp en pg ++ wAr g h0 h1 hd hc nx ++ wLog g l0 l1 l2 l3 l4 k o ke va n sy) HX := zP
  have zD : va_D AX (wX g x l0 t0 p0 ba h0 r0 un ++ wBA g ba b ++ wBk g (b j) b1 bv pr fi st cp en pg ++ wAr g h0 h1 hd hc nx ++ wLog g l0 l1 l2 l3 l4 k o ke va n sy) := zD
  refine W.eq (g2 := F0 mX 52 lsX [.int (nI 1)]) rfl ?_
  refine wn_ine_T (tgt := 58) zx zb d_X_restore_52 (by decide) (by omega) (by omega) ?_
  refine lv_iload_n zx zb d_X_restore_58 rfl (lv_at zl 3 rfl) ?_
  refine lv_aload_n zx zb d_X_restore_59 rfl (lv_at zl 0 rfl) ?_
  refine wv_get zx zb zg hin_Bk rfl zo zK zP 2 rfl 3 (by decide) rfl fl_X_141 rfl d_X_restore_60 ?_
  refine wn_ceq_F (tgt := 80) zx zb d_X_restore_63 (by decide) (by omega) (by omega) (by omega) ?_
  refine lv_aload_n zx zb d_X_restore_66 rfl (lv_at zl 1 rfl) ?_
  refine wv_get zx zb zg hin_X rfl zo zK zP 0 rfl 0 (by decide) rfl fl_X_12 rfl d_X_restore_67 ?_
  refine lv_iload_n zx zb d_X_restore_70 rfl (lv_at zl 3 rfl) ?_
  refine ct_V (rest := []) zx zb zm zo zg zK zP zD zS zA zl.1 (c_Log_hasCommit_f lL g l0 l1 l2 l3 l4 k o ke va n sy ps (by omega) (by omega) (by omega) (by omega) (by omega)) ok_Log_hasCommitDoneAt ov_Log_hasCommitDoneAt ml_X_161 (by decide) 6 1 rfl rfl rfl [6, 7, 8, 9, 10] (by decide) rfl rfl rfl (Nat.le_of_ble_eq_true rfl) d_X_restore_71 (fun rX uX HX oX zp zP zD zS => ?_)
  obtain ⟨rfl, rfl⟩ := zp
  have zP : va_P g.1 cls (wX g x l0 t0 p0 ba h0 r0 un ++ wBA g ba b ++ wBk g (b j) b1 bv pr fi st cp en pg ++ wAr g h0 h1 hd hc nx ++ wLog g l0 l1 l2 l3 l4 k o ke va n sy) HX := zP
  have zD : va_D AX (wX g x l0 t0 p0 ba h0 r0 un ++ wBA g ba b ++ wBk g (b j) b1 bv pr fi st cp en pg ++ wAr g h0 h1 hd hc nx ++ wLog g l0 l1 l2 l3 l4 k o ke va n sy) := zD
  refine W.eq (g2 := F0 mX 74 lsX [.int (nI 0)]) rfl ?_
  refine wn_ine_F (tgt := 80) zx zb d_X_restore_74 (by decide) (by omega) (by omega) ?_
  refine lv_bipush (v := (-5)) zx zb d_X_restore_77 (by decide) ?_
  exact ct_iret zQ zx zb zr zk zP zD zS d_X_restore_79 rfl (⟨rfl, rfl⟩)
set_option maxRecDepth 20000 in
theorem c_X_restore_c (lL : Launch) (g : Gt) (x : Nat) (l0 : Nat) (t0 : Nat) (p0 : Nat) (ba : Nat) (h0 : Nat) (r0 : Nat) (un : Int32) (b : Nat → Nat) (b1 : Nat) (bv : Nat → Int32) (pr : Nat) (fi : Nat) (st : Nat) (cp : Nat) (en : Nat) (pg : Nat) (h1 : Nat) (hd : Nat → Nat) (hc : Nat) (nx : Nat) (l1 : Nat) (l2 : Nat) (l3 : Nat) (l4 : Nat) (k : Nat → Nat) (o : Nat → Nat) (ke : Nat → Nat) (va : Nat → Int32) (n : Nat) (sy : Nat) (r1 : Nat) (s0 : Nat) (rv : Nat → Int32) (rr : Nat) (s1 : Nat) (s2 : Nat) (s3 : Nat) (s4 : Nat) (cR : Nat → Nat) (fR : Nat → Nat) (tkR : Nat → Nat) (tvR : Nat → Int32) (j : Nat) (ps : Nat) (hj : j < 3) (hfi : fi = 1) (hps : ps < 2147483648) (hen : en ≤ 512) (hst : st ≤ 512) (hnx : nx ≤ 64) (hh : ∀ j, j < 64 → hd j = 0 ∨ hd j = 1) (hee : en ≤ ps) (hsp : st < ps) (hgg : ps ≤ hgS hd nx (st / 8) (64 - st / 8) * 8) (hn : n ≤ 512) (hpn : ps ≤ n) (hcp : cp ≤ 512) (hkc : k (ps - 1) = 1) (hv : ∀ n, st + n < ps → rpV k o (st + iq) (rpF k o ke va cp st (va_cpy bv rv 0 0 32, va_up (va_up (va_up cR 0 0) 1 0) 2 0, fR, tkR, tvR) n)) : Ct lL g y_X_restore (.code y_X_restore b_X_restore 4 (some .int)) 6 200 [.ref x, .int (nI j), .int (nI ps)] (wX g x l0 t0 p0 ba h0 r0 un ++ wBA g ba b ++ wBk g (b j) b1 bv pr fi st cp en pg ++ wAr g h0 h1 hd hc nx ++ wLog g l0 l1 l2 l3 l4 k o ke va n sy ++ wRs g r0 r1 s0 rv rr ++ wTr g s0 s1 s2 s3 s4 cR fR tkR tvR) (exP (some (.int (nI 0))) (wX g x l0 t0 p0 ba h0 r0 un ++ wBA g ba b ++ wBk g (b j) b1 bv pr fi st cp en pg ++ wAr g h0 h1 hd hc nx ++ wLog g l0 l1 l2 l3 l4 k o ke va n sy ++ wRs g r0 r1 s0 ((rpF k o ke va cp st (va_cpy bv rv 0 0 32, va_up (va_up (va_up cR 0 0) 1 0) 2 0, fR, tkR, tvR) (ps - st)).1) (ps - st) ++ wTr g s0 s1 s2 s3 s4 ((rpF k o ke va cp st (va_cpy bv rv 0 0 32, va_up (va_up (va_up cR 0 0) 1 0) 2 0, fR, tkR, tvR) (ps - st)).2.1) ((rpF k o ke va cp st (va_cpy bv rv 0 0 32, va_up (va_up (va_up cR 0 0) 1 0) 2 0, fR, tkR, tvR) (ps - st)).2.2.1) ((rpF k o ke va cp st (va_cpy bv rv 0 0 32, va_up (va_up (va_up cR 0 0) 1 0) 2 0, fR, tkR, tvR) (ps - st)).2.2.2.1) ((rpF k o ke va cp st (va_cpy bv rv 0 0 32, va_up (va_up (va_up cR 0 0) 1 0) 2 0, fR, tkR, tvR) (ps - st)).2.2.2.2))) := by
  refine Ct.ofW (by decide) (Nat.le_of_ble_eq_true rfl) ?_
  intro pX eX sX mX aX bX tX cX AX lsX HX oX QX zx zb zr zk zm zo zg zK zP zD zA zS zQ zl
  have zo : sX.vm.findClass R_X = some mX.cls := zo
  have zl : lv_has lsX 4 [(0, .ref x), (1, .int (nI j)), (2, .int (nI ps))] := zl
  refine lv_aload_n zx zb d_X_restore_0 rfl (lv_at zl 0 rfl) ?_
  refine lv_iload_n zx zb d_X_restore_1 rfl (lv_at zl 1 rfl) ?_
  refine ct_V (rest := []) zx zb zm zo zg zK zP zD zS zA zl.1 (c_X_isFin_t lL g x l0 t0 p0 ba h0 r0 un b b1 bv pr fi st cp en pg j (by omega) (by omega)) ok_X_isFinishedBackup ov_X_isFinishedBackup ml_X_138 (by decide) 0 0 rfl rfl rfl [0, 1, 2, 3] (by decide) rfl rfl rfl (Nat.le_of_ble_eq_true rfl) d_X_restore_2 (fun rX uX HX oX zp zP zD zS => ?_)
  obtain ⟨rfl, rfl⟩ := zp
  have zP : va_P g.1 cls (wX g x l0 t0 p0 ba h0 r0 un ++ wBA g ba b ++ wBk g (b j) b1 bv pr fi st cp en pg ++ wAr g h0 h1 hd hc nx ++ wLog g l0 l1 l2 l3 l4 k o ke va n sy ++ wRs g r0 r1 s0 rv rr ++ wTr g s0 s1 s2 s3 s4 cR fR tkR tvR) HX := zP
  have zD : va_D AX (wX g x l0 t0 p0 ba h0 r0 un ++ wBA g ba b ++ wBk g (b j) b1 bv pr fi st cp en pg ++ wAr g h0 h1 hd hc nx ++ wLog g l0 l1 l2 l3 l4 k o ke va n sy ++ wRs g r0 r1 s0 rv rr ++ wTr g s0 s1 s2 s3 s4 cR fR tkR tvR) := zD
  refine W.eq (g2 := F0 mX 5 lsX [.int (nI 1)]) rfl ?_
  refine wn_ieq_F (tgt := 12) zx zb d_X_restore_5 (by decide) (by omega) (by omega) ?_
  refine lv_iload_n zx zb d_X_restore_8 rfl (lv_at zl 2 rfl) ?_
  refine wn_ige_T (tgt := 14) zx zb d_X_restore_9 (by decide) (by omega) (trivial) ?_
  refine lv_aload_n zx zb d_X_restore_14 rfl (lv_at zl 0 rfl) ?_
  refine wv_get zx zb zg hin_X rfl zo zK zP 0 rfl 3 (by decide) rfl fl_X_46 rfl d_X_restore_15 ?_
  refine lv_iload_n zx zb d_X_restore_18 rfl (lv_at zl 1 rfl) ?_
  refine wv_aald (v := b j) zx zb zK zP 1 rfl rfl (by omega) (by decide) d_X_restore_19 ?_
  refine lv_astore_n (lv' := [(3, .ref (b j)), (0, .ref x), (1, .int (nI j)), (2, .int (nI ps))]) zx zb d_X_restore_20 rfl zl (by decide) rfl (fun lsX zl => ?_)
  refine lv_iload_n zx zb d_X_restore_21 rfl (lv_at zl 3 rfl) ?_
  refine lv_aload_n zx zb d_X_restore_22 rfl (lv_at zl 0 rfl) ?_
  refine wv_get zx zb zg hin_Bk rfl zo zK zP 2 rfl 5 (by decide) rfl fl_X_144 rfl d_X_restore_23 ?_
  refine wn_cge_T (tgt := 32) zx zb d_X_restore_26 (by decide) (by omega) (by omega) (by omega) ?_
  refine lv_iload_n zx zb d_X_restore_32 rfl (lv_at zl 3 rfl) ?_
  refine lv_aload_n zx zb d_X_restore_33 rfl (lv_at zl 0 rfl) ?_
  refine wv_get zx zb zg hin_Bk rfl zo zK zP 2 rfl 3 (by decide) rfl fl_X_141 rfl d_X_restore_34 ?_
  refine wn_cle_F (tgt := 58) zx zb d_X_restore_37 (by decide) (by omega) (by omega) (by omega) ?_
  refine lv_aload_n zx zb d_X_restore_40 rfl (lv_at zl 1 rfl) ?_
  refine wv_get zx zb zg hin_X rfl zo zK zP 0 rfl 4 (by decide) rfl fl_X_33 rfl d_X_restore_41 ?_
  refine lv_aload_n zx zb d_X_restore_44 rfl (lv_at zl 0 rfl) ?_
  refine wv_get zx zb zg hin_Bk rfl zo zK zP 2 rfl 3 (by decide) rfl fl_X_141 rfl d_X_restore_45 ?_
  refine lv_iload_n zx zb d_X_restore_48 rfl (lv_at zl 3 rfl) ?_
  refine ct_V (rest := []) zx zb zm zo zg zK zP zD zS zA zl.1 (c_Ar_holdsRec_t lL g h0 h1 hd hc nx st ps (by omega) hh (by omega) (by omega)) ok_Ar_holdsRecords ov_Ar_holdsRecords ml_X_157 (by decide) 4 5 rfl rfl rfl [4, 5] (by decide) rfl rfl rfl (Nat.le_of_ble_eq_true rfl) d_X_restore_49 (fun rX uX HX oX zp zP zD zS => ?_)
  obtain ⟨rfl, rfl⟩ := zp
  have zP : va_P g.1 cls (wX g x l0 t0 p0 ba h0 r0 un ++ wBA g ba b ++ wBk g (b j) b1 bv pr fi st cp en pg ++ wAr g h0 h1 hd hc nx ++ wLog g l0 l1 l2 l3 l4 k o ke va n sy ++ wRs g r0 r1 s0 rv rr ++ wTr g s0 s1 s2 s3 s4 cR fR tkR tvR) HX := zP
  have zD : va_D AX (wX g x l0 t0 p0 ba h0 r0 un ++ wBA g ba b ++ wBk g (b j) b1 bv pr fi st cp en pg ++ wAr g h0 h1 hd hc nx ++ wLog g l0 l1 l2 l3 l4 k o ke va n sy ++ wRs g r0 r1 s0 rv rr ++ wTr g s0 s1 s2 s3 s4 cR fR tkR tvR) := zD
  refine W.eq (g2 := F0 mX 52 lsX [.int (nI 1)]) rfl ?_
  refine wn_ine_T (tgt := 58) zx zb d_X_restore_52 (by decide) (by omega) (by omega) ?_
  refine lv_iload_n zx zb d_X_restore_58 rfl (lv_at zl 3 rfl) ?_
  refine lv_aload_n zx zb d_X_restore_59 rfl (lv_at zl 0 rfl) ?_
  refine wv_get zx zb zg hin_Bk rfl zo zK zP 2 rfl 3 (by decide) rfl fl_X_141 rfl d_X_restore_60 ?_
  refine wn_ceq_F (tgt := 80) zx zb d_X_restore_63 (by decide) (by omega) (by omega) (by omega) ?_
  refine lv_aload_n zx zb d_X_restore_66 rfl (lv_at zl 1 rfl) ?_
  refine wv_get zx zb zg hin_X rfl zo zK zP 0 rfl 0 (by decide) rfl fl_X_12 rfl d_X_restore_67 ?_
  refine lv_iload_n zx zb d_X_restore_70 rfl (lv_at zl 3 rfl) ?_
  refine ct_V (rest := []) zx zb zm zo zg zK zP zD zS zA zl.1 (c_Log_hasCommit_t lL g l0 l1 l2 l3 l4 k o ke va n sy ps (by omega) (by omega) (by omega) (by omega)) ok_Log_hasCommitDoneAt ov_Log_hasCommitDoneAt ml_X_161 (by decide) 6 1 rfl rfl rfl [6, 7, 8, 9, 10] (by decide) rfl rfl rfl (Nat.le_of_ble_eq_true rfl) d_X_restore_71 (fun rX uX HX oX zp zP zD zS => ?_)
  obtain ⟨rfl, rfl⟩ := zp
  have zP : va_P g.1 cls (wX g x l0 t0 p0 ba h0 r0 un ++ wBA g ba b ++ wBk g (b j) b1 bv pr fi st cp en pg ++ wAr g h0 h1 hd hc nx ++ wLog g l0 l1 l2 l3 l4 k o ke va n sy ++ wRs g r0 r1 s0 rv rr ++ wTr g s0 s1 s2 s3 s4 cR fR tkR tvR) HX := zP
  have zD : va_D AX (wX g x l0 t0 p0 ba h0 r0 un ++ wBA g ba b ++ wBk g (b j) b1 bv pr fi st cp en pg ++ wAr g h0 h1 hd hc nx ++ wLog g l0 l1 l2 l3 l4 k o ke va n sy ++ wRs g r0 r1 s0 rv rr ++ wTr g s0 s1 s2 s3 s4 cR fR tkR tvR) := zD
  refine W.eq (g2 := F0 mX 74 lsX [.int (nI 1)]) rfl ?_
  refine wn_ine_T (tgt := 80) zx zb d_X_restore_74 (by decide) (by omega) (by omega) ?_
  refine lv_aload_n zx zb d_X_restore_80 rfl (lv_at zl 1 rfl) ?_
  refine wv_get zx zb zg hin_X rfl zo zK zP 0 rfl 5 (by decide) rfl fl_X_40 rfl d_X_restore_81 ?_
  refine lv_aload_n zx zb d_X_restore_84 rfl (lv_at zl 0 rfl) ?_
  refine lv_aload_n zx zb d_X_restore_85 rfl (lv_at zl 1 rfl) ?_
  refine wv_get zx zb zg hin_X rfl zo zK zP 0 rfl 0 (by decide) rfl fl_X_12 rfl d_X_restore_86 ?_
  refine lv_iload_n zx zb d_X_restore_89 rfl (lv_at zl 3 rfl) ?_
  refine ct_V (rest := []) zx zb zm zo zg zK zP zD zS zA zl.1 (c_Rs_rebuild lL g r0 r1 s0 rv rr s1 s2 s3 s4 cR fR tkR tvR (b j) b1 bv pr fi st cp en pg l0 l1 l2 l3 l4 k o ke va n sy ps (by omega) (by omega) (by omega) hv) ok_Rs_rebuild ov_Rs_rebuild ml_X_164 (by decide) 11 6 rfl rfl rfl [11, 12, 13, 14, 15, 16, 17, 2, 3, 6, 7, 8, 9, 10] (by decide) rfl rfl rfl (Nat.le_of_ble_eq_true rfl) d_X_restore_90 (fun rX uX HX oX zp zP zD zS => ?_)
  obtain ⟨rfl, rfl⟩ := zp
  have zP : va_P g.1 cls (wX g x l0 t0 p0 ba h0 r0 un ++ wBA g ba b ++ wBk g (b j) b1 bv pr fi st cp en pg ++ wAr g h0 h1 hd hc nx ++ wLog g l0 l1 l2 l3 l4 k o ke va n sy ++ wRs g r0 r1 s0 ((rpF k o ke va cp st (va_cpy bv rv 0 0 32, va_up (va_up (va_up cR 0 0) 1 0) 2 0, fR, tkR, tvR) (ps - st)).1) (ps - st) ++ wTr g s0 s1 s2 s3 s4 ((rpF k o ke va cp st (va_cpy bv rv 0 0 32, va_up (va_up (va_up cR 0 0) 1 0) 2 0, fR, tkR, tvR) (ps - st)).2.1) ((rpF k o ke va cp st (va_cpy bv rv 0 0 32, va_up (va_up (va_up cR 0 0) 1 0) 2 0, fR, tkR, tvR) (ps - st)).2.2.1) ((rpF k o ke va cp st (va_cpy bv rv 0 0 32, va_up (va_up (va_up cR 0 0) 1 0) 2 0, fR, tkR, tvR) (ps - st)).2.2.2.1) ((rpF k o ke va cp st (va_cpy bv rv 0 0 32, va_up (va_up (va_up cR 0 0) 1 0) 2 0, fR, tkR, tvR) (ps - st)).2.2.2.2)) HX := zP
  have zD : va_D AX (wX g x l0 t0 p0 ba h0 r0 un ++ wBA g ba b ++ wBk g (b j) b1 bv pr fi st cp en pg ++ wAr g h0 h1 hd hc nx ++ wLog g l0 l1 l2 l3 l4 k o ke va n sy ++ wRs g r0 r1 s0 ((rpF k o ke va cp st (va_cpy bv rv 0 0 32, va_up (va_up (va_up cR 0 0) 1 0) 2 0, fR, tkR, tvR) (ps - st)).1) (ps - st) ++ wTr g s0 s1 s2 s3 s4 ((rpF k o ke va cp st (va_cpy bv rv 0 0 32, va_up (va_up (va_up cR 0 0) 1 0) 2 0, fR, tkR, tvR) (ps - st)).2.1) ((rpF k o ke va cp st (va_cpy bv rv 0 0 32, va_up (va_up (va_up cR 0 0) 1 0) 2 0, fR, tkR, tvR) (ps - st)).2.2.1) ((rpF k o ke va cp st (va_cpy bv rv 0 0 32, va_up (va_up (va_up cR 0 0) 1 0) 2 0, fR, tkR, tvR) (ps - st)).2.2.2.1) ((rpF k o ke va cp st (va_cpy bv rv 0 0 32, va_up (va_up (va_up cR 0 0) 1 0) 2 0, fR, tkR, tvR) (ps - st)).2.2.2.2)) := zD
  refine W.eq (g2 := F0 mX 93 lsX []) rfl ?_
  refine lv_iconst (v := (nI 0)) zx zb d_X_restore_93 (by decide) ?_
  exact ct_iret zQ zx zb zr zk zP zD zS d_X_restore_94 rfl (⟨rfl, rfl⟩)
set_option maxRecDepth 20000 in
theorem c_X_restore_s (lL : Launch) (g : Gt) (x : Nat) (l0 : Nat) (t0 : Nat) (p0 : Nat) (ba : Nat) (h0 : Nat) (r0 : Nat) (un : Int32) (b : Nat → Nat) (b1 : Nat) (bv : Nat → Int32) (pr : Nat) (fi : Nat) (st : Nat) (cp : Nat) (en : Nat) (pg : Nat) (l1 : Nat) (l2 : Nat) (l3 : Nat) (l4 : Nat) (k : Nat → Nat) (o : Nat → Nat) (ke : Nat → Nat) (va : Nat → Int32) (n : Nat) (sy : Nat) (r1 : Nat) (s0 : Nat) (rv : Nat → Int32) (rr : Nat) (s1 : Nat) (s2 : Nat) (s3 : Nat) (s4 : Nat) (cR : Nat → Nat) (fR : Nat → Nat) (tkR : Nat → Nat) (tvR : Nat → Int32) (j : Nat) (ps : Nat) (hj : j < 3) (hfi : fi = 1) (hps : ps < 2147483648) (hen : en ≤ 512) (hst : st ≤ 512) (hee : en ≤ ps) (hsp : ps = st) (hcp : cp ≤ 512) (hv : ∀ n, st + n < ps → rpV k o (st + iq) (rpF k o ke va cp st (va_cpy bv rv 0 0 32, va_up (va_up (va_up cR 0 0) 1 0) 2 0, fR, tkR, tvR) n)) : Ct lL g y_X_restore (.code y_X_restore b_X_restore 4 (some .int)) 6 200 [.ref x, .int (nI j), .int (nI ps)] (wX g x l0 t0 p0 ba h0 r0 un ++ wBA g ba b ++ wBk g (b j) b1 bv pr fi st cp en pg ++ wLog g l0 l1 l2 l3 l4 k o ke va n sy ++ wRs g r0 r1 s0 rv rr ++ wTr g s0 s1 s2 s3 s4 cR fR tkR tvR) (exP (some (.int (nI 0))) (wX g x l0 t0 p0 ba h0 r0 un ++ wBA g ba b ++ wBk g (b j) b1 bv pr fi st cp en pg ++ wLog g l0 l1 l2 l3 l4 k o ke va n sy ++ wRs g r0 r1 s0 ((rpF k o ke va cp st (va_cpy bv rv 0 0 32, va_up (va_up (va_up cR 0 0) 1 0) 2 0, fR, tkR, tvR) (ps - st)).1) (ps - st) ++ wTr g s0 s1 s2 s3 s4 ((rpF k o ke va cp st (va_cpy bv rv 0 0 32, va_up (va_up (va_up cR 0 0) 1 0) 2 0, fR, tkR, tvR) (ps - st)).2.1) ((rpF k o ke va cp st (va_cpy bv rv 0 0 32, va_up (va_up (va_up cR 0 0) 1 0) 2 0, fR, tkR, tvR) (ps - st)).2.2.1) ((rpF k o ke va cp st (va_cpy bv rv 0 0 32, va_up (va_up (va_up cR 0 0) 1 0) 2 0, fR, tkR, tvR) (ps - st)).2.2.2.1) ((rpF k o ke va cp st (va_cpy bv rv 0 0 32, va_up (va_up (va_up cR 0 0) 1 0) 2 0, fR, tkR, tvR) (ps - st)).2.2.2.2))) := by
  refine Ct.ofW (by decide) (Nat.le_of_ble_eq_true rfl) ?_
  intro pX eX sX mX aX bX tX cX AX lsX HX oX QX zx zb zr zk zm zo zg zK zP zD zA zS zQ zl
  have zo : sX.vm.findClass R_X = some mX.cls := zo
  have zl : lv_has lsX 4 [(0, .ref x), (1, .int (nI j)), (2, .int (nI ps))] := zl
  refine lv_aload_n zx zb d_X_restore_0 rfl (lv_at zl 0 rfl) ?_
  refine lv_iload_n zx zb d_X_restore_1 rfl (lv_at zl 1 rfl) ?_
  refine ct_V (rest := []) zx zb zm zo zg zK zP zD zS zA zl.1 (c_X_isFin_t lL g x l0 t0 p0 ba h0 r0 un b b1 bv pr fi st cp en pg j (by omega) (by omega)) ok_X_isFinishedBackup ov_X_isFinishedBackup ml_X_138 (by decide) 0 0 rfl rfl rfl [0, 1, 2, 3] (by decide) rfl rfl rfl (Nat.le_of_ble_eq_true rfl) d_X_restore_2 (fun rX uX HX oX zp zP zD zS => ?_)
  obtain ⟨rfl, rfl⟩ := zp
  have zP : va_P g.1 cls (wX g x l0 t0 p0 ba h0 r0 un ++ wBA g ba b ++ wBk g (b j) b1 bv pr fi st cp en pg ++ wLog g l0 l1 l2 l3 l4 k o ke va n sy ++ wRs g r0 r1 s0 rv rr ++ wTr g s0 s1 s2 s3 s4 cR fR tkR tvR) HX := zP
  have zD : va_D AX (wX g x l0 t0 p0 ba h0 r0 un ++ wBA g ba b ++ wBk g (b j) b1 bv pr fi st cp en pg ++ wLog g l0 l1 l2 l3 l4 k o ke va n sy ++ wRs g r0 r1 s0 rv rr ++ wTr g s0 s1 s2 s3 s4 cR fR tkR tvR) := zD
  refine W.eq (g2 := F0 mX 5 lsX [.int (nI 1)]) rfl ?_
  refine wn_ieq_F (tgt := 12) zx zb d_X_restore_5 (by decide) (by omega) (by omega) ?_
  refine lv_iload_n zx zb d_X_restore_8 rfl (lv_at zl 2 rfl) ?_
  refine wn_ige_T (tgt := 14) zx zb d_X_restore_9 (by decide) (by omega) (trivial) ?_
  refine lv_aload_n zx zb d_X_restore_14 rfl (lv_at zl 0 rfl) ?_
  refine wv_get zx zb zg hin_X rfl zo zK zP 0 rfl 3 (by decide) rfl fl_X_46 rfl d_X_restore_15 ?_
  refine lv_iload_n zx zb d_X_restore_18 rfl (lv_at zl 1 rfl) ?_
  refine wv_aald (v := b j) zx zb zK zP 1 rfl rfl (by omega) (by decide) d_X_restore_19 ?_
  refine lv_astore_n (lv' := [(3, .ref (b j)), (0, .ref x), (1, .int (nI j)), (2, .int (nI ps))]) zx zb d_X_restore_20 rfl zl (by decide) rfl (fun lsX zl => ?_)
  refine lv_iload_n zx zb d_X_restore_21 rfl (lv_at zl 3 rfl) ?_
  refine lv_aload_n zx zb d_X_restore_22 rfl (lv_at zl 0 rfl) ?_
  refine wv_get zx zb zg hin_Bk rfl zo zK zP 2 rfl 5 (by decide) rfl fl_X_144 rfl d_X_restore_23 ?_
  refine wn_cge_T (tgt := 32) zx zb d_X_restore_26 (by decide) (by omega) (by omega) (by omega) ?_
  refine lv_iload_n zx zb d_X_restore_32 rfl (lv_at zl 3 rfl) ?_
  refine lv_aload_n zx zb d_X_restore_33 rfl (lv_at zl 0 rfl) ?_
  refine wv_get zx zb zg hin_Bk rfl zo zK zP 2 rfl 3 (by decide) rfl fl_X_141 rfl d_X_restore_34 ?_
  refine wn_cle_T (tgt := 58) zx zb d_X_restore_37 (by decide) (by omega) (by omega) (by omega) ?_
  refine lv_iload_n zx zb d_X_restore_58 rfl (lv_at zl 3 rfl) ?_
  refine lv_aload_n zx zb d_X_restore_59 rfl (lv_at zl 0 rfl) ?_
  refine wv_get zx zb zg hin_Bk rfl zo zK zP 2 rfl 3 (by decide) rfl fl_X_141 rfl d_X_restore_60 ?_
  refine wn_ceq_T (tgt := 80) zx zb d_X_restore_63 (by decide) (by omega) (by omega) (by omega) ?_
  refine lv_aload_n zx zb d_X_restore_80 rfl (lv_at zl 1 rfl) ?_
  refine wv_get zx zb zg hin_X rfl zo zK zP 0 rfl 5 (by decide) rfl fl_X_40 rfl d_X_restore_81 ?_
  refine lv_aload_n zx zb d_X_restore_84 rfl (lv_at zl 0 rfl) ?_
  refine lv_aload_n zx zb d_X_restore_85 rfl (lv_at zl 1 rfl) ?_
  refine wv_get zx zb zg hin_X rfl zo zK zP 0 rfl 0 (by decide) rfl fl_X_12 rfl d_X_restore_86 ?_
  refine lv_iload_n zx zb d_X_restore_89 rfl (lv_at zl 3 rfl) ?_
  refine ct_V (rest := []) zx zb zm zo zg zK zP zD zS zA zl.1 (c_Rs_rebuild lL g r0 r1 s0 rv rr s1 s2 s3 s4 cR fR tkR tvR (b j) b1 bv pr fi st cp en pg l0 l1 l2 l3 l4 k o ke va n sy ps (by omega) (by omega) (by omega) hv) ok_Rs_rebuild ov_Rs_rebuild ml_X_164 (by decide) 9 6 rfl rfl rfl [9, 10, 11, 12, 13, 14, 15, 2, 3, 4, 5, 6, 7, 8] (by decide) rfl rfl rfl (Nat.le_of_ble_eq_true rfl) d_X_restore_90 (fun rX uX HX oX zp zP zD zS => ?_)
  obtain ⟨rfl, rfl⟩ := zp
  have zP : va_P g.1 cls (wX g x l0 t0 p0 ba h0 r0 un ++ wBA g ba b ++ wBk g (b j) b1 bv pr fi st cp en pg ++ wLog g l0 l1 l2 l3 l4 k o ke va n sy ++ wRs g r0 r1 s0 ((rpF k o ke va cp st (va_cpy bv rv 0 0 32, va_up (va_up (va_up cR 0 0) 1 0) 2 0, fR, tkR, tvR) (ps - st)).1) (ps - st) ++ wTr g s0 s1 s2 s3 s4 ((rpF k o ke va cp st (va_cpy bv rv 0 0 32, va_up (va_up (va_up cR 0 0) 1 0) 2 0, fR, tkR, tvR) (ps - st)).2.1) ((rpF k o ke va cp st (va_cpy bv rv 0 0 32, va_up (va_up (va_up cR 0 0) 1 0) 2 0, fR, tkR, tvR) (ps - st)).2.2.1) ((rpF k o ke va cp st (va_cpy bv rv 0 0 32, va_up (va_up (va_up cR 0 0) 1 0) 2 0, fR, tkR, tvR) (ps - st)).2.2.2.1) ((rpF k o ke va cp st (va_cpy bv rv 0 0 32, va_up (va_up (va_up cR 0 0) 1 0) 2 0, fR, tkR, tvR) (ps - st)).2.2.2.2)) HX := zP
  have zD : va_D AX (wX g x l0 t0 p0 ba h0 r0 un ++ wBA g ba b ++ wBk g (b j) b1 bv pr fi st cp en pg ++ wLog g l0 l1 l2 l3 l4 k o ke va n sy ++ wRs g r0 r1 s0 ((rpF k o ke va cp st (va_cpy bv rv 0 0 32, va_up (va_up (va_up cR 0 0) 1 0) 2 0, fR, tkR, tvR) (ps - st)).1) (ps - st) ++ wTr g s0 s1 s2 s3 s4 ((rpF k o ke va cp st (va_cpy bv rv 0 0 32, va_up (va_up (va_up cR 0 0) 1 0) 2 0, fR, tkR, tvR) (ps - st)).2.1) ((rpF k o ke va cp st (va_cpy bv rv 0 0 32, va_up (va_up (va_up cR 0 0) 1 0) 2 0, fR, tkR, tvR) (ps - st)).2.2.1) ((rpF k o ke va cp st (va_cpy bv rv 0 0 32, va_up (va_up (va_up cR 0 0) 1 0) 2 0, fR, tkR, tvR) (ps - st)).2.2.2.1) ((rpF k o ke va cp st (va_cpy bv rv 0 0 32, va_up (va_up (va_up cR 0 0) 1 0) 2 0, fR, tkR, tvR) (ps - st)).2.2.2.2)) := zD
  refine W.eq (g2 := F0 mX 93 lsX []) rfl ?_
  refine lv_iconst (v := (nI 0)) zx zb d_X_restore_93 (by decide) ?_
  exact ct_iret zQ zx zb zr zk zP zD zS d_X_restore_94 rfl (⟨rfl, rfl⟩)
set_option maxRecDepth 20000 in
theorem c_X_reach_n (lL : Launch) (g : Gt) (x : Nat) (l0 : Nat) (t0 : Nat) (p0 : Nat) (ba : Nat) (h0 : Nat) (r0 : Nat) (un : Int32) (j : Int32) (hj : j < 0) : Ct lL g y_X_reach (.code y_X_reach b_X_reach 5 (some .int)) 6 200 [.ref x, .int j] (wX g x l0 t0 p0 ba h0 r0 un) (exP (some (.int (-1))) (wX g x l0 t0 p0 ba h0 r0 un)) := by
  refine Ct.ofW (by decide) (Nat.le_of_ble_eq_true rfl) ?_
  intro pX eX sX mX aX bX tX cX AX lsX HX oX QX zx zb zr zk zm zo zg zK zP zD zA zS zQ zl
  have zo : sX.vm.findClass R_X = some mX.cls := zo
  have zl : lv_has lsX 5 [(0, .ref x), (1, .int j)] := zl
  refine lv_aload_n zx zb d_X_reach_0 rfl (lv_at zl 0 rfl) ?_
  refine lv_iload_n zx zb d_X_reach_1 rfl (lv_at zl 1 rfl) ?_
  refine ct_V (rest := []) zx zb zm zo zg zK zP zD zS zA zl.1 (c_X_isFin_n lL g x l0 t0 p0 ba h0 r0 un j hj) ok_X_isFinishedBackup ov_X_isFinishedBackup ml_X_138 (by decide) 0 0 rfl rfl rfl [0] (by decide) rfl rfl rfl (Nat.le_of_ble_eq_true rfl) d_X_reach_2 (fun rX uX HX oX zp zP zD zS => ?_)
  obtain ⟨rfl, rfl⟩ := zp
  have zP : va_P g.1 cls (wX g x l0 t0 p0 ba h0 r0 un) HX := zP
  have zD : va_D AX (wX g x l0 t0 p0 ba h0 r0 un) := zD
  refine W.eq (g2 := F0 mX 5 lsX [.int (nI 0)]) rfl ?_
  refine wn_ine_F (tgt := 10) zx zb d_X_reach_5 (by decide) (by omega) (by omega) ?_
  refine lv_iconst (v := (-1)) zx zb d_X_reach_8 (by decide) ?_
  exact ct_iret zQ zx zb zr zk zP zD zS d_X_reach_9 rfl (⟨rfl, rfl⟩)
set_option maxRecDepth 20000 in
theorem c_X_reach_g (lL : Launch) (g : Gt) (x : Nat) (l0 : Nat) (t0 : Nat) (p0 : Nat) (ba : Nat) (h0 : Nat) (r0 : Nat) (un : Int32) (j : Nat) (hj : 3 ≤ j) (hj2 : j < 2147483648) : Ct lL g y_X_reach (.code y_X_reach b_X_reach 5 (some .int)) 6 200 [.ref x, .int (nI j)] (wX g x l0 t0 p0 ba h0 r0 un) (exP (some (.int (-1))) (wX g x l0 t0 p0 ba h0 r0 un)) := by
  refine Ct.ofW (by decide) (Nat.le_of_ble_eq_true rfl) ?_
  intro pX eX sX mX aX bX tX cX AX lsX HX oX QX zx zb zr zk zm zo zg zK zP zD zA zS zQ zl
  have zo : sX.vm.findClass R_X = some mX.cls := zo
  have zl : lv_has lsX 5 [(0, .ref x), (1, .int (nI j))] := zl
  refine lv_aload_n zx zb d_X_reach_0 rfl (lv_at zl 0 rfl) ?_
  refine lv_iload_n zx zb d_X_reach_1 rfl (lv_at zl 1 rfl) ?_
  refine ct_V (rest := []) zx zb zm zo zg zK zP zD zS zA zl.1 (c_X_isFin_g lL g x l0 t0 p0 ba h0 r0 un j (by omega) (by omega)) ok_X_isFinishedBackup ov_X_isFinishedBackup ml_X_138 (by decide) 0 0 rfl rfl rfl [0] (by decide) rfl rfl rfl (Nat.le_of_ble_eq_true rfl) d_X_reach_2 (fun rX uX HX oX zp zP zD zS => ?_)
  obtain ⟨rfl, rfl⟩ := zp
  have zP : va_P g.1 cls (wX g x l0 t0 p0 ba h0 r0 un) HX := zP
  have zD : va_D AX (wX g x l0 t0 p0 ba h0 r0 un) := zD
  refine W.eq (g2 := F0 mX 5 lsX [.int (nI 0)]) rfl ?_
  refine wn_ine_F (tgt := 10) zx zb d_X_reach_5 (by decide) (by omega) (by omega) ?_
  refine lv_iconst (v := (-1)) zx zb d_X_reach_8 (by decide) ?_
  exact ct_iret zQ zx zb zr zk zP zD zS d_X_reach_9 rfl (⟨rfl, rfl⟩)
set_option maxRecDepth 20000 in
theorem c_X_reach_f (lL : Launch) (g : Gt) (x : Nat) (l0 : Nat) (t0 : Nat) (p0 : Nat) (ba : Nat) (h0 : Nat) (r0 : Nat) (un : Int32) (b : Nat → Nat) (b1 : Nat) (bv : Nat → Int32) (pr : Nat) (fi : Nat) (st : Nat) (cp : Nat) (en : Nat) (pg : Nat) (j : Nat) (hj : j < 3) (hfi : fi = 0) : Ct lL g y_X_reach (.code y_X_reach b_X_reach 5 (some .int)) 6 200 [.ref x, .int (nI j)] (wX g x l0 t0 p0 ba h0 r0 un ++ wBA g ba b ++ wBk g (b j) b1 bv pr fi st cp en pg) (exP (some (.int (-1))) (wX g x l0 t0 p0 ba h0 r0 un ++ wBA g ba b ++ wBk g (b j) b1 bv pr fi st cp en pg)) := by
  refine Ct.ofW (by decide) (Nat.le_of_ble_eq_true rfl) ?_
  intro pX eX sX mX aX bX tX cX AX lsX HX oX QX zx zb zr zk zm zo zg zK zP zD zA zS zQ zl
  have zo : sX.vm.findClass R_X = some mX.cls := zo
  have zl : lv_has lsX 5 [(0, .ref x), (1, .int (nI j))] := zl
  refine lv_aload_n zx zb d_X_reach_0 rfl (lv_at zl 0 rfl) ?_
  refine lv_iload_n zx zb d_X_reach_1 rfl (lv_at zl 1 rfl) ?_
  refine ct_V (rest := []) zx zb zm zo zg zK zP zD zS zA zl.1 (c_X_isFin_f lL g x l0 t0 p0 ba h0 r0 un b b1 bv pr fi st cp en pg j (by omega) (by omega)) ok_X_isFinishedBackup ov_X_isFinishedBackup ml_X_138 (by decide) 0 0 rfl rfl rfl [0, 1, 2, 3] (by decide) rfl rfl rfl (Nat.le_of_ble_eq_true rfl) d_X_reach_2 (fun rX uX HX oX zp zP zD zS => ?_)
  obtain ⟨rfl, rfl⟩ := zp
  have zP : va_P g.1 cls (wX g x l0 t0 p0 ba h0 r0 un ++ wBA g ba b ++ wBk g (b j) b1 bv pr fi st cp en pg) HX := zP
  have zD : va_D AX (wX g x l0 t0 p0 ba h0 r0 un ++ wBA g ba b ++ wBk g (b j) b1 bv pr fi st cp en pg) := zD
  refine W.eq (g2 := F0 mX 5 lsX [.int (nI 0)]) rfl ?_
  refine wn_ine_F (tgt := 10) zx zb d_X_reach_5 (by decide) (by omega) (by omega) ?_
  refine lv_iconst (v := (-1)) zx zb d_X_reach_8 (by decide) ?_
  exact ct_iret zQ zx zb zr zk zP zD zS d_X_reach_9 rfl (⟨rfl, rfl⟩)
/-- the latest commit from p down that a restore reaches -/
def rcR (k : Nat → Nat) (st en : Nat) : Nat → Int32
  | 0 => if st = en then nI st else -1
  | p + 1 => if st < p + 1 ∧ en ≤ p + 1 then (if k p = 1 then nI (p + 1) else rcR k st en p) else (if st = en then nI st else -1)
theorem rcR_out {k : Nat → Nat} {st en p : Nat} (h : ¬ (st < p ∧ en ≤ p)) : rcR k st en p = if st = en then nI st else -1 := by
  cases p with
  | zero => rfl
  | succ p => exact if_neg h
theorem rcR_in {k : Nat → Nat} {st en p : Nat} (h1 : st < p) (h2 : en ≤ p) : rcR k st en p = if k (p - 1) = 1 then nI p else rcR k st en (p - 1) := by
  cases p with
  | zero => omega
  | succ p => exact if_pos ⟨h1, h2⟩
