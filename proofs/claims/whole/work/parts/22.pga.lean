set_option maxRecDepth 20000 in
theorem c_Pg_isDirty_t (lL : Launch) (g : Gt) (p0 : Nat) (p1 : Nat) (p2 : Nat) (p3 : Nat) (p4 : Nat) (p5 : Nat) (me : Nat → Int32) (ms : Nat → Int32) (dk : Nat → Int32) (ds : Nat → Nat) (du : Nat → Nat) (pg : Nat) (hp8 : pg < 8) (hd : 0 < ds pg) (hd2 : ds pg ≤ 512) : Ct lL g y_Pg_isDirty (.code y_Pg_isDirty b_Pg_isDirty 2 (some .boolean)) 0 0 [.ref p0, .int (nI pg)] (wPg g p0 p1 p2 p3 p4 p5 me ms dk ds du) (exP (some (.int (nI 1))) (wPg g p0 p1 p2 p3 p4 p5 me ms dk ds du)) := by
  refine Ct.ofW (by decide) (Nat.le_of_ble_eq_true rfl) ?_
  intro pX eX sX mX aX bX tX cX AX lsX HX oX QX zx zb zr zk zm zo zg zK zP zD zA zS zQ zl
  have zo : sX.vm.findClass R_Pg = some mX.cls := zo
  have zl : lv_has lsX 2 [(0, .ref p0), (1, .int (nI pg))] := zl
  refine lv_aload_n zx zb d_Pg_isDirty_0 rfl (lv_at zl 0 rfl) ?_
  refine wv_get zx zb zg hin_Pg rfl zo zK zP 0 rfl 3 (by decide) rfl fl_Pg_21 rfl d_Pg_isDirty_1 ?_
  refine lv_iload_n zx zb d_Pg_isDirty_4 rfl (lv_at zl 1 rfl) ?_
  refine wv_ialdN zx zb zK zP 4 rfl (by omega) (by decide) d_Pg_isDirty_5 ?_
  refine wn_ile_F (tgt := 13) zx zb d_Pg_isDirty_6 (by decide) (by omega) (by omega) ?_
  refine lv_iconst (v := (nI 1)) zx zb d_Pg_isDirty_9 (by decide) ?_
  refine lv_goto (tgt := 14) zx zb d_Pg_isDirty_10 (by decide) ?_
  exact ct_zret zQ zx zb zr zk zP zD zS d_Pg_isDirty_14 rfl (by decide) (⟨rfl, rfl⟩)
set_option maxRecDepth 20000 in
theorem c_Pg_isDirty_f (lL : Launch) (g : Gt) (p0 : Nat) (p1 : Nat) (p2 : Nat) (p3 : Nat) (p4 : Nat) (p5 : Nat) (me : Nat → Int32) (ms : Nat → Int32) (dk : Nat → Int32) (ds : Nat → Nat) (du : Nat → Nat) (pg : Nat) (hp8 : pg < 8) (hd : ds pg = 0) : Ct lL g y_Pg_isDirty (.code y_Pg_isDirty b_Pg_isDirty 2 (some .boolean)) 0 0 [.ref p0, .int (nI pg)] (wPg g p0 p1 p2 p3 p4 p5 me ms dk ds du) (exP (some (.int (nI 0))) (wPg g p0 p1 p2 p3 p4 p5 me ms dk ds du)) := by
  refine Ct.ofW (by decide) (Nat.le_of_ble_eq_true rfl) ?_
  intro pX eX sX mX aX bX tX cX AX lsX HX oX QX zx zb zr zk zm zo zg zK zP zD zA zS zQ zl
  have zo : sX.vm.findClass R_Pg = some mX.cls := zo
  have zl : lv_has lsX 2 [(0, .ref p0), (1, .int (nI pg))] := zl
  refine lv_aload_n zx zb d_Pg_isDirty_0 rfl (lv_at zl 0 rfl) ?_
  refine wv_get zx zb zg hin_Pg rfl zo zK zP 0 rfl 3 (by decide) rfl fl_Pg_21 rfl d_Pg_isDirty_1 ?_
  refine lv_iload_n zx zb d_Pg_isDirty_4 rfl (lv_at zl 1 rfl) ?_
  refine wv_ialdN zx zb zK zP 4 rfl (by omega) (by decide) d_Pg_isDirty_5 ?_
  refine wn_ile_T (tgt := 13) zx zb d_Pg_isDirty_6 (by decide) (by omega) (by omega) ?_
  refine lv_iconst (v := (nI 0)) zx zb d_Pg_isDirty_13 (by decide) ?_
  exact ct_zret zQ zx zb zr zk zP zD zS d_Pg_isDirty_14 rfl (by decide) (⟨rfl, rfl⟩)
set_option maxRecDepth 20000 in
theorem c_Pg_markClean (lL : Launch) (g : Gt) (p0 : Nat) (p1 : Nat) (p2 : Nat) (p3 : Nat) (p4 : Nat) (p5 : Nat) (me : Nat → Int32) (ms : Nat → Int32) (dk : Nat → Int32) (ds : Nat → Nat) (du : Nat → Nat) (pg : Nat) (hp8 : pg < 8) : Ct lL g y_Pg_markClean (.code y_Pg_markClean b_Pg_markClean 2 (none)) 0 0 [.ref p0, .int (nI pg)] (wPg g p0 p1 p2 p3 p4 p5 me ms dk ds du) (exP (none) (wPg g p0 p1 p2 p3 p4 p5 me ms dk (va_up ds pg 0) (va_up du pg 0))) := by
  refine Ct.ofW (by decide) (Nat.le_of_ble_eq_true rfl) ?_
  intro pX eX sX mX aX bX tX cX AX lsX HX oX QX zx zb zr zk zm zo zg zK zP zD zA zS zQ zl
  have zo : sX.vm.findClass R_Pg = some mX.cls := zo
  have zl : lv_has lsX 2 [(0, .ref p0), (1, .int (nI pg))] := zl
  refine lv_aload_n zx zb d_Pg_markClean_0 rfl (lv_at zl 0 rfl) ?_
  refine wv_get zx zb zg hin_Pg rfl zo zK zP 0 rfl 3 (by decide) rfl fl_Pg_21 rfl d_Pg_markClean_1 ?_
  refine lv_iload_n zx zb d_Pg_markClean_4 rfl (lv_at zl 1 rfl) ?_
  refine lv_iconst (v := (nI 0)) zx zb d_Pg_markClean_5 (by decide) ?_
  refine wv_iastN zx zb zK zP zD zS 4 rfl (by omega) (by decide) d_Pg_markClean_6 (fun HX oX zP zD zS => ?_)
  have zP : va_P g.1 cls (wPg g p0 p1 p2 p3 p4 p5 me ms dk (va_up ds pg 0) du) HX := zP
  have zD : va_D AX (wPg g p0 p1 p2 p3 p4 p5 me ms dk (va_up ds pg 0) du) := zD
  refine lv_aload_n zx zb d_Pg_markClean_7 rfl (lv_at zl 0 rfl) ?_
  refine wv_get zx zb zg hin_Pg rfl zo zK zP 0 rfl 4 (by decide) rfl fl_Pg_24 rfl d_Pg_markClean_8 ?_
  refine lv_iload_n zx zb d_Pg_markClean_11 rfl (lv_at zl 1 rfl) ?_
  refine lv_iconst (v := (nI 0)) zx zb d_Pg_markClean_12 (by decide) ?_
  refine wv_iastN zx zb zK zP zD zS 5 rfl (by omega) (by decide) d_Pg_markClean_13 (fun HX oX zP zD zS => ?_)
  have zP : va_P g.1 cls (wPg g p0 p1 p2 p3 p4 p5 me ms dk (va_up ds pg 0) (va_up du pg 0)) HX := zP
  have zD : va_D AX (wPg g p0 p1 p2 p3 p4 p5 me ms dk (va_up ds pg 0) (va_up du pg 0)) := zD
  exact ct_vret zQ zx zb zr zk zP zD zS d_Pg_markClean_14 rfl (⟨rfl, rfl⟩)
set_option maxRecDepth 20000 in
theorem c_Pg_markDirty_t (lL : Launch) (g : Gt) (p0 : Nat) (p1 : Nat) (p2 : Nat) (p3 : Nat) (p4 : Nat) (p5 : Nat) (me : Nat → Int32) (ms : Nat → Int32) (dk : Nat → Int32) (ds : Nat → Nat) (du : Nat → Nat) (pg : Nat) (da : Nat) (hp8 : pg < 8) (hd : 0 < ds pg) (hd2 : ds pg ≤ 512) : Ct lL g y_Pg_markDirty (.code y_Pg_markDirty b_Pg_markDirty 3 (none)) 1 21 [.ref p0, .int (nI pg), .int (nI da)] (wPg g p0 p1 p2 p3 p4 p5 me ms dk ds du) (exP (none) (wPg g p0 p1 p2 p3 p4 p5 me ms dk ds (va_up du pg da))) := by
  refine Ct.ofW (by decide) (Nat.le_of_ble_eq_true rfl) ?_
  intro pX eX sX mX aX bX tX cX AX lsX HX oX QX zx zb zr zk zm zo zg zK zP zD zA zS zQ zl
  have zo : sX.vm.findClass R_Pg = some mX.cls := zo
  have zl : lv_has lsX 3 [(0, .ref p0), (1, .int (nI pg)), (2, .int (nI da))] := zl
  refine lv_aload_n zx zb d_Pg_markDirty_0 rfl (lv_at zl 0 rfl) ?_
  refine lv_iload_n zx zb d_Pg_markDirty_1 rfl (lv_at zl 1 rfl) ?_
  refine ct_V (ws' := wPg g p0 p1 p2 p3 p4 p5 me ms dk ds du) (rest := []) (st1 := [.int (nI 1)]) zx zb zm zo zg zK zP zD zS zA zl.1 (c_Pg_isDirty_t lL g p0 p1 p2 p3 p4 p5 me ms dk ds du pg (by omega) (by omega) (by omega)) ok_Pg_isDirty ov_Pg_isDirty ml_Pg_27 (by decide) 0 3 rfl rfl rfl [0, 1, 2, 3, 4, 5] [] 6 (by decide) rfl rfl rfl rfl (by decide) rfl rfl rfl (Nat.le_of_ble_eq_true rfl) d_Pg_markDirty_2 (fun HX oX zP zD zS => ?_)
  refine wn_ine_T (tgt := 15) zx zb d_Pg_markDirty_5 (by decide) (by omega) (by omega) ?_
  refine lv_aload_n zx zb d_Pg_markDirty_15 rfl (lv_at zl 0 rfl) ?_
  refine wv_get zx zb zg hin_Pg rfl zo zK zP 0 rfl 4 (by decide) rfl fl_Pg_24 rfl d_Pg_markDirty_16 ?_
  refine lv_iload_n zx zb d_Pg_markDirty_19 rfl (lv_at zl 1 rfl) ?_
  refine lv_iload_n zx zb d_Pg_markDirty_20 rfl (lv_at zl 2 rfl) ?_
  refine wv_iastN zx zb zK zP zD zS 5 rfl (by omega) (by decide) d_Pg_markDirty_21 (fun HX oX zP zD zS => ?_)
  have zP : va_P g.1 cls (wPg g p0 p1 p2 p3 p4 p5 me ms dk ds (va_up du pg da)) HX := zP
  have zD : va_D AX (wPg g p0 p1 p2 p3 p4 p5 me ms dk ds (va_up du pg da)) := zD
  exact ct_vret zQ zx zb zr zk zP zD zS d_Pg_markDirty_22 rfl (⟨rfl, rfl⟩)
set_option maxRecDepth 20000 in
theorem c_Pg_markDirty_f (lL : Launch) (g : Gt) (p0 : Nat) (p1 : Nat) (p2 : Nat) (p3 : Nat) (p4 : Nat) (p5 : Nat) (me : Nat → Int32) (ms : Nat → Int32) (dk : Nat → Int32) (ds : Nat → Nat) (du : Nat → Nat) (pg : Nat) (da : Nat) (hp8 : pg < 8) (hd : ds pg = 0) : Ct lL g y_Pg_markDirty (.code y_Pg_markDirty b_Pg_markDirty 3 (none)) 1 21 [.ref p0, .int (nI pg), .int (nI da)] (wPg g p0 p1 p2 p3 p4 p5 me ms dk ds du) (exP (none) (wPg g p0 p1 p2 p3 p4 p5 me ms dk (va_up ds pg da) (va_up du pg da))) := by
  refine Ct.ofW (by decide) (Nat.le_of_ble_eq_true rfl) ?_
  intro pX eX sX mX aX bX tX cX AX lsX HX oX QX zx zb zr zk zm zo zg zK zP zD zA zS zQ zl
  have zo : sX.vm.findClass R_Pg = some mX.cls := zo
  have zl : lv_has lsX 3 [(0, .ref p0), (1, .int (nI pg)), (2, .int (nI da))] := zl
  refine lv_aload_n zx zb d_Pg_markDirty_0 rfl (lv_at zl 0 rfl) ?_
  refine lv_iload_n zx zb d_Pg_markDirty_1 rfl (lv_at zl 1 rfl) ?_
  refine ct_V (ws' := wPg g p0 p1 p2 p3 p4 p5 me ms dk ds du) (rest := []) (st1 := [.int (nI 0)]) zx zb zm zo zg zK zP zD zS zA zl.1 (c_Pg_isDirty_f lL g p0 p1 p2 p3 p4 p5 me ms dk ds du pg (by omega) (by omega)) ok_Pg_isDirty ov_Pg_isDirty ml_Pg_27 (by decide) 0 3 rfl rfl rfl [0, 1, 2, 3, 4, 5] [] 6 (by decide) rfl rfl rfl rfl (by decide) rfl rfl rfl (Nat.le_of_ble_eq_true rfl) d_Pg_markDirty_2 (fun HX oX zP zD zS => ?_)
  refine wn_ine_F (tgt := 15) zx zb d_Pg_markDirty_5 (by decide) (by omega) (by omega) ?_
  refine lv_aload_n zx zb d_Pg_markDirty_8 rfl (lv_at zl 0 rfl) ?_
  refine wv_get zx zb zg hin_Pg rfl zo zK zP 0 rfl 3 (by decide) rfl fl_Pg_21 rfl d_Pg_markDirty_9 ?_
  refine lv_iload_n zx zb d_Pg_markDirty_12 rfl (lv_at zl 1 rfl) ?_
  refine lv_iload_n zx zb d_Pg_markDirty_13 rfl (lv_at zl 2 rfl) ?_
  refine wv_iastN zx zb zK zP zD zS 4 rfl (by omega) (by decide) d_Pg_markDirty_14 (fun HX oX zP zD zS => ?_)
  have zP : va_P g.1 cls (wPg g p0 p1 p2 p3 p4 p5 me ms dk (va_up ds pg da) du) HX := zP
  have zD : va_D AX (wPg g p0 p1 p2 p3 p4 p5 me ms dk (va_up ds pg da) du) := zD
  refine lv_aload_n zx zb d_Pg_markDirty_15 rfl (lv_at zl 0 rfl) ?_
  refine wv_get zx zb zg hin_Pg rfl zo zK zP 0 rfl 4 (by decide) rfl fl_Pg_24 rfl d_Pg_markDirty_16 ?_
  refine lv_iload_n zx zb d_Pg_markDirty_19 rfl (lv_at zl 1 rfl) ?_
  refine lv_iload_n zx zb d_Pg_markDirty_20 rfl (lv_at zl 2 rfl) ?_
  refine wv_iastN zx zb zK zP zD zS 5 rfl (by omega) (by decide) d_Pg_markDirty_21 (fun HX oX zP zD zS => ?_)
  have zP : va_P g.1 cls (wPg g p0 p1 p2 p3 p4 p5 me ms dk (va_up ds pg da) (va_up du pg da)) HX := zP
  have zD : va_D AX (wPg g p0 p1 p2 p3 p4 p5 me ms dk (va_up ds pg da) (va_up du pg da)) := zD
  exact ct_vret zQ zx zb zr zk zP zD zS d_Pg_markDirty_22 rfl (⟨rfl, rfl⟩)
set_option maxRecDepth 20000 in
theorem c_Pg_writeToDisk (lL : Launch) (g : Gt) (p0 : Nat) (p1 : Nat) (p2 : Nat) (p3 : Nat) (p4 : Nat) (p5 : Nat) (me : Nat → Int32) (ms : Nat → Int32) (dk : Nat → Int32) (ds : Nat → Nat) (du : Nat → Nat) (pg : Nat) (hp8 : pg < 8) : Ct lL g y_Pg_writeToDisk (.code y_Pg_writeToDisk b_Pg_writeToDisk 3 (none)) 1 24 [.ref p0, .int (nI pg)] (wPg g p0 p1 p2 p3 p4 p5 me ms dk ds du) (exP (none) (wPg g p0 p1 p2 p3 p4 p5 me ms (va_cpy me dk (pg * 4) (pg * 4) 4) (va_up ds pg 0) (va_up du pg 0))) := by
  refine Ct.ofW (by decide) (Nat.le_of_ble_eq_true rfl) ?_
  intro pX eX sX mX aX bX tX cX AX lsX HX oX QX zx zb zr zk zm zo zg zK zP zD zA zS zQ zl
  have zo : sX.vm.findClass R_Pg = some mX.cls := zo
  have zl : lv_has lsX 3 [(0, .ref p0), (1, .int (nI pg))] := zl
  refine lv_iload_n zx zb d_Pg_writeToDisk_0 rfl (lv_at zl 1 rfl) ?_
  refine lv_iconst (v := (nI 4)) zx zb d_Pg_writeToDisk_1 (by decide) ?_
  refine wv_imul zx zb d_Pg_writeToDisk_2 (pk_mul _ _) ?_
  refine lv_istore_n (lv' := [(2, .int (nI (pg * 4))), (0, .ref p0), (1, .int (nI pg))]) zx zb d_Pg_writeToDisk_3 rfl zl (by decide) rfl (fun lsX zl => ?_)
  refine lv_aload_n zx zb d_Pg_writeToDisk_4 rfl (lv_at zl 1 rfl) ?_
  refine wv_get zx zb zg hin_Pg rfl zo zK zP 0 rfl 0 (by decide) rfl fl_Pg_9 rfl d_Pg_writeToDisk_5 ?_
  refine lv_iload_n zx zb d_Pg_writeToDisk_8 rfl (lv_at zl 0 rfl) ?_
  refine lv_aload_n zx zb d_Pg_writeToDisk_9 rfl (lv_at zl 1 rfl) ?_
  refine wv_get zx zb zg hin_Pg rfl zo zK zP 0 rfl 2 (by decide) rfl fl_Pg_18 rfl d_Pg_writeToDisk_10 ?_
  refine lv_iload_n zx zb d_Pg_writeToDisk_13 rfl (lv_at zl 0 rfl) ?_
  refine lv_iconst (v := (nI 4)) zx zb d_Pg_writeToDisk_14 (by decide) ?_
  refine wv_copy zx zb (zm.trans zl.1.symm) zg zo ml_Pg_51 wd_nat wd_stat wd_ini zK zP zD zS 1 3 rfl rfl (by omega) (by omega) (by decide) (by decide) (by decide) (Nat.le_of_ble_eq_true rfl) d_Pg_writeToDisk_15 (fun HX oX zP zD zS => ?_)
  have zP : va_P g.1 cls (wPg g p0 p1 p2 p3 p4 p5 me ms (va_cpy me dk (pg * 4) (pg * 4) 4) ds du) HX := zP
  have zD : va_D AX (wPg g p0 p1 p2 p3 p4 p5 me ms (va_cpy me dk (pg * 4) (pg * 4) 4) ds du) := zD
  refine lv_aload_n zx zb d_Pg_writeToDisk_18 rfl (lv_at zl 1 rfl) ?_
  refine lv_iload_n zx zb d_Pg_writeToDisk_19 rfl (lv_at zl 2 rfl) ?_
  refine ct_V (ws' := wPg g p0 p1 p2 p3 p4 p5 me ms (va_cpy me dk (pg * 4) (pg * 4) 4) (va_up ds pg 0) (va_up du pg 0)) (rest := []) (st1 := []) zx zb zm zo zg zK zP zD zS zA zl.1 (c_Pg_markClean lL g p0 p1 p2 p3 p4 p5 me ms (va_cpy me dk (pg * 4) (pg * 4) 4) ds du pg (by omega)) ok_Pg_markClean ov_Pg_markClean ml_Pg_57 (by decide) 0 3 rfl rfl rfl [0, 1, 2, 3, 4, 5] [] 6 (by decide) rfl rfl rfl rfl (by decide) rfl rfl rfl (Nat.le_of_ble_eq_true rfl) d_Pg_writeToDisk_20 (fun HX oX zP zD zS => ?_)
  exact ct_vret zQ zx zb zr zk zP zD zS d_Pg_writeToDisk_23 rfl (⟨rfl, rfl⟩)
set_option maxRecDepth 20000 in
theorem c_Pg_keepForCrash (lL : Launch) (g : Gt) (p0 : Nat) (p1 : Nat) (p2 : Nat) (p3 : Nat) (p4 : Nat) (p5 : Nat) (me : Nat → Int32) (ms : Nat → Int32) (dk : Nat → Int32) (ds : Nat → Nat) (du : Nat → Nat)  : Ct lL g y_Pg_keepForCrash (.code y_Pg_keepForCrash b_Pg_keepForCrash 1 (none)) 1 24 [.ref p0] (wPg g p0 p1 p2 p3 p4 p5 me ms dk ds du) (exP (none) (wPg g p0 p1 p2 p3 p4 p5 me (va_cpy me ms 0 0 32) dk ds du)) := by
  refine Ct.ofW (by decide) (Nat.le_of_ble_eq_true rfl) ?_
  intro pX eX sX mX aX bX tX cX AX lsX HX oX QX zx zb zr zk zm zo zg zK zP zD zA zS zQ zl
  have zo : sX.vm.findClass R_Pg = some mX.cls := zo
  have zl : lv_has lsX 1 [(0, .ref p0)] := zl
  refine lv_aload_n zx zb d_Pg_keepForCrash_0 rfl (lv_at zl 0 rfl) ?_
  refine wv_get zx zb zg hin_Pg rfl zo zK zP 0 rfl 0 (by decide) rfl fl_Pg_9 rfl d_Pg_keepForCrash_1 ?_
  refine lv_iconst (v := (nI 0)) zx zb d_Pg_keepForCrash_4 (by decide) ?_
  refine lv_aload_n zx zb d_Pg_keepForCrash_5 rfl (lv_at zl 0 rfl) ?_
  refine wv_get zx zb zg hin_Pg rfl zo zK zP 0 rfl 1 (by decide) rfl fl_Pg_15 rfl d_Pg_keepForCrash_6 ?_
  refine lv_iconst (v := (nI 0)) zx zb d_Pg_keepForCrash_9 (by decide) ?_
  refine lv_bipush (v := (nI 32)) zx zb d_Pg_keepForCrash_10 (by decide) ?_
  refine wv_copy zx zb (zm.trans zl.1.symm) zg zo ml_Pg_51 wd_nat wd_stat wd_ini zK zP zD zS 1 2 rfl rfl (by omega) (by omega) (by decide) (by decide) (by decide) (Nat.le_of_ble_eq_true rfl) d_Pg_keepForCrash_12 (fun HX oX zP zD zS => ?_)
  have zP : va_P g.1 cls (wPg g p0 p1 p2 p3 p4 p5 me (va_cpy me ms 0 0 32) dk ds du) HX := zP
  have zD : va_D AX (wPg g p0 p1 p2 p3 p4 p5 me (va_cpy me ms 0 0 32) dk ds du) := zD
  exact ct_vret zQ zx zb zr zk zP zD zS d_Pg_keepForCrash_15 rfl (⟨rfl, rfl⟩)
def cdS (ds : Nat → Nat) : Nat → Nat → Nat
  | _, 0 => 0
  | s, n + 1 => (if 0 < ds s then 1 else 0) + cdS ds (s + 1) n
theorem cdS_le (ds : Nat → Nat) : ∀ (n s : Nat), cdS ds s n ≤ n
  | 0, _ => Nat.le_refl _
  | n + 1, s => by
    have := cdS_le ds n (s + 1)
    show (if 0 < ds s then 1 else 0) + cdS ds (s + 1) n ≤ n + 1
    split <;> omega
set_option maxRecDepth 20000 in
theorem c_Pg_countDirty (lL : Launch) (g : Gt) (p0 : Nat) (p1 : Nat) (p2 : Nat) (p3 : Nat) (p4 : Nat) (p5 : Nat) (me : Nat → Int32) (ms : Nat → Int32) (dk : Nat → Int32) (ds : Nat → Nat) (du : Nat → Nat) (hd : ∀ q, q < 8 → ds q ≤ 512) : Ct lL g y_Pg_countDirty (.code y_Pg_countDirty b_Pg_countDirty 3 (some .int)) 1 21 [.ref p0] (wPg g p0 p1 p2 p3 p4 p5 me ms dk ds du) (exP (some (.int (nI (cdS ds 0 8)))) (wPg g p0 p1 p2 p3 p4 p5 me ms dk ds du)) := by
  refine Ct.ofW (by decide) (Nat.le_of_ble_eq_true rfl) ?_
  intro pX eX sX mX aX bX tX cX AX lsX HX oX QX zx zb zr zk zm zo zg zK zP zD zA zS zQ zl
  have zo : sX.vm.findClass R_Pg = some mX.cls := zo
  have zl : lv_has lsX 3 [(0, .ref p0)] := zl
  refine lv_iconst (v := (nI 0)) zx zb d_Pg_countDirty_0 (by decide) ?_
  refine lv_istore_n (lv' := [(1, .int (nI 0)), (0, .ref p0)]) zx zb d_Pg_countDirty_1 rfl zl (by decide) rfl (fun lsX zl => ?_)
  refine lv_iconst (v := (nI 0)) zx zb d_Pg_countDirty_2 (by decide) ?_
  refine lv_istore_n (lv' := [(2, .int (nI 0)), (1, .int (nI 0)), (0, .ref p0)]) zx zb d_Pg_countDirty_3 rfl zl (by decide) rfl (fun lsX zl => ?_)
  have loop4 : ∀ (kk : Nat) (n : Nat) (q : Nat), kk = 8 - q → (n ≤ q) → (q ≤ 8) → (n + cdS ds q (8 - q) = cdS ds 0 8) → ∀ (lsX : Array Slot) (HX : Heap) (oX : List Loc), lv_has lsX 3 [(0, .ref p0), (1, .int (nI n)), (2, .int (nI q))] → va_P g.1 cls (wPg g p0 p1 p2 p3 p4 p5 me ms dk ds du) HX → va_D AX (wPg g p0 p1 p2 p3 p4 p5 me ms dk ds du) → va_S AX sX.heap HX oX → W pX lL eX (rmL 1 21) sX mX aX bX tX cX HX oX 0 0 QX (F0 mX 4 lsX []) := by
    intro kk
    induction kk using Nat.strongRecOn with
    | ind kk ih_loop4 =>
      intro n q hkk hn hq hi lsX HX oX zl zP zD zS
      rcases Nat.lt_or_ge q 8 with h3 | h3
      · have hdq := hd q h3
        have e3 : 8 - q = (8 - (q + 1)) + 1 := by omega
        rw [e3] at hi
        have hi : n + ((if 0 < ds q then 1 else 0) + cdS ds (q + 1) (8 - (q + 1))) = cdS ds 0 8 := hi
        refine lv_iload_n zx zb d_Pg_countDirty_4 rfl (lv_at zl 2 rfl) ?_
        refine lv_bipush (v := (nI 8)) zx zb d_Pg_countDirty_5 (by decide) ?_
        refine wn_cge_F (tgt := 27) zx zb d_Pg_countDirty_7 (by decide) (by omega) (by omega) (by omega) ?_
        rcases Nat.eq_zero_or_pos (ds q) with hz | hz
        · rw [if_neg (by omega)] at hi
          have hi : n + cdS ds (q + 1) (8 - (q + 1)) = cdS ds 0 8 := by omega
          refine lv_aload_n zx zb d_Pg_countDirty_10 rfl (lv_at zl 0 rfl) ?_
          refine lv_iload_n zx zb d_Pg_countDirty_11 rfl (lv_at zl 2 rfl) ?_
          refine ct_V (ws' := wPg g p0 p1 p2 p3 p4 p5 me ms dk ds du) (rest := []) (st1 := [.int (nI 0)]) zx zb zm zo zg zK zP zD zS zA zl.1 (c_Pg_isDirty_f lL g p0 p1 p2 p3 p4 p5 me ms dk ds du q (by omega) (by omega)) ok_Pg_isDirty ov_Pg_isDirty ml_Pg_27 (by decide) 0 3 rfl rfl rfl [0, 1, 2, 3, 4, 5] [] 6 (by decide) rfl rfl rfl rfl (by decide) rfl rfl rfl (Nat.le_of_ble_eq_true rfl) d_Pg_countDirty_12 (fun HX oX zP zD zS => ?_)
          refine wn_ieq_T (tgt := 21) zx zb d_Pg_countDirty_15 (by decide) (by omega) (by omega) ?_
          refine lv_iinc (k := 2) (lv' := [(2, .int (nI (q + 1))), (0, .ref p0), (1, .int (nI n))]) zx zb d_Pg_countDirty_21 zl rfl (ni_inc _) (by decide) rfl (fun lsX zl => ?_)
          refine lv_goto (tgt := 4) zx zb d_Pg_countDirty_24 (by decide) ?_
          exact ih_loop4 _ (by omega) n (q + 1) rfl (by omega) (by omega) hi lsX HX oX (lv_sub zl [1, 2, 0] rfl) zP zD zS
        · rw [if_pos hz] at hi
          have hi : n + 1 + cdS ds (q + 1) (8 - (q + 1)) = cdS ds 0 8 := by omega
          refine lv_aload_n zx zb d_Pg_countDirty_10 rfl (lv_at zl 0 rfl) ?_
          refine lv_iload_n zx zb d_Pg_countDirty_11 rfl (lv_at zl 2 rfl) ?_
          refine ct_V (ws' := wPg g p0 p1 p2 p3 p4 p5 me ms dk ds du) (rest := []) (st1 := [.int (nI 1)]) zx zb zm zo zg zK zP zD zS zA zl.1 (c_Pg_isDirty_t lL g p0 p1 p2 p3 p4 p5 me ms dk ds du q (by omega) (by omega) (by omega)) ok_Pg_isDirty ov_Pg_isDirty ml_Pg_27 (by decide) 0 3 rfl rfl rfl [0, 1, 2, 3, 4, 5] [] 6 (by decide) rfl rfl rfl rfl (by decide) rfl rfl rfl (Nat.le_of_ble_eq_true rfl) d_Pg_countDirty_12 (fun HX oX zP zD zS => ?_)
          refine wn_ieq_F (tgt := 21) zx zb d_Pg_countDirty_15 (by decide) (by omega) (by omega) ?_
          refine lv_iinc (k := 1) (lv' := [(1, .int (nI (n + 1))), (0, .ref p0), (2, .int (nI q))]) zx zb d_Pg_countDirty_18 zl rfl (ni_inc _) (by decide) rfl (fun lsX zl => ?_)
          refine lv_iinc (k := 2) (lv' := [(2, .int (nI (q + 1))), (1, .int (nI (n + 1))), (0, .ref p0)]) zx zb d_Pg_countDirty_21 zl rfl (ni_inc _) (by decide) rfl (fun lsX zl => ?_)
          refine lv_goto (tgt := 4) zx zb d_Pg_countDirty_24 (by decide) ?_
          exact ih_loop4 _ (by omega) (n + 1) (q + 1) rfl (by omega) (by omega) hi lsX HX oX (lv_sub zl [2, 1, 0] rfl) zP zD zS
      · have e3 : q = 8 := by omega
        subst e3
        have hi : n = cdS ds 0 8 := hi
        refine lv_iload_n zx zb d_Pg_countDirty_4 rfl (lv_at zl 2 rfl) ?_
        refine lv_bipush (v := (nI 8)) zx zb d_Pg_countDirty_5 (by decide) ?_
        refine wn_cge_T (tgt := 27) zx zb d_Pg_countDirty_7 (by decide) (by omega) (by omega) (by omega) ?_
        refine lv_iload_n zx zb d_Pg_countDirty_27 rfl (lv_at zl 1 rfl) ?_
        exact ct_iret zQ zx zb zr zk zP zD zS d_Pg_countDirty_28 rfl (⟨by rw [hi], rfl⟩)
  exact loop4 _ 0 0 rfl (by omega) (by omega) (Nat.zero_add _) lsX HX oX (lv_sub zl [2, 1, 0] rfl) zP zD zS
/-- markDirty, as a step on the two rows -/
def mdS (ds : Nat → Nat) (q da : Nat) : Nat → Nat := if 0 < ds q then ds else va_up ds q da
def tcS (tk : Nat → Nat) (da : Nat) : (Nat → Nat) → (Nat → Nat) → Nat → Nat → (Nat → Nat) × (Nat → Nat)
  | ds, du, _, 0 => (ds, du)
  | ds, du, s, n + 1 => tcS tk da (mdS ds (tk s / 4) da) (va_up du (tk s / 4) da) (s + 1) n
theorem mdS_le {ds : Nat → Nat} {q da : Nat} (hda : da ≤ 512) (h : ∀ j, j < 8 → ds j ≤ 512) : ∀ j, j < 8 → mdS ds q da j ≤ 512 := by
  intro j hj
  unfold mdS
  split
  · exact h j hj
  · unfold va_up
    split
    · exact hda
    · exact h j hj
set_option maxRecDepth 20000 in
theorem c_Pg_takeCommit (lL : Launch) (g : Gt) (p0 : Nat) (p1 : Nat) (p2 : Nat) (p3 : Nat) (p4 : Nat) (p5 : Nat) (me : Nat → Int32) (ms : Nat → Int32) (dk : Nat → Int32) (ds : Nat → Nat) (du : Nat → Nat) (t0 : Nat) (t1 : Nat) (t2 : Nat) (t3 : Nat) (t4 : Nat) (c : Nat → Nat) (f : Nat → Nat) (tk : Nat → Nat) (tv : Nat → Int32) (t : Nat) (da : Nat) (ht : t < 3) (hc : c t ≤ 4) (hk : ∀ j, j < 12 → tk j < 32) (hd : ∀ j, j < 8 → ds j ≤ 512) (hda : da ≤ 512) : Ct lL g y_Pg_takeCommit (.code y_Pg_takeCommit b_Pg_takeCommit 6 (none)) 3 66 [.ref p0, .ref t0, .int (nI t), .int (nI da)] (wPg g p0 p1 p2 p3 p4 p5 me ms dk ds du ++ wTr g t0 t1 t2 t3 t4 c f tk tv) (exP (none) (wPg g p0 p1 p2 p3 p4 p5 (wrS tk tv me (t * 4) (c t)) ms dk ((tcS tk da ds du (t * 4) (c t)).1) ((tcS tk da ds du (t * 4) (c t)).2) ++ wTr g t0 t1 t2 t3 t4 c f tk tv)) := by
  refine Ct.ofW (by decide) (Nat.le_of_ble_eq_true rfl) ?_
  intro pX eX sX mX aX bX tX cX AX lsX HX oX QX zx zb zr zk zm zo zg zK zP zD zA zS zQ zl
  have zo : sX.vm.findClass R_Pg = some mX.cls := zo
  have zl : lv_has lsX 6 [(0, .ref p0), (1, .ref t0), (2, .int (nI t)), (3, .int (nI da))] := zl
  refine lv_aload_n zx zb d_Pg_takeCommit_0 rfl (lv_at zl 1 rfl) ?_
  refine lv_aload_n zx zb d_Pg_takeCommit_1 rfl (lv_at zl 0 rfl) ?_
  refine wv_get zx zb zg hin_Pg rfl zo zK zP 0 rfl 0 (by decide) rfl fl_Pg_9 rfl d_Pg_takeCommit_2 ?_
  refine lv_iload_n zx zb d_Pg_takeCommit_5 rfl (lv_at zl 2 rfl) ?_
  refine ct_V (ws' := wPg g p0 p1 p2 p3 p4 p5 (wrS tk tv me (t * 4) (c t)) ms dk ds du ++ wTr g t0 t1 t2 t3 t4 c f tk tv) (rest := []) (st1 := []) zx zb zm zo zg zK zP zD zS zA zl.1 (c_Tr_writeSetsTo lL g t0 t1 t2 t3 t4 c f tk tv p1 me t (by omega) hc hk) ok_Tr_writeSetsTo ov_Tr_writeSetsTo ml_Pg_31 (by decide) 6 2 rfl rfl rfl [6, 7, 8, 9, 10, 1] [0, 2, 3, 4, 5] 11 (by decide) rfl rfl rfl rfl (by decide) rfl rfl rfl (Nat.le_of_ble_eq_true rfl) d_Pg_takeCommit_6 (fun HX oX zP zD zS => ?_)
  refine lv_aload_n zx zb d_Pg_takeCommit_9 rfl (lv_at zl 1 rfl) ?_
  refine lv_iload_n zx zb d_Pg_takeCommit_10 rfl (lv_at zl 2 rfl) ?_
  refine ct_V (ws' := wPg g p0 p1 p2 p3 p4 p5 (wrS tk tv me (t * 4) (c t)) ms dk ds du ++ wTr g t0 t1 t2 t3 t4 c f tk tv) (rest := []) (st1 := [.int (nI ((t * 4) + (c t)))]) zx zb zm zo zg zK zP zD zS zA zl.1 (c_Tr_slotsEnd lL g t0 t1 t2 t3 t4 c f tk tv t (by omega)) ok_Tr_slotsEnd ov_Tr_slotsEnd ml_Pg_37 (by decide) 6 2 rfl rfl rfl [6, 7, 8, 9, 10] [0, 1, 2, 3, 4, 5] 11 (by decide) rfl rfl rfl rfl (by decide) rfl rfl rfl (Nat.le_of_ble_eq_true rfl) d_Pg_takeCommit_11 (fun HX oX zP zD zS => ?_)
  refine lv_istore (lv' := [(4, .int (nI ((t * 4) + (c t)))), (0, .ref p0), (1, .ref t0), (2, .int (nI t)), (3, .int (nI da))]) zx zb d_Pg_takeCommit_14 zl (by decide) rfl (fun lsX zl => ?_)
  refine lv_aload_n zx zb d_Pg_takeCommit_16 rfl (lv_at zl 2 rfl) ?_
  refine lv_iload_n zx zb d_Pg_takeCommit_17 rfl (lv_at zl 3 rfl) ?_
  refine ct_V (ws' := wPg g p0 p1 p2 p3 p4 p5 (wrS tk tv me (t * 4) (c t)) ms dk ds du ++ wTr g t0 t1 t2 t3 t4 c f tk tv) (rest := []) (st1 := [.int (nI (t * 4))]) zx zb zm zo zg zK zP zD zS zA zl.1 (c_Tr_firstSlot lL g t0 t1 t2 t3 t4 c f tk tv t (by omega)) ok_Tr_firstSlot ov_Tr_firstSlot ml_Pg_41 (by decide) 6 2 rfl rfl rfl [6, 7, 8, 9, 10] [0, 1, 2, 3, 4, 5] 11 (by decide) rfl rfl rfl rfl (by decide) rfl rfl rfl (Nat.le_of_ble_eq_true rfl) d_Pg_takeCommit_18 (fun HX oX zP zD zS => ?_)
  refine lv_istore (lv' := [(5, .int (nI (t * 4))), (4, .int (nI ((t * 4) + (c t)))), (0, .ref p0), (1, .ref t0), (2, .int (nI t)), (3, .int (nI da))]) zx zb d_Pg_takeCommit_21 zl (by decide) rfl (fun lsX zl => ?_)
  have loop23 : ∀ (kk : Nat) (sl : Nat) (dsq : Nat → Nat) (duq : Nat → Nat), kk = t * 4 + c t - sl → (sl ≤ t * 4 + c t) → (∀ j, j < 8 → dsq j ≤ 512) → (tcS tk da dsq duq sl (t * 4 + c t - sl) = tcS tk da ds du (t * 4) (c t)) → ∀ (lsX : Array Slot) (HX : Heap) (oX : List Loc), lv_has lsX 6 [(0, .ref p0), (1, .ref t0), (3, .int (nI da)), (4, .int (nI ((t * 4) + (c t)))), (5, .int (nI sl))] → va_P g.1 cls (wPg g p0 p1 p2 p3 p4 p5 (wrS tk tv me (t * 4) (c t)) ms dk dsq duq ++ wTr g t0 t1 t2 t3 t4 c f tk tv) HX → va_D AX (wPg g p0 p1 p2 p3 p4 p5 (wrS tk tv me (t * 4) (c t)) ms dk dsq duq ++ wTr g t0 t1 t2 t3 t4 c f tk tv) → va_S AX sX.heap HX oX → W pX lL eX (rmL 3 66) sX mX aX bX tX cX HX oX 0 0 QX (F0 mX 23 lsX []) := by
    intro kk
    induction kk using Nat.strongRecOn with
    | ind kk ih_loop23 =>
      intro sl dsq duq hkk hb2 hdd hi lsX HX oX zl zP zD zS
      rcases Nat.lt_or_ge sl (t * 4 + c t) with h3 | h3
      · have e3 : t * 4 + c t - sl = (t * 4 + c t - (sl + 1)) + 1 := by omega
        rw [e3] at hi
        have hi : tcS tk da (mdS dsq (tk sl / 4) da) (va_up duq (tk sl / 4) da) (sl + 1) (t * 4 + c t - (sl + 1)) = tcS tk da ds du (t * 4) (c t) := hi
        have hsl := hk sl (by omega)
        have hdq := hdd (tk sl / 4) (by omega)
        have hdd2 := mdS_le (q := tk sl / 4) hda hdd
        refine lv_iload zx zb d_Pg_takeCommit_23 (lv_at zl 4 rfl) ?_
        refine lv_iload zx zb d_Pg_takeCommit_25 (lv_at zl 3 rfl) ?_
        refine wn_cge_F (tgt := 50) zx zb d_Pg_takeCommit_27 (by decide) (by omega) (by omega) (by omega) ?_
        rcases Nat.eq_zero_or_pos (dsq (tk sl / 4)) with hz | hz
        · have em : mdS dsq (tk sl / 4) da = va_up dsq (tk sl / 4) da := if_neg (by omega)
          rw [em] at hi hdd2
          refine lv_aload_n zx zb d_Pg_takeCommit_30 rfl (lv_at zl 0 rfl) ?_
          refine lv_aload_n zx zb d_Pg_takeCommit_31 rfl (lv_at zl 1 rfl) ?_
          refine wv_get zx zb zg hin_Tr rfl zo zK zP 6 rfl 2 (by decide) rfl fl_Pg_44 rfl d_Pg_takeCommit_32 ?_
          refine lv_iload zx zb d_Pg_takeCommit_35 (lv_at zl 4 rfl) ?_
          refine wv_ialdN zx zb zK zP 9 rfl (by omega) (by decide) d_Pg_takeCommit_37 ?_
          refine lv_iconst (v := (nI 4)) zx zb d_Pg_takeCommit_38 (by decide) ?_
          refine wv_idiv zx zb d_Pg_takeCommit_39 (by omega) (by omega) (by omega) ?_
          refine lv_iload_n zx zb d_Pg_takeCommit_40 rfl (lv_at zl 2 rfl) ?_
          refine ct_V (ws' := wPg g p0 p1 p2 p3 p4 p5 (wrS tk tv me (t * 4) (c t)) ms dk (va_up dsq ((tk sl) / 4) da) (va_up duq ((tk sl) / 4) da) ++ wTr g t0 t1 t2 t3 t4 c f tk tv) (rest := []) (st1 := []) zx zb zm zo zg zK zP zD zS zA zl.1 (c_Pg_markDirty_f lL g p0 p1 p2 p3 p4 p5 (wrS tk tv me (t * 4) (c t)) ms dk dsq duq ((tk sl) / 4) da (by omega) (by omega)) ok_Pg_markDirty ov_Pg_markDirty ml_Pg_47 (by decide) 0 3 rfl rfl rfl [0, 1, 2, 3, 4, 5] [6, 7, 8, 9, 10] 11 (by decide) rfl rfl rfl rfl (by decide) rfl rfl rfl (Nat.le_of_ble_eq_true rfl) d_Pg_takeCommit_41 (fun HX oX zP zD zS => ?_)
          refine lv_iinc (k := 4) (lv' := [(5, .int (nI (sl + 1))), (0, .ref p0), (1, .ref t0), (3, .int (nI da)), (4, .int (nI ((t * 4) + (c t))))]) zx zb d_Pg_takeCommit_44 zl rfl (ni_inc _) (by decide) rfl (fun lsX zl => ?_)
          refine lv_goto (tgt := 23) zx zb d_Pg_takeCommit_47 (by decide) ?_
          exact ih_loop23 _ (by omega) (sl + 1) (va_up dsq ((tk sl) / 4) da) (va_up duq ((tk sl) / 4) da) rfl (by omega) hdd2 hi lsX HX oX (lv_sub zl [1, 2, 3, 4, 0] rfl) zP zD zS
        · have em : mdS dsq (tk sl / 4) da = dsq := if_pos hz
          rw [em] at hi hdd2
          refine lv_aload_n zx zb d_Pg_takeCommit_30 rfl (lv_at zl 0 rfl) ?_
          refine lv_aload_n zx zb d_Pg_takeCommit_31 rfl (lv_at zl 1 rfl) ?_
          refine wv_get zx zb zg hin_Tr rfl zo zK zP 6 rfl 2 (by decide) rfl fl_Pg_44 rfl d_Pg_takeCommit_32 ?_
          refine lv_iload zx zb d_Pg_takeCommit_35 (lv_at zl 4 rfl) ?_
          refine wv_ialdN zx zb zK zP 9 rfl (by omega) (by decide) d_Pg_takeCommit_37 ?_
          refine lv_iconst (v := (nI 4)) zx zb d_Pg_takeCommit_38 (by decide) ?_
          refine wv_idiv zx zb d_Pg_takeCommit_39 (by omega) (by omega) (by omega) ?_
          refine lv_iload_n zx zb d_Pg_takeCommit_40 rfl (lv_at zl 2 rfl) ?_
          refine ct_V (ws' := wPg g p0 p1 p2 p3 p4 p5 (wrS tk tv me (t * 4) (c t)) ms dk dsq (va_up duq ((tk sl) / 4) da) ++ wTr g t0 t1 t2 t3 t4 c f tk tv) (rest := []) (st1 := []) zx zb zm zo zg zK zP zD zS zA zl.1 (c_Pg_markDirty_t lL g p0 p1 p2 p3 p4 p5 (wrS tk tv me (t * 4) (c t)) ms dk dsq duq ((tk sl) / 4) da (by omega) (by omega) (by omega)) ok_Pg_markDirty ov_Pg_markDirty ml_Pg_47 (by decide) 0 3 rfl rfl rfl [0, 1, 2, 3, 4, 5] [6, 7, 8, 9, 10] 11 (by decide) rfl rfl rfl rfl (by decide) rfl rfl rfl (Nat.le_of_ble_eq_true rfl) d_Pg_takeCommit_41 (fun HX oX zP zD zS => ?_)
          refine lv_iinc (k := 4) (lv' := [(5, .int (nI (sl + 1))), (0, .ref p0), (1, .ref t0), (3, .int (nI da)), (4, .int (nI ((t * 4) + (c t))))]) zx zb d_Pg_takeCommit_44 zl rfl (ni_inc _) (by decide) rfl (fun lsX zl => ?_)
          refine lv_goto (tgt := 23) zx zb d_Pg_takeCommit_47 (by decide) ?_
          exact ih_loop23 _ (by omega) (sl + 1) dsq (va_up duq ((tk sl) / 4) da) rfl (by omega) hdd2 hi lsX HX oX (lv_sub zl [1, 2, 3, 4, 0] rfl) zP zD zS
      · have e3 : t * 4 + c t - sl = 0 := by omega
        rw [e3] at hi
        have hi : (dsq, duq) = tcS tk da ds du (t * 4) (c t) := hi
        refine lv_iload zx zb d_Pg_takeCommit_23 (lv_at zl 4 rfl) ?_
        refine lv_iload zx zb d_Pg_takeCommit_25 (lv_at zl 3 rfl) ?_
        refine wn_cge_T (tgt := 50) zx zb d_Pg_takeCommit_27 (by decide) (by omega) (by omega) (by omega) ?_
        exact ct_vret zQ zx zb zr zk zP zD zS d_Pg_takeCommit_50 rfl (⟨rfl, by rw [← hi]⟩)
  exact loop23 _ (t * 4) ds du rfl (by omega) hd (by rw [Nat.add_sub_cancel_left]) lsX HX oX (lv_sub zl [2, 3, 5, 1, 0] rfl) zP zD zS
/-- what a crash does to the two rows, page by page -/
def lcS (sy : Nat) : (Nat → Nat) → (Nat → Nat) → Nat → Nat → (Nat → Nat) × (Nat → Nat)
  | ds, du, _, 0 => (ds, du)
  | ds, du, q, n + 1 => if sy < ds q then lcS sy (va_up ds q 0) (va_up (va_up du q 0) q (min (va_up du q 0 q) sy)) (q + 1) n else lcS sy ds (va_up du q (min (du q) sy)) (q + 1) n
set_option maxRecDepth 20000 in
theorem c_Pg_lose (lL : Launch) (g : Gt) (p0 : Nat) (p1 : Nat) (p2 : Nat) (p3 : Nat) (p4 : Nat) (p5 : Nat) (me : Nat → Int32) (ms : Nat → Int32) (dk : Nat → Int32) (ds : Nat → Nat) (du : Nat → Nat) (sy : Nat) (hs : sy ≤ 512) (hd : ∀ j, j < 8 → ds j ≤ 512) (hdu : ∀ j, j < 8 → du j ≤ 512) : Ct lL g y_Pg_loseCommitsBehind (.code y_Pg_loseCommitsBehind b_Pg_loseCommitsBehind 3 (none)) 1 24 [.ref p0, .int (nI sy)] (wPg g p0 p1 p2 p3 p4 p5 me ms dk ds du) (exP (none) (wPg g p0 p1 p2 p3 p4 p5 (va_cpy ms me 0 0 32) ms dk ((lcS sy ds du 0 8).1) ((lcS sy ds du 0 8).2))) := by
  refine Ct.ofW (by decide) (Nat.le_of_ble_eq_true rfl) ?_
  intro pX eX sX mX aX bX tX cX AX lsX HX oX QX zx zb zr zk zm zo zg zK zP zD zA zS zQ zl
  have zo : sX.vm.findClass R_Pg = some mX.cls := zo
  have zl : lv_has lsX 3 [(0, .ref p0), (1, .int (nI sy))] := zl
  refine lv_aload_n zx zb d_Pg_loseCommitsBehind_0 rfl (lv_at zl 0 rfl) ?_
  refine wv_get zx zb zg hin_Pg rfl zo zK zP 0 rfl 1 (by decide) rfl fl_Pg_15 rfl d_Pg_loseCommitsBehind_1 ?_
  refine lv_iconst (v := (nI 0)) zx zb d_Pg_loseCommitsBehind_4 (by decide) ?_
  refine lv_aload_n zx zb d_Pg_loseCommitsBehind_5 rfl (lv_at zl 0 rfl) ?_
  refine wv_get zx zb zg hin_Pg rfl zo zK zP 0 rfl 0 (by decide) rfl fl_Pg_9 rfl d_Pg_loseCommitsBehind_6 ?_
  refine lv_iconst (v := (nI 0)) zx zb d_Pg_loseCommitsBehind_9 (by decide) ?_
  refine lv_bipush (v := (nI 32)) zx zb d_Pg_loseCommitsBehind_10 (by decide) ?_
  refine wv_copy zx zb (zm.trans zl.1.symm) zg zo ml_Pg_51 wd_nat wd_stat wd_ini zK zP zD zS 2 1 rfl rfl (by omega) (by omega) (by decide) (by decide) (by decide) (Nat.le_of_ble_eq_true rfl) d_Pg_loseCommitsBehind_12 (fun HX oX zP zD zS => ?_)
  have zP : va_P g.1 cls (wPg g p0 p1 p2 p3 p4 p5 (va_cpy ms me 0 0 32) ms dk ds du) HX := zP
  have zD : va_D AX (wPg g p0 p1 p2 p3 p4 p5 (va_cpy ms me 0 0 32) ms dk ds du) := zD
  refine lv_iconst (v := (nI 0)) zx zb d_Pg_loseCommitsBehind_15 (by decide) ?_
  refine lv_istore_n (lv' := [(2, .int (nI 0)), (0, .ref p0), (1, .int (nI sy))]) zx zb d_Pg_loseCommitsBehind_16 rfl zl (by decide) rfl (fun lsX zl => ?_)
  have loop17 : ∀ (kk : Nat) (q : Nat) (dsq : Nat → Nat) (duq : Nat → Nat), kk = 8 - q → (q ≤ 8) → (∀ j, j < 8 → dsq j ≤ 512) → (∀ j, j < 8 → duq j ≤ 512) → (lcS sy dsq duq q (8 - q) = lcS sy ds du 0 8) → ∀ (lsX : Array Slot) (HX : Heap) (oX : List Loc), lv_has lsX 3 [(0, .ref p0), (1, .int (nI sy)), (2, .int (nI q))] → va_P g.1 cls (wPg g p0 p1 p2 p3 p4 p5 (va_cpy ms me 0 0 32) ms dk dsq duq) HX → va_D AX (wPg g p0 p1 p2 p3 p4 p5 (va_cpy ms me 0 0 32) ms dk dsq duq) → va_S AX sX.heap HX oX → W pX lL eX (rmL 1 24) sX mX aX bX tX cX HX oX 0 0 QX (F0 mX 17 lsX []) := by
    intro kk
    induction kk using Nat.strongRecOn with
    | ind kk ih_loop17 =>
      intro q dsq duq hkk hq hdd hdu2 hi lsX HX oX zl zP zD zS
      rcases Nat.lt_or_ge q 8 with h3 | h3
      · have hdq := hdd q h3
        have huq := hdu2 q h3
        have e3 : 8 - q = (8 - (q + 1)) + 1 := by omega
        rw [e3] at hi
        refine lv_iload_n zx zb d_Pg_loseCommitsBehind_17 rfl (lv_at zl 2 rfl) ?_
        refine lv_bipush (v := (nI 8)) zx zb d_Pg_loseCommitsBehind_18 (by decide) ?_
        refine wn_cge_F (tgt := 60) zx zb d_Pg_loseCommitsBehind_20 (by decide) (by omega) (by omega) (by omega) ?_
        rcases Nat.lt_or_ge sy (dsq q) with hz | hz
        · have hi : lcS sy (va_up dsq q 0) (va_up (va_up duq q 0) q (min (va_up duq q 0 q) sy)) (q + 1) (8 - (q + 1)) = lcS sy ds du 0 8 := (if_pos hz).symm.trans hi
          have hu0 : va_up duq q 0 q = 0 := va_up_self _ _ _
          have hdd2 : ∀ j, j < 8 → va_up dsq q 0 j ≤ 512 := up_le (by omega) hdd
          have hdu3 : ∀ j, j < 8 → va_up (va_up duq q 0) q (min (va_up duq q 0 q) sy) j ≤ 512 := up_le (by omega) (up_le (by omega) hdu2)
          refine lv_aload_n zx zb d_Pg_loseCommitsBehind_23 rfl (lv_at zl 0 rfl) ?_
          refine wv_get zx zb zg hin_Pg rfl zo zK zP 0 rfl 3 (by decide) rfl fl_Pg_21 rfl d_Pg_loseCommitsBehind_24 ?_
          refine lv_iload_n zx zb d_Pg_loseCommitsBehind_27 rfl (lv_at zl 2 rfl) ?_
          refine wv_ialdN zx zb zK zP 4 rfl (by omega) (by decide) d_Pg_loseCommitsBehind_28 ?_
          refine lv_iload_n zx zb d_Pg_loseCommitsBehind_29 rfl (lv_at zl 1 rfl) ?_
          refine wn_cle_F (tgt := 38) zx zb d_Pg_loseCommitsBehind_30 (by decide) (by omega) (by omega) (by omega) ?_
          refine lv_aload_n zx zb d_Pg_loseCommitsBehind_33 rfl (lv_at zl 0 rfl) ?_
          refine lv_iload_n zx zb d_Pg_loseCommitsBehind_34 rfl (lv_at zl 2 rfl) ?_
          refine ct_V (ws' := wPg g p0 p1 p2 p3 p4 p5 (va_cpy ms me 0 0 32) ms dk (va_up dsq q 0) (va_up duq q 0)) (rest := []) (st1 := []) zx zb zm zo zg zK zP zD zS zA zl.1 (c_Pg_markClean lL g p0 p1 p2 p3 p4 p5 (va_cpy ms me 0 0 32) ms dk dsq duq q (by omega)) ok_Pg_markClean ov_Pg_markClean ml_Pg_57 (by decide) 0 3 rfl rfl rfl [0, 1, 2, 3, 4, 5] [] 6 (by decide) rfl rfl rfl rfl (by decide) rfl rfl rfl (Nat.le_of_ble_eq_true rfl) d_Pg_loseCommitsBehind_35 (fun HX oX zP zD zS => ?_)
          refine lv_aload_n zx zb d_Pg_loseCommitsBehind_38 rfl (lv_at zl 0 rfl) ?_
          refine wv_get zx zb zg hin_Pg rfl zo zK zP 0 rfl 4 (by decide) rfl fl_Pg_24 rfl d_Pg_loseCommitsBehind_39 ?_
          refine lv_iload_n zx zb d_Pg_loseCommitsBehind_42 rfl (lv_at zl 2 rfl) ?_
          refine lv_aload_n zx zb d_Pg_loseCommitsBehind_43 rfl (lv_at zl 0 rfl) ?_
          refine wv_get zx zb zg hin_Pg rfl zo zK zP 0 rfl 4 (by decide) rfl fl_Pg_24 rfl d_Pg_loseCommitsBehind_44 ?_
          refine lv_iload_n zx zb d_Pg_loseCommitsBehind_47 rfl (lv_at zl 2 rfl) ?_
          refine wv_ialdN zx zb zK zP 5 rfl (by omega) (by decide) d_Pg_loseCommitsBehind_48 ?_
          refine lv_iload_n zx zb d_Pg_loseCommitsBehind_49 rfl (lv_at zl 1 rfl) ?_
          refine wv_min zx zb (zm.trans zl.1.symm) zg zo ml_Pg_61 wd_mins wd_mini wd_minc (by decide) (Nat.le_of_ble_eq_true rfl) (by omega) (by omega) d_Pg_loseCommitsBehind_50 ?_
          refine wv_iastN zx zb zK zP zD zS 5 rfl (by omega) (by decide) d_Pg_loseCommitsBehind_53 (fun HX oX zP zD zS => ?_)
          have zP : va_P g.1 cls (wPg g p0 p1 p2 p3 p4 p5 (va_cpy ms me 0 0 32) ms dk (va_up dsq q 0) (va_up (va_up duq q 0) q (min ((va_up duq q 0) q) sy))) HX := zP
          have zD : va_D AX (wPg g p0 p1 p2 p3 p4 p5 (va_cpy ms me 0 0 32) ms dk (va_up dsq q 0) (va_up (va_up duq q 0) q (min ((va_up duq q 0) q) sy))) := zD
          refine lv_iinc (k := 2) (lv' := [(2, .int (nI (q + 1))), (0, .ref p0), (1, .int (nI sy))]) zx zb d_Pg_loseCommitsBehind_54 zl rfl (ni_inc _) (by decide) rfl (fun lsX zl => ?_)
          refine lv_goto (tgt := 17) zx zb d_Pg_loseCommitsBehind_57 (by decide) ?_
          exact ih_loop17 _ (by omega) (q + 1) (va_up dsq q 0) (va_up (va_up duq q 0) q (min ((va_up duq q 0) q) sy)) rfl (by omega) hdd2 hdu3 hi lsX HX oX (lv_sub zl [1, 2, 0] rfl) zP zD zS
        · have hi : lcS sy dsq (va_up duq q (min (duq q) sy)) (q + 1) (8 - (q + 1)) = lcS sy ds du 0 8 := (if_neg (by omega)).symm.trans hi
          have hdu3 : ∀ j, j < 8 → va_up duq q (min (duq q) sy) j ≤ 512 := up_le (by omega) hdu2
          refine lv_aload_n zx zb d_Pg_loseCommitsBehind_23 rfl (lv_at zl 0 rfl) ?_
          refine wv_get zx zb zg hin_Pg rfl zo zK zP 0 rfl 3 (by decide) rfl fl_Pg_21 rfl d_Pg_loseCommitsBehind_24 ?_
          refine lv_iload_n zx zb d_Pg_loseCommitsBehind_27 rfl (lv_at zl 2 rfl) ?_
          refine wv_ialdN zx zb zK zP 4 rfl (by omega) (by decide) d_Pg_loseCommitsBehind_28 ?_
          refine lv_iload_n zx zb d_Pg_loseCommitsBehind_29 rfl (lv_at zl 1 rfl) ?_
          refine wn_cle_T (tgt := 38) zx zb d_Pg_loseCommitsBehind_30 (by decide) (by omega) (by omega) (by omega) ?_
          refine lv_aload_n zx zb d_Pg_loseCommitsBehind_38 rfl (lv_at zl 0 rfl) ?_
          refine wv_get zx zb zg hin_Pg rfl zo zK zP 0 rfl 4 (by decide) rfl fl_Pg_24 rfl d_Pg_loseCommitsBehind_39 ?_
          refine lv_iload_n zx zb d_Pg_loseCommitsBehind_42 rfl (lv_at zl 2 rfl) ?_
          refine lv_aload_n zx zb d_Pg_loseCommitsBehind_43 rfl (lv_at zl 0 rfl) ?_
          refine wv_get zx zb zg hin_Pg rfl zo zK zP 0 rfl 4 (by decide) rfl fl_Pg_24 rfl d_Pg_loseCommitsBehind_44 ?_
          refine lv_iload_n zx zb d_Pg_loseCommitsBehind_47 rfl (lv_at zl 2 rfl) ?_
          refine wv_ialdN zx zb zK zP 5 rfl (by omega) (by decide) d_Pg_loseCommitsBehind_48 ?_
          refine lv_iload_n zx zb d_Pg_loseCommitsBehind_49 rfl (lv_at zl 1 rfl) ?_
          refine wv_min zx zb (zm.trans zl.1.symm) zg zo ml_Pg_61 wd_mins wd_mini wd_minc (by decide) (Nat.le_of_ble_eq_true rfl) (by omega) (by omega) d_Pg_loseCommitsBehind_50 ?_
          refine wv_iastN zx zb zK zP zD zS 5 rfl (by omega) (by decide) d_Pg_loseCommitsBehind_53 (fun HX oX zP zD zS => ?_)
          have zP : va_P g.1 cls (wPg g p0 p1 p2 p3 p4 p5 (va_cpy ms me 0 0 32) ms dk dsq (va_up duq q (min (duq q) sy))) HX := zP
          have zD : va_D AX (wPg g p0 p1 p2 p3 p4 p5 (va_cpy ms me 0 0 32) ms dk dsq (va_up duq q (min (duq q) sy))) := zD
          refine lv_iinc (k := 2) (lv' := [(2, .int (nI (q + 1))), (0, .ref p0), (1, .int (nI sy))]) zx zb d_Pg_loseCommitsBehind_54 zl rfl (ni_inc _) (by decide) rfl (fun lsX zl => ?_)
          refine lv_goto (tgt := 17) zx zb d_Pg_loseCommitsBehind_57 (by decide) ?_
          exact ih_loop17 _ (by omega) (q + 1) dsq (va_up duq q (min (duq q) sy)) rfl (by omega) hdd hdu3 hi lsX HX oX (lv_sub zl [1, 2, 0] rfl) zP zD zS
      · have e3 : q = 8 := by omega
        subst e3
        have hi : (dsq, duq) = lcS sy ds du 0 8 := hi
        refine lv_iload_n zx zb d_Pg_loseCommitsBehind_17 rfl (lv_at zl 2 rfl) ?_
        refine lv_bipush (v := (nI 8)) zx zb d_Pg_loseCommitsBehind_18 (by decide) ?_
        refine wn_cge_T (tgt := 60) zx zb d_Pg_loseCommitsBehind_20 (by decide) (by omega) (by omega) (by omega) ?_
        exact ct_vret zQ zx zb zr zk zP zD zS d_Pg_loseCommitsBehind_60 rfl (⟨rfl, by rw [← hi]⟩)
  exact loop17 _ 0 ds du rfl (by omega) hd hdu rfl lsX HX oX (lv_sub zl [1, 2, 0] rfl) zP zD zS
