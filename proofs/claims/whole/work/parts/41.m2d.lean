set_option maxRecDepth 20000 in
theorem c_M_bound_n (lL : Launch) (g : Gt) (m0 : Nat) (m1 : Nat) (m2 : Nat) (m3 : Nat) (m4 : Nat) (m5 : Nat) (m6 : Nat) (m7 : Nat) (m8 : Nat) (m9 : Nat) (m10 : Nat) (n : Nat) (sy : Nat) (k : Nat → Nat) (o : Nat → Int32) (ke : Nat → Nat) (va : Nat → Int32) (fl : Nat → Nat) (sg : Nat → Nat) (cp : Nat → Nat) (fs : Nat → Nat) (la : Nat → Nat) (nx : Nat) (hd : Nat → Nat) (dn : Nat) (tg : Nat) (bh : Nat) (j : Int32) (wh : Int32) (hj : j < 0) : Ct lL g y_M_bound (.code y_M_bound b_M_bound 3 (some .int)) 6 200 [.ref m0, .int j, .int wh] (wM g m0 m1 m2 m3 m4 m5 m6 m7 m8 m9 m10 n sy k o ke va fl sg cp fs la nx hd dn tg bh) (exP (some (.int (-1))) (wM g m0 m1 m2 m3 m4 m5 m6 m7 m8 m9 m10 n sy k o ke va fl sg cp fs la nx hd dn tg bh)) := by
  refine Ct.ofW (by decide) (Nat.le_of_ble_eq_true rfl) ?_
  intro pX eX sX mX aX bX tX cX AX lsX HX oX QX zx zb zr zk zm zo zg zK zP zD zA zS zQ zl
  have zo : sX.vm.findClass R_M = some mX.cls := zo
  have zl : lv_has lsX 3 [(0, .ref m0), (1, .int j), (2, .int wh)] := zl
  refine lv_aload_n zx zb d_M_bound_0 rfl (lv_at zl 0 rfl) ?_
  refine lv_iload_n zx zb d_M_bound_1 rfl (lv_at zl 1 rfl) ?_
  refine ct_V (ws' := wM g m0 m1 m2 m3 m4 m5 m6 m7 m8 m9 m10 n sy k o ke va fl sg cp fs la nx hd dn tg bh) (rest := []) (st1 := [.int (nI 0)]) zx zb zm zo zg zK zP zD zS zA zl.1 (c_M_fin_n lL g m0 m1 m2 m3 m4 m5 m6 m7 m8 m9 m10 n sy k o ke va fl sg cp fs la nx hd dn tg bh j hj) ok_M_finished ov_M_finished ml_M_87 (by decide) 0 7 rfl rfl rfl [0, 1, 2, 3, 4, 5, 6, 7, 8, 9, 10] [] 11 (by decide) rfl rfl rfl rfl (by decide) rfl rfl rfl (Nat.le_of_ble_eq_true rfl) d_M_bound_2 (fun HX oX zP zD zS => ?_)
  refine wn_ieq_T (tgt := 17) zx zb d_M_bound_5 (by decide) (by omega) (by omega) ?_
  refine lv_iconst (v := (-1)) zx zb d_M_bound_17 (by decide) ?_
  refine lv_goto (tgt := 40) zx zb d_M_bound_18 (by decide) ?_
  exact ct_iret zQ zx zb zr zk zP zD zS d_M_bound_40 rfl (⟨rfl, rfl⟩)
set_option maxRecDepth 20000 in
theorem c_M_forget_g (lL : Launch) (g : Gt) (m0 : Nat) (m1 : Nat) (m2 : Nat) (m3 : Nat) (m4 : Nat) (m5 : Nat) (m6 : Nat) (m7 : Nat) (m8 : Nat) (m9 : Nat) (m10 : Nat) (n : Nat) (sy : Nat) (k : Nat → Nat) (o : Nat → Int32) (ke : Nat → Nat) (va : Nat → Int32) (fl : Nat → Nat) (sg : Nat → Nat) (cp : Nat → Nat) (fs : Nat → Nat) (la : Nat → Nat) (nx : Nat) (hd : Nat → Nat) (dn : Nat) (tg : Nat) (bh : Nat) (j : Nat) (hj : 3 ≤ j) (hj2 : j < 2147483648) : Ct lL g y_M_forget (.code y_M_forget b_M_forget 2 (some .boolean)) 6 200 [.ref m0, .int (nI j)] (wM g m0 m1 m2 m3 m4 m5 m6 m7 m8 m9 m10 n sy k o ke va fl sg cp fs la nx hd dn tg bh) (exP (some (.int (nI 0))) (wM g m0 m1 m2 m3 m4 m5 m6 m7 m8 m9 m10 n sy k o ke va fl sg cp fs la nx hd dn tg bh)) := by
  refine Ct.ofW (by decide) (Nat.le_of_ble_eq_true rfl) ?_
  intro pX eX sX mX aX bX tX cX AX lsX HX oX QX zx zb zr zk zm zo zg zK zP zD zA zS zQ zl
  have zo : sX.vm.findClass R_M = some mX.cls := zo
  have zl : lv_has lsX 2 [(0, .ref m0), (1, .int (nI j))] := zl
  refine lv_aload_n zx zb d_M_forget_0 rfl (lv_at zl 0 rfl) ?_
  refine lv_iload_n zx zb d_M_forget_1 rfl (lv_at zl 1 rfl) ?_
  refine ct_V (ws' := wM g m0 m1 m2 m3 m4 m5 m6 m7 m8 m9 m10 n sy k o ke va fl sg cp fs la nx hd dn tg bh) (rest := []) (st1 := [.int (nI 0)]) zx zb zm zo zg zK zP zD zS zA zl.1 (c_M_fin_g lL g m0 m1 m2 m3 m4 m5 m6 m7 m8 m9 m10 n sy k o ke va fl sg cp fs la nx hd dn tg bh j (by omega) (by omega)) ok_M_finished ov_M_finished ml_M_87 (by decide) 0 7 rfl rfl rfl [0, 1, 2, 3, 4, 5, 6, 7, 8, 9, 10] [] 11 (by decide) rfl rfl rfl rfl (by decide) rfl rfl rfl (Nat.le_of_ble_eq_true rfl) d_M_forget_2 (fun HX oX zP zD zS => ?_)
  refine wn_ine_F (tgt := 10) zx zb d_M_forget_5 (by decide) (by omega) (by omega) ?_
  refine lv_iconst (v := (nI 0)) zx zb d_M_forget_8 (by decide) ?_
  exact ct_zret zQ zx zb zr zk zP zD zS d_M_forget_9 rfl (by decide) (⟨rfl, rfl⟩)
set_option maxRecDepth 20000 in
theorem c_M_bound_g (lL : Launch) (g : Gt) (m0 : Nat) (m1 : Nat) (m2 : Nat) (m3 : Nat) (m4 : Nat) (m5 : Nat) (m6 : Nat) (m7 : Nat) (m8 : Nat) (m9 : Nat) (m10 : Nat) (n : Nat) (sy : Nat) (k : Nat → Nat) (o : Nat → Int32) (ke : Nat → Nat) (va : Nat → Int32) (fl : Nat → Nat) (sg : Nat → Nat) (cp : Nat → Nat) (fs : Nat → Nat) (la : Nat → Nat) (nx : Nat) (hd : Nat → Nat) (dn : Nat) (tg : Nat) (bh : Nat) (j : Nat) (wh : Int32) (hj : 3 ≤ j) (hj2 : j < 2147483648) : Ct lL g y_M_bound (.code y_M_bound b_M_bound 3 (some .int)) 6 200 [.ref m0, .int (nI j), .int wh] (wM g m0 m1 m2 m3 m4 m5 m6 m7 m8 m9 m10 n sy k o ke va fl sg cp fs la nx hd dn tg bh) (exP (some (.int (-1))) (wM g m0 m1 m2 m3 m4 m5 m6 m7 m8 m9 m10 n sy k o ke va fl sg cp fs la nx hd dn tg bh)) := by
  refine Ct.ofW (by decide) (Nat.le_of_ble_eq_true rfl) ?_
  intro pX eX sX mX aX bX tX cX AX lsX HX oX QX zx zb zr zk zm zo zg zK zP zD zA zS zQ zl
  have zo : sX.vm.findClass R_M = some mX.cls := zo
  have zl : lv_has lsX 3 [(0, .ref m0), (1, .int (nI j)), (2, .int wh)] := zl
  refine lv_aload_n zx zb d_M_bound_0 rfl (lv_at zl 0 rfl) ?_
  refine lv_iload_n zx zb d_M_bound_1 rfl (lv_at zl 1 rfl) ?_
  refine ct_V (ws' := wM g m0 m1 m2 m3 m4 m5 m6 m7 m8 m9 m10 n sy k o ke va fl sg cp fs la nx hd dn tg bh) (rest := []) (st1 := [.int (nI 0)]) zx zb zm zo zg zK zP zD zS zA zl.1 (c_M_fin_g lL g m0 m1 m2 m3 m4 m5 m6 m7 m8 m9 m10 n sy k o ke va fl sg cp fs la nx hd dn tg bh j (by omega) (by omega)) ok_M_finished ov_M_finished ml_M_87 (by decide) 0 7 rfl rfl rfl [0, 1, 2, 3, 4, 5, 6, 7, 8, 9, 10] [] 11 (by decide) rfl rfl rfl rfl (by decide) rfl rfl rfl (Nat.le_of_ble_eq_true rfl) d_M_bound_2 (fun HX oX zP zD zS => ?_)
  refine wn_ieq_T (tgt := 17) zx zb d_M_bound_5 (by decide) (by omega) (by omega) ?_
  refine lv_iconst (v := (-1)) zx zb d_M_bound_17 (by decide) ?_
  refine lv_goto (tgt := 40) zx zb d_M_bound_18 (by decide) ?_
  exact ct_iret zQ zx zb zr zk zP zD zS d_M_bound_40 rfl (⟨rfl, rfl⟩)
set_option maxRecDepth 20000 in
theorem c_M_forget_f (lL : Launch) (g : Gt) (m0 : Nat) (m1 : Nat) (m2 : Nat) (m3 : Nat) (m4 : Nat) (m5 : Nat) (m6 : Nat) (m7 : Nat) (m8 : Nat) (m9 : Nat) (m10 : Nat) (n : Nat) (sy : Nat) (k : Nat → Nat) (o : Nat → Int32) (ke : Nat → Nat) (va : Nat → Int32) (fl : Nat → Nat) (sg : Nat → Nat) (cp : Nat → Nat) (fs : Nat → Nat) (la : Nat → Nat) (nx : Nat) (hd : Nat → Nat) (dn : Nat) (tg : Nat) (bh : Nat) (j : Nat) (hj : j < 3) (hfj : sg j ≠ 2) (hfj2 : sg j ≤ 2) : Ct lL g y_M_forget (.code y_M_forget b_M_forget 2 (some .boolean)) 6 200 [.ref m0, .int (nI j)] (wM g m0 m1 m2 m3 m4 m5 m6 m7 m8 m9 m10 n sy k o ke va fl sg cp fs la nx hd dn tg bh) (exP (some (.int (nI 0))) (wM g m0 m1 m2 m3 m4 m5 m6 m7 m8 m9 m10 n sy k o ke va fl sg cp fs la nx hd dn tg bh)) := by
  refine Ct.ofW (by decide) (Nat.le_of_ble_eq_true rfl) ?_
  intro pX eX sX mX aX bX tX cX AX lsX HX oX QX zx zb zr zk zm zo zg zK zP zD zA zS zQ zl
  have zo : sX.vm.findClass R_M = some mX.cls := zo
  have zl : lv_has lsX 2 [(0, .ref m0), (1, .int (nI j))] := zl
  refine lv_aload_n zx zb d_M_forget_0 rfl (lv_at zl 0 rfl) ?_
  refine lv_iload_n zx zb d_M_forget_1 rfl (lv_at zl 1 rfl) ?_
  refine ct_V (ws' := wM g m0 m1 m2 m3 m4 m5 m6 m7 m8 m9 m10 n sy k o ke va fl sg cp fs la nx hd dn tg bh) (rest := []) (st1 := [.int (nI 0)]) zx zb zm zo zg zK zP zD zS zA zl.1 (c_M_fin_f lL g m0 m1 m2 m3 m4 m5 m6 m7 m8 m9 m10 n sy k o ke va fl sg cp fs la nx hd dn tg bh j (by omega) (by omega) (by omega)) ok_M_finished ov_M_finished ml_M_87 (by decide) 0 7 rfl rfl rfl [0, 1, 2, 3, 4, 5, 6, 7, 8, 9, 10] [] 11 (by decide) rfl rfl rfl rfl (by decide) rfl rfl rfl (Nat.le_of_ble_eq_true rfl) d_M_forget_2 (fun HX oX zP zD zS => ?_)
  refine wn_ine_F (tgt := 10) zx zb d_M_forget_5 (by decide) (by omega) (by omega) ?_
  refine lv_iconst (v := (nI 0)) zx zb d_M_forget_8 (by decide) ?_
  exact ct_zret zQ zx zb zr zk zP zD zS d_M_forget_9 rfl (by decide) (⟨rfl, rfl⟩)
set_option maxRecDepth 20000 in
theorem c_M_bound_f (lL : Launch) (g : Gt) (m0 : Nat) (m1 : Nat) (m2 : Nat) (m3 : Nat) (m4 : Nat) (m5 : Nat) (m6 : Nat) (m7 : Nat) (m8 : Nat) (m9 : Nat) (m10 : Nat) (n : Nat) (sy : Nat) (k : Nat → Nat) (o : Nat → Int32) (ke : Nat → Nat) (va : Nat → Int32) (fl : Nat → Nat) (sg : Nat → Nat) (cp : Nat → Nat) (fs : Nat → Nat) (la : Nat → Nat) (nx : Nat) (hd : Nat → Nat) (dn : Nat) (tg : Nat) (bh : Nat) (j : Nat) (wh : Int32) (hj : j < 3) (hfj : sg j ≠ 2) (hfj2 : sg j ≤ 2) : Ct lL g y_M_bound (.code y_M_bound b_M_bound 3 (some .int)) 6 200 [.ref m0, .int (nI j), .int wh] (wM g m0 m1 m2 m3 m4 m5 m6 m7 m8 m9 m10 n sy k o ke va fl sg cp fs la nx hd dn tg bh) (exP (some (.int (-1))) (wM g m0 m1 m2 m3 m4 m5 m6 m7 m8 m9 m10 n sy k o ke va fl sg cp fs la nx hd dn tg bh)) := by
  refine Ct.ofW (by decide) (Nat.le_of_ble_eq_true rfl) ?_
  intro pX eX sX mX aX bX tX cX AX lsX HX oX QX zx zb zr zk zm zo zg zK zP zD zA zS zQ zl
  have zo : sX.vm.findClass R_M = some mX.cls := zo
  have zl : lv_has lsX 3 [(0, .ref m0), (1, .int (nI j)), (2, .int wh)] := zl
  refine lv_aload_n zx zb d_M_bound_0 rfl (lv_at zl 0 rfl) ?_
  refine lv_iload_n zx zb d_M_bound_1 rfl (lv_at zl 1 rfl) ?_
  refine ct_V (ws' := wM g m0 m1 m2 m3 m4 m5 m6 m7 m8 m9 m10 n sy k o ke va fl sg cp fs la nx hd dn tg bh) (rest := []) (st1 := [.int (nI 0)]) zx zb zm zo zg zK zP zD zS zA zl.1 (c_M_fin_f lL g m0 m1 m2 m3 m4 m5 m6 m7 m8 m9 m10 n sy k o ke va fl sg cp fs la nx hd dn tg bh j (by omega) (by omega) (by omega)) ok_M_finished ov_M_finished ml_M_87 (by decide) 0 7 rfl rfl rfl [0, 1, 2, 3, 4, 5, 6, 7, 8, 9, 10] [] 11 (by decide) rfl rfl rfl rfl (by decide) rfl rfl rfl (Nat.le_of_ble_eq_true rfl) d_M_bound_2 (fun HX oX zP zD zS => ?_)
  refine wn_ieq_T (tgt := 17) zx zb d_M_bound_5 (by decide) (by omega) (by omega) ?_
  refine lv_iconst (v := (-1)) zx zb d_M_bound_17 (by decide) ?_
  refine lv_goto (tgt := 40) zx zb d_M_bound_18 (by decide) ?_
  exact ct_iret zQ zx zb zr zk zP zD zS d_M_bound_40 rfl (⟨rfl, rfl⟩)
set_option maxRecDepth 20000 in
theorem c_M_forget_t (lL : Launch) (g : Gt) (m0 : Nat) (m1 : Nat) (m2 : Nat) (m3 : Nat) (m4 : Nat) (m5 : Nat) (m6 : Nat) (m7 : Nat) (m8 : Nat) (m9 : Nat) (m10 : Nat) (n : Nat) (sy : Nat) (k : Nat → Nat) (o : Nat → Int32) (ke : Nat → Nat) (va : Nat → Int32) (fl : Nat → Nat) (sg : Nat → Nat) (cp : Nat → Nat) (fs : Nat → Nat) (la : Nat → Nat) (nx : Nat) (hd : Nat → Nat) (dn : Nat) (tg : Nat) (bh : Nat) (j : Nat) (hj : j < 3) (hfj : sg j = 2) : Ct lL g y_M_forget (.code y_M_forget b_M_forget 2 (some .boolean)) 6 200 [.ref m0, .int (nI j)] (wM g m0 m1 m2 m3 m4 m5 m6 m7 m8 m9 m10 n sy k o ke va fl sg cp fs la nx hd dn tg bh) (exP (some (.int (nI 1))) (wM g m0 m1 m2 m3 m4 m5 m6 m7 m8 m9 m10 n sy k o ke va fl (va_up sg j 0) cp fs la nx hd dn tg bh)) := by
  refine Ct.ofW (by decide) (Nat.le_of_ble_eq_true rfl) ?_
  intro pX eX sX mX aX bX tX cX AX lsX HX oX QX zx zb zr zk zm zo zg zK zP zD zA zS zQ zl
  have zo : sX.vm.findClass R_M = some mX.cls := zo
  have zl : lv_has lsX 2 [(0, .ref m0), (1, .int (nI j))] := zl
  refine lv_aload_n zx zb d_M_forget_0 rfl (lv_at zl 0 rfl) ?_
  refine lv_iload_n zx zb d_M_forget_1 rfl (lv_at zl 1 rfl) ?_
  refine ct_V (ws' := wM g m0 m1 m2 m3 m4 m5 m6 m7 m8 m9 m10 n sy k o ke va fl sg cp fs la nx hd dn tg bh) (rest := []) (st1 := [.int (nI 1)]) zx zb zm zo zg zK zP zD zS zA zl.1 (c_M_fin_t lL g m0 m1 m2 m3 m4 m5 m6 m7 m8 m9 m10 n sy k o ke va fl sg cp fs la nx hd dn tg bh j (by omega) (by omega)) ok_M_finished ov_M_finished ml_M_87 (by decide) 0 7 rfl rfl rfl [0, 1, 2, 3, 4, 5, 6, 7, 8, 9, 10] [] 11 (by decide) rfl rfl rfl rfl (by decide) rfl rfl rfl (Nat.le_of_ble_eq_true rfl) d_M_forget_2 (fun HX oX zP zD zS => ?_)
  refine wn_ine_T (tgt := 10) zx zb d_M_forget_5 (by decide) (by omega) (by omega) ?_
  refine lv_aload_n zx zb d_M_forget_10 rfl (lv_at zl 0 rfl) ?_
  refine wv_get zx zb zg hin_M rfl zo zK zP 0 rfl 7 (by decide) rfl fl_M_25 rfl d_M_forget_11 ?_
  refine lv_iload_n zx zb d_M_forget_14 rfl (lv_at zl 1 rfl) ?_
  refine lv_iconst (v := (nI 0)) zx zb d_M_forget_15 (by decide) ?_
  refine wv_iastN zx zb zK zP zD zS 6 rfl (by omega) (by decide) d_M_forget_16 (fun HX oX zP zD zS => ?_)
  have zP : va_P g.1 cls (wM g m0 m1 m2 m3 m4 m5 m6 m7 m8 m9 m10 n sy k o ke va fl (va_up sg j 0) cp fs la nx hd dn tg bh) HX := zP
  have zD : va_D AX (wM g m0 m1 m2 m3 m4 m5 m6 m7 m8 m9 m10 n sy k o ke va fl (va_up sg j 0) cp fs la nx hd dn tg bh) := zD
  refine lv_iconst (v := (nI 1)) zx zb d_M_forget_17 (by decide) ?_
  exact ct_zret zQ zx zb zr zk zP zD zS d_M_forget_18 rfl (by decide) (⟨rfl, rfl⟩)
set_option maxRecDepth 20000 in
theorem c_M_bound_0 (lL : Launch) (g : Gt) (m0 : Nat) (m1 : Nat) (m2 : Nat) (m3 : Nat) (m4 : Nat) (m5 : Nat) (m6 : Nat) (m7 : Nat) (m8 : Nat) (m9 : Nat) (m10 : Nat) (n : Nat) (sy : Nat) (k : Nat → Nat) (o : Nat → Int32) (ke : Nat → Nat) (va : Nat → Int32) (fl : Nat → Nat) (sg : Nat → Nat) (cp : Nat → Nat) (fs : Nat → Nat) (la : Nat → Nat) (nx : Nat) (hd : Nat → Nat) (dn : Nat) (tg : Nat) (bh : Nat) (j : Nat) (hj : j < 3) (hfj : sg j = 2) : Ct lL g y_M_bound (.code y_M_bound b_M_bound 3 (some .int)) 6 200 [.ref m0, .int (nI j), .int (nI 0)] (wM g m0 m1 m2 m3 m4 m5 m6 m7 m8 m9 m10 n sy k o ke va fl sg cp fs la nx hd dn tg bh) (exP (some (.int (nI (fs j)))) (wM g m0 m1 m2 m3 m4 m5 m6 m7 m8 m9 m10 n sy k o ke va fl sg cp fs la nx hd dn tg bh)) := by
  refine Ct.ofW (by decide) (Nat.le_of_ble_eq_true rfl) ?_
  intro pX eX sX mX aX bX tX cX AX lsX HX oX QX zx zb zr zk zm zo zg zK zP zD zA zS zQ zl
  have zo : sX.vm.findClass R_M = some mX.cls := zo
  have zl : lv_has lsX 3 [(0, .ref m0), (1, .int (nI j)), (2, .int (nI 0))] := zl
  refine lv_aload_n zx zb d_M_bound_0 rfl (lv_at zl 0 rfl) ?_
  refine lv_iload_n zx zb d_M_bound_1 rfl (lv_at zl 1 rfl) ?_
  refine ct_V (ws' := wM g m0 m1 m2 m3 m4 m5 m6 m7 m8 m9 m10 n sy k o ke va fl sg cp fs la nx hd dn tg bh) (rest := []) (st1 := [.int (nI 1)]) zx zb zm zo zg zK zP zD zS zA zl.1 (c_M_fin_t lL g m0 m1 m2 m3 m4 m5 m6 m7 m8 m9 m10 n sy k o ke va fl sg cp fs la nx hd dn tg bh j (by omega) (by omega)) ok_M_finished ov_M_finished ml_M_87 (by decide) 0 7 rfl rfl rfl [0, 1, 2, 3, 4, 5, 6, 7, 8, 9, 10] [] 11 (by decide) rfl rfl rfl rfl (by decide) rfl rfl rfl (Nat.le_of_ble_eq_true rfl) d_M_bound_2 (fun HX oX zP zD zS => ?_)
  refine wn_ieq_F (tgt := 17) zx zb d_M_bound_5 (by decide) (by omega) (by omega) ?_
  refine lv_iload_n zx zb d_M_bound_8 rfl (lv_at zl 2 rfl) ?_
  refine wn_ilt_F (tgt := 17) zx zb d_M_bound_9 (by decide) (by omega) (trivial) ?_
  refine lv_iload_n zx zb d_M_bound_12 rfl (lv_at zl 2 rfl) ?_
  refine lv_iconst (v := (nI 1)) zx zb d_M_bound_13 (by decide) ?_
  refine wn_cle_T (tgt := 21) zx zb d_M_bound_14 (by decide) (by omega) (by omega) (by omega) ?_
  refine lv_iload_n zx zb d_M_bound_21 rfl (lv_at zl 2 rfl) ?_
  refine wn_ine_F (tgt := 34) zx zb d_M_bound_22 (by decide) (by omega) (by omega) ?_
  refine lv_aload_n zx zb d_M_bound_25 rfl (lv_at zl 0 rfl) ?_
  refine wv_get zx zb zg hin_M rfl zo zK zP 0 rfl 9 (by decide) rfl fl_M_31 rfl d_M_bound_26 ?_
  refine lv_iload_n zx zb d_M_bound_29 rfl (lv_at zl 1 rfl) ?_
  refine wv_ialdN zx zb zK zP 8 rfl (by omega) (by decide) d_M_bound_30 ?_
  refine lv_goto (tgt := 40) zx zb d_M_bound_31 (by decide) ?_
  exact ct_iret zQ zx zb zr zk zP zD zS d_M_bound_40 rfl (⟨rfl, rfl⟩)
set_option maxRecDepth 20000 in
theorem c_M_bound_1 (lL : Launch) (g : Gt) (m0 : Nat) (m1 : Nat) (m2 : Nat) (m3 : Nat) (m4 : Nat) (m5 : Nat) (m6 : Nat) (m7 : Nat) (m8 : Nat) (m9 : Nat) (m10 : Nat) (n : Nat) (sy : Nat) (k : Nat → Nat) (o : Nat → Int32) (ke : Nat → Nat) (va : Nat → Int32) (fl : Nat → Nat) (sg : Nat → Nat) (cp : Nat → Nat) (fs : Nat → Nat) (la : Nat → Nat) (nx : Nat) (hd : Nat → Nat) (dn : Nat) (tg : Nat) (bh : Nat) (j : Nat) (hj : j < 3) (hfj : sg j = 2) : Ct lL g y_M_bound (.code y_M_bound b_M_bound 3 (some .int)) 6 200 [.ref m0, .int (nI j), .int (nI 1)] (wM g m0 m1 m2 m3 m4 m5 m6 m7 m8 m9 m10 n sy k o ke va fl sg cp fs la nx hd dn tg bh) (exP (some (.int (nI (la j)))) (wM g m0 m1 m2 m3 m4 m5 m6 m7 m8 m9 m10 n sy k o ke va fl sg cp fs la nx hd dn tg bh)) := by
  refine Ct.ofW (by decide) (Nat.le_of_ble_eq_true rfl) ?_
  intro pX eX sX mX aX bX tX cX AX lsX HX oX QX zx zb zr zk zm zo zg zK zP zD zA zS zQ zl
  have zo : sX.vm.findClass R_M = some mX.cls := zo
  have zl : lv_has lsX 3 [(0, .ref m0), (1, .int (nI j)), (2, .int (nI 1))] := zl
  refine lv_aload_n zx zb d_M_bound_0 rfl (lv_at zl 0 rfl) ?_
  refine lv_iload_n zx zb d_M_bound_1 rfl (lv_at zl 1 rfl) ?_
  refine ct_V (ws' := wM g m0 m1 m2 m3 m4 m5 m6 m7 m8 m9 m10 n sy k o ke va fl sg cp fs la nx hd dn tg bh) (rest := []) (st1 := [.int (nI 1)]) zx zb zm zo zg zK zP zD zS zA zl.1 (c_M_fin_t lL g m0 m1 m2 m3 m4 m5 m6 m7 m8 m9 m10 n sy k o ke va fl sg cp fs la nx hd dn tg bh j (by omega) (by omega)) ok_M_finished ov_M_finished ml_M_87 (by decide) 0 7 rfl rfl rfl [0, 1, 2, 3, 4, 5, 6, 7, 8, 9, 10] [] 11 (by decide) rfl rfl rfl rfl (by decide) rfl rfl rfl (Nat.le_of_ble_eq_true rfl) d_M_bound_2 (fun HX oX zP zD zS => ?_)
  refine wn_ieq_F (tgt := 17) zx zb d_M_bound_5 (by decide) (by omega) (by omega) ?_
  refine lv_iload_n zx zb d_M_bound_8 rfl (lv_at zl 2 rfl) ?_
  refine wn_ilt_F (tgt := 17) zx zb d_M_bound_9 (by decide) (by omega) (trivial) ?_
  refine lv_iload_n zx zb d_M_bound_12 rfl (lv_at zl 2 rfl) ?_
  refine lv_iconst (v := (nI 1)) zx zb d_M_bound_13 (by decide) ?_
  refine wn_cle_T (tgt := 21) zx zb d_M_bound_14 (by decide) (by omega) (by omega) (by omega) ?_
  refine lv_iload_n zx zb d_M_bound_21 rfl (lv_at zl 2 rfl) ?_
  refine wn_ine_T (tgt := 34) zx zb d_M_bound_22 (by decide) (by omega) (by omega) ?_
  refine lv_aload_n zx zb d_M_bound_34 rfl (lv_at zl 0 rfl) ?_
  refine wv_get zx zb zg hin_M rfl zo zK zP 0 rfl 10 (by decide) rfl fl_M_34 rfl d_M_bound_35 ?_
  refine lv_iload_n zx zb d_M_bound_38 rfl (lv_at zl 1 rfl) ?_
  refine wv_ialdN zx zb zK zP 9 rfl (by omega) (by decide) d_M_bound_39 ?_
  exact ct_iret zQ zx zb zr zk zP zD zS d_M_bound_40 rfl (⟨rfl, rfl⟩)
set_option maxRecDepth 20000 in
theorem c_M_bound_xn (lL : Launch) (g : Gt) (m0 : Nat) (m1 : Nat) (m2 : Nat) (m3 : Nat) (m4 : Nat) (m5 : Nat) (m6 : Nat) (m7 : Nat) (m8 : Nat) (m9 : Nat) (m10 : Nat) (n : Nat) (sy : Nat) (k : Nat → Nat) (o : Nat → Int32) (ke : Nat → Nat) (va : Nat → Int32) (fl : Nat → Nat) (sg : Nat → Nat) (cp : Nat → Nat) (fs : Nat → Nat) (la : Nat → Nat) (nx : Nat) (hd : Nat → Nat) (dn : Nat) (tg : Nat) (bh : Nat) (j : Nat) (wh : Int32) (hj : j < 3) (hfj : sg j = 2) (hwh : wh < 0) : Ct lL g y_M_bound (.code y_M_bound b_M_bound 3 (some .int)) 6 200 [.ref m0, .int (nI j), .int wh] (wM g m0 m1 m2 m3 m4 m5 m6 m7 m8 m9 m10 n sy k o ke va fl sg cp fs la nx hd dn tg bh) (exP (some (.int (-1))) (wM g m0 m1 m2 m3 m4 m5 m6 m7 m8 m9 m10 n sy k o ke va fl sg cp fs la nx hd dn tg bh)) := by
  refine Ct.ofW (by decide) (Nat.le_of_ble_eq_true rfl) ?_
  intro pX eX sX mX aX bX tX cX AX lsX HX oX QX zx zb zr zk zm zo zg zK zP zD zA zS zQ zl
  have zo : sX.vm.findClass R_M = some mX.cls := zo
  have zl : lv_has lsX 3 [(0, .ref m0), (1, .int (nI j)), (2, .int wh)] := zl
  refine lv_aload_n zx zb d_M_bound_0 rfl (lv_at zl 0 rfl) ?_
  refine lv_iload_n zx zb d_M_bound_1 rfl (lv_at zl 1 rfl) ?_
  refine ct_V (ws' := wM g m0 m1 m2 m3 m4 m5 m6 m7 m8 m9 m10 n sy k o ke va fl sg cp fs la nx hd dn tg bh) (rest := []) (st1 := [.int (nI 1)]) zx zb zm zo zg zK zP zD zS zA zl.1 (c_M_fin_t lL g m0 m1 m2 m3 m4 m5 m6 m7 m8 m9 m10 n sy k o ke va fl sg cp fs la nx hd dn tg bh j (by omega) (by omega)) ok_M_finished ov_M_finished ml_M_87 (by decide) 0 7 rfl rfl rfl [0, 1, 2, 3, 4, 5, 6, 7, 8, 9, 10] [] 11 (by decide) rfl rfl rfl rfl (by decide) rfl rfl rfl (Nat.le_of_ble_eq_true rfl) d_M_bound_2 (fun HX oX zP zD zS => ?_)
  refine wn_ieq_F (tgt := 17) zx zb d_M_bound_5 (by decide) (by omega) (by omega) ?_
  refine lv_iload_n zx zb d_M_bound_8 rfl (lv_at zl 2 rfl) ?_
  refine lv_if_lt (tgt := 17) zx zb d_M_bound_9 (by decide) (fun _ => ?_) (fun h => absurd h (fun h => h hwh))
  refine lv_iconst (v := (-1)) zx zb d_M_bound_17 (by decide) ?_
  refine lv_goto (tgt := 40) zx zb d_M_bound_18 (by decide) ?_
  exact ct_iret zQ zx zb zr zk zP zD zS d_M_bound_40 rfl (⟨rfl, rfl⟩)
set_option maxRecDepth 20000 in
theorem c_M_bound_xg (lL : Launch) (g : Gt) (m0 : Nat) (m1 : Nat) (m2 : Nat) (m3 : Nat) (m4 : Nat) (m5 : Nat) (m6 : Nat) (m7 : Nat) (m8 : Nat) (m9 : Nat) (m10 : Nat) (n : Nat) (sy : Nat) (k : Nat → Nat) (o : Nat → Int32) (ke : Nat → Nat) (va : Nat → Int32) (fl : Nat → Nat) (sg : Nat → Nat) (cp : Nat → Nat) (fs : Nat → Nat) (la : Nat → Nat) (nx : Nat) (hd : Nat → Nat) (dn : Nat) (tg : Nat) (bh : Nat) (j : Nat) (wh : Nat) (hj : j < 3) (hfj : sg j = 2) (hwh : 2 ≤ wh) (hwh2 : wh < 2147483648) : Ct lL g y_M_bound (.code y_M_bound b_M_bound 3 (some .int)) 6 200 [.ref m0, .int (nI j), .int (nI wh)] (wM g m0 m1 m2 m3 m4 m5 m6 m7 m8 m9 m10 n sy k o ke va fl sg cp fs la nx hd dn tg bh) (exP (some (.int (-1))) (wM g m0 m1 m2 m3 m4 m5 m6 m7 m8 m9 m10 n sy k o ke va fl sg cp fs la nx hd dn tg bh)) := by
  refine Ct.ofW (by decide) (Nat.le_of_ble_eq_true rfl) ?_
  intro pX eX sX mX aX bX tX cX AX lsX HX oX QX zx zb zr zk zm zo zg zK zP zD zA zS zQ zl
  have zo : sX.vm.findClass R_M = some mX.cls := zo
  have zl : lv_has lsX 3 [(0, .ref m0), (1, .int (nI j)), (2, .int (nI wh))] := zl
  refine lv_aload_n zx zb d_M_bound_0 rfl (lv_at zl 0 rfl) ?_
  refine lv_iload_n zx zb d_M_bound_1 rfl (lv_at zl 1 rfl) ?_
  refine ct_V (ws' := wM g m0 m1 m2 m3 m4 m5 m6 m7 m8 m9 m10 n sy k o ke va fl sg cp fs la nx hd dn tg bh) (rest := []) (st1 := [.int (nI 1)]) zx zb zm zo zg zK zP zD zS zA zl.1 (c_M_fin_t lL g m0 m1 m2 m3 m4 m5 m6 m7 m8 m9 m10 n sy k o ke va fl sg cp fs la nx hd dn tg bh j (by omega) (by omega)) ok_M_finished ov_M_finished ml_M_87 (by decide) 0 7 rfl rfl rfl [0, 1, 2, 3, 4, 5, 6, 7, 8, 9, 10] [] 11 (by decide) rfl rfl rfl rfl (by decide) rfl rfl rfl (Nat.le_of_ble_eq_true rfl) d_M_bound_2 (fun HX oX zP zD zS => ?_)
  refine wn_ieq_F (tgt := 17) zx zb d_M_bound_5 (by decide) (by omega) (by omega) ?_
  refine lv_iload_n zx zb d_M_bound_8 rfl (lv_at zl 2 rfl) ?_
  refine wn_ilt_F (tgt := 17) zx zb d_M_bound_9 (by decide) (by omega) (trivial) ?_
  refine lv_iload_n zx zb d_M_bound_12 rfl (lv_at zl 2 rfl) ?_
  refine lv_iconst (v := (nI 1)) zx zb d_M_bound_13 (by decide) ?_
  refine wn_cle_F (tgt := 21) zx zb d_M_bound_14 (by decide) (by omega) (by omega) (by omega) ?_
  refine lv_iconst (v := (-1)) zx zb d_M_bound_17 (by decide) ?_
  refine lv_goto (tgt := 40) zx zb d_M_bound_18 (by decide) ?_
  exact ct_iret zQ zx zb zr zk zP zD zS d_M_bound_40 rfl (⟨rfl, rfl⟩)
set_option maxRecDepth 20000 in
theorem c_M_holds (lL : Launch) (g : Gt) (m0 : Nat) (m1 : Nat) (m2 : Nat) (m3 : Nat) (m4 : Nat) (m5 : Nat) (m6 : Nat) (m7 : Nat) (m8 : Nat) (m9 : Nat) (m10 : Nat) (n : Nat) (sy : Nat) (k : Nat → Nat) (o : Nat → Int32) (ke : Nat → Nat) (va : Nat → Int32) (fl : Nat → Nat) (sg : Nat → Nat) (cp : Nat → Nat) (fs : Nat → Nat) (la : Nat → Nat) (nx : Nat) (hd : Nat → Nat) (dn : Nat) (tg : Nat) (bh : Nat) (hh : ∀ j, j < 66 → hd j = 0 ∨ hd j = 1) : Ct lL g y_M_holds (.code y_M_holds b_M_holds 3 (some .int)) 0 0 [.ref m0] (wM g m0 m1 m2 m3 m4 m5 m6 m7 m8 m9 m10 n sy k o ke va fl sg cp fs la nx hd dn tg bh) (exP (some (.int (nI (hoS hd 0 66)))) (wM g m0 m1 m2 m3 m4 m5 m6 m7 m8 m9 m10 n sy k o ke va fl sg cp fs la nx hd dn tg bh)) := by
  refine Ct.ofW (by decide) (Nat.le_of_ble_eq_true rfl) ?_
  intro pX eX sX mX aX bX tX cX AX lsX HX oX QX zx zb zr zk zm zo zg zK zP zD zA zS zQ zl
  have zo : sX.vm.findClass R_M = some mX.cls := zo
  have zl : lv_has lsX 3 [(0, .ref m0)] := zl
  refine lv_iconst (v := (nI 0)) zx zb d_M_holds_0 (by decide) ?_
  refine lv_istore_n (lv' := [(1, .int (nI 0)), (0, .ref m0)]) zx zb d_M_holds_1 rfl zl (by decide) rfl (fun lsX zl => ?_)
  refine lv_iconst (v := (nI 0)) zx zb d_M_holds_2 (by decide) ?_
  refine lv_istore_n (lv' := [(2, .int (nI 0)), (1, .int (nI 0)), (0, .ref m0)]) zx zb d_M_holds_3 rfl zl (by decide) rfl (fun lsX zl => ?_)
  have loop4 : ∀ (kk : Nat) (f : Nat) (q : Nat), kk = 66 - q → (q ≤ 66) → (f ≤ q) → (f + hoS hd q (66 - q) = hoS hd 0 66) → ∀ (lsX : Array Slot) (HX : Heap) (oX : List Loc), lv_has lsX 3 [(0, .ref m0), (1, .int (nI f)), (2, .int (nI q))] → va_P g.1 cls (wM g m0 m1 m2 m3 m4 m5 m6 m7 m8 m9 m10 n sy k o ke va fl sg cp fs la nx hd dn tg bh) HX → va_D AX (wM g m0 m1 m2 m3 m4 m5 m6 m7 m8 m9 m10 n sy k o ke va fl sg cp fs la nx hd dn tg bh) → va_S AX sX.heap HX oX → W pX lL eX (rmL 0 0) sX mX aX bX tX cX HX oX 0 0 QX (F0 mX 4 lsX []) := by
    intro kk
    induction kk using Nat.strongRecOn with
    | ind kk ih_loop4 =>
      intro f q hkk hq hfq hi lsX HX oX zl zP zD zS
      rcases Nat.lt_or_ge q 66 with h3 | h3
      · have hhq := hh q h3
        have e3 : 66 - q = (66 - (q + 1)) + 1 := by omega
        rw [e3] at hi
        have hi : f + ((if hd q ≠ 0 then 1 else 0) + hoS hd (q + 1) (66 - (q + 1))) = hoS hd 0 66 := hi
        refine lv_iload_n zx zb d_M_holds_4 rfl (lv_at zl 2 rfl) ?_
        refine lv_bipush (v := (nI 66)) zx zb d_M_holds_5 (by decide) ?_
        refine wn_cge_F (tgt := 33) zx zb d_M_holds_7 (by decide) (by omega) (by omega) (by omega) ?_
        by_cases hz : hd q = 0
        · rw [if_neg (by omega)] at hi
          have hi : f + 0 + hoS hd (q + 1) (66 - (q + 1)) = hoS hd 0 66 := by omega
          refine lv_iload_n zx zb d_M_holds_10 rfl (lv_at zl 1 rfl) ?_
          refine lv_aload_n zx zb d_M_holds_11 rfl (lv_at zl 0 rfl) ?_
          refine wv_get zx zb zg hin_M rfl zo zK zP 0 rfl 12 (by decide) rfl fl_M_37 rfl d_M_holds_12 ?_
          refine lv_iload_n zx zb d_M_holds_15 rfl (lv_at zl 2 rfl) ?_
          refine wv_zaldN zx zb zK zP 10 rfl (by omega) (by decide) d_M_holds_16 ?_
          refine wn_ieq_T (tgt := 24) zx zb d_M_holds_17 (by decide) (by omega) (by omega) ?_
          refine lv_iconst (v := (nI 0)) zx zb d_M_holds_24 (by decide) ?_
          refine wv_iadd zx zb d_M_holds_25 (nI_add _ _) ?_
          refine lv_istore_n (lv' := [(1, .int (nI (f + 0))), (0, .ref m0), (2, .int (nI q))]) zx zb d_M_holds_26 rfl zl (by decide) rfl (fun lsX zl => ?_)
          refine lv_iinc (k := 2) (lv' := [(2, .int (nI (q + 1))), (1, .int (nI (f + 0))), (0, .ref m0)]) zx zb d_M_holds_27 zl rfl (ni_inc _) (by decide) rfl (fun lsX zl => ?_)
          refine lv_goto (tgt := 4) zx zb d_M_holds_30 (by decide) ?_
          exact ih_loop4 _ (by omega) (f + 0) (q + 1) rfl (by omega) (by omega) hi lsX HX oX (lv_sub zl [2, 1, 0] rfl) zP zD zS
        · rw [if_pos hz] at hi
          have hi : f + 1 + hoS hd (q + 1) (66 - (q + 1)) = hoS hd 0 66 := by omega
          refine lv_iload_n zx zb d_M_holds_10 rfl (lv_at zl 1 rfl) ?_
          refine lv_aload_n zx zb d_M_holds_11 rfl (lv_at zl 0 rfl) ?_
          refine wv_get zx zb zg hin_M rfl zo zK zP 0 rfl 12 (by decide) rfl fl_M_37 rfl d_M_holds_12 ?_
          refine lv_iload_n zx zb d_M_holds_15 rfl (lv_at zl 2 rfl) ?_
          refine wv_zaldN zx zb zK zP 10 rfl (by omega) (by decide) d_M_holds_16 ?_
          refine wn_ieq_F (tgt := 24) zx zb d_M_holds_17 (by decide) (by omega) (by omega) ?_
          refine lv_iconst (v := (nI 1)) zx zb d_M_holds_20 (by decide) ?_
          refine lv_goto (tgt := 25) zx zb d_M_holds_21 (by decide) ?_
          refine wv_iadd zx zb d_M_holds_25 (nI_add _ _) ?_
          refine lv_istore_n (lv' := [(1, .int (nI (f + 1))), (0, .ref m0), (2, .int (nI q))]) zx zb d_M_holds_26 rfl zl (by decide) rfl (fun lsX zl => ?_)
          refine lv_iinc (k := 2) (lv' := [(2, .int (nI (q + 1))), (1, .int (nI (f + 1))), (0, .ref m0)]) zx zb d_M_holds_27 zl rfl (ni_inc _) (by decide) rfl (fun lsX zl => ?_)
          refine lv_goto (tgt := 4) zx zb d_M_holds_30 (by decide) ?_
          exact ih_loop4 _ (by omega) (f + 1) (q + 1) rfl (by omega) (by omega) hi lsX HX oX (lv_sub zl [2, 1, 0] rfl) zP zD zS
      · have e3 : q = 66 := by omega
        subst e3
        have hi : f = hoS hd 0 66 := hi
        refine lv_iload_n zx zb d_M_holds_4 rfl (lv_at zl 2 rfl) ?_
        refine lv_bipush (v := (nI 66)) zx zb d_M_holds_5 (by decide) ?_
        refine wn_cge_T (tgt := 33) zx zb d_M_holds_7 (by decide) (by omega) (by omega) (by omega) ?_
        refine lv_iload_n zx zb d_M_holds_33 rfl (lv_at zl 1 rfl) ?_
        exact ct_iret zQ zx zb zr zk zP zD zS d_M_holds_34 rfl (⟨by rw [hi], rfl⟩)
  exact loop4 _ 0 0 rfl (by omega) (by omega) (Nat.zero_add _) lsX HX oX (lv_sub zl [2, 1, 0] rfl) zP zD zS
set_option maxRecDepth 20000 in
theorem c_M_archive_n (lL : Launch) (g : Gt) (m0 : Nat) (m1 : Nat) (m2 : Nat) (m3 : Nat) (m4 : Nat) (m5 : Nat) (m6 : Nat) (m7 : Nat) (m8 : Nat) (m9 : Nat) (m10 : Nat) (n : Nat) (sy : Nat) (k : Nat → Nat) (o : Nat → Int32) (ke : Nat → Nat) (va : Nat → Int32) (fl : Nat → Nat) (sg : Nat → Nat) (cp : Nat → Nat) (fs : Nat → Nat) (la : Nat → Nat) (nx : Nat) (hd : Nat → Nat) (dn : Nat) (tg : Nat) (bh : Nat) (hs5 : sy ≤ 520) (hx5 : nx ≤ 65) (hw : sy < 8 * nx + 8) : Ct lL g y_M_archive (.code y_M_archive b_M_archive 1 (some .int)) 6 200 [.ref m0] (wM g m0 m1 m2 m3 m4 m5 m6 m7 m8 m9 m10 n sy k o ke va fl sg cp fs la nx hd dn tg bh) (exP (some (.int (-3))) (wM g m0 m1 m2 m3 m4 m5 m6 m7 m8 m9 m10 n sy k o ke va fl sg cp fs la nx hd dn tg bh)) := by
  refine Ct.ofW (by decide) (Nat.le_of_ble_eq_true rfl) ?_
  intro pX eX sX mX aX bX tX cX AX lsX HX oX QX zx zb zr zk zm zo zg zK zP zD zA zS zQ zl
  have zo : sX.vm.findClass R_M = some mX.cls := zo
  have zl : lv_has lsX 1 [(0, .ref m0)] := zl
  refine lv_aload_n zx zb d_M_archive_0 rfl (lv_at zl 0 rfl) ?_
  refine wv_get zx zb zg hin_M rfl zo zK zP 0 rfl 1 (by decide) rfl fl_M_74 rfl d_M_archive_1 ?_
  refine lv_bipush (v := (nI 8)) zx zb d_M_archive_4 (by decide) ?_
  refine lv_aload_n zx zb d_M_archive_6 rfl (lv_at zl 0 rfl) ?_
  refine wv_get zx zb zg hin_M rfl zo zK zP 0 rfl 11 (by decide) rfl fl_M_90 rfl d_M_archive_7 ?_
  refine wv_imul zx zb d_M_archive_10 (pk_mul _ _) ?_
  refine lv_bipush (v := (nI 8)) zx zb d_M_archive_11 (by decide) ?_
  refine wv_iadd zx zb d_M_archive_13 (nI_add _ _) ?_
  refine wn_cge_F (tgt := 20) zx zb d_M_archive_14 (by decide) (by omega) (by omega) (by omega) ?_
  refine lv_bipush (v := (-3)) zx zb d_M_archive_17 (by decide) ?_
  exact ct_iret zQ zx zb zr zk zP zD zS d_M_archive_19 rfl (⟨rfl, rfl⟩)
set_option maxRecDepth 20000 in
theorem c_M_archive_f (lL : Launch) (g : Gt) (m0 : Nat) (m1 : Nat) (m2 : Nat) (m3 : Nat) (m4 : Nat) (m5 : Nat) (m6 : Nat) (m7 : Nat) (m8 : Nat) (m9 : Nat) (m10 : Nat) (n : Nat) (sy : Nat) (k : Nat → Nat) (o : Nat → Int32) (ke : Nat → Nat) (va : Nat → Int32) (fl : Nat → Nat) (sg : Nat → Nat) (cp : Nat → Nat) (fs : Nat → Nat) (la : Nat → Nat) (nx : Nat) (hd : Nat → Nat) (dn : Nat) (tg : Nat) (bh : Nat) (hs5 : sy ≤ 520) (hx5 : nx ≤ 65) (hw : 8 * nx + 8 ≤ sy) (hh : ∀ j, j < 66 → hd j = 0 ∨ hd j = 1) (hho : hoS hd 0 66 = 10) : Ct lL g y_M_archive (.code y_M_archive b_M_archive 1 (some .int)) 6 200 [.ref m0] (wM g m0 m1 m2 m3 m4 m5 m6 m7 m8 m9 m10 n sy k o ke va fl sg cp fs la nx hd dn tg bh) (exP (some (.int (-2))) (wM g m0 m1 m2 m3 m4 m5 m6 m7 m8 m9 m10 n sy k o ke va fl sg cp fs la nx hd dn tg bh)) := by
  refine Ct.ofW (by decide) (Nat.le_of_ble_eq_true rfl) ?_
  intro pX eX sX mX aX bX tX cX AX lsX HX oX QX zx zb zr zk zm zo zg zK zP zD zA zS zQ zl
  have zo : sX.vm.findClass R_M = some mX.cls := zo
  have zl : lv_has lsX 1 [(0, .ref m0)] := zl
  refine lv_aload_n zx zb d_M_archive_0 rfl (lv_at zl 0 rfl) ?_
  refine wv_get zx zb zg hin_M rfl zo zK zP 0 rfl 1 (by decide) rfl fl_M_74 rfl d_M_archive_1 ?_
  refine lv_bipush (v := (nI 8)) zx zb d_M_archive_4 (by decide) ?_
  refine lv_aload_n zx zb d_M_archive_6 rfl (lv_at zl 0 rfl) ?_
  refine wv_get zx zb zg hin_M rfl zo zK zP 0 rfl 11 (by decide) rfl fl_M_90 rfl d_M_archive_7 ?_
  refine wv_imul zx zb d_M_archive_10 (pk_mul _ _) ?_
  refine lv_bipush (v := (nI 8)) zx zb d_M_archive_11 (by decide) ?_
  refine wv_iadd zx zb d_M_archive_13 (nI_add _ _) ?_
  refine wn_cge_T (tgt := 20) zx zb d_M_archive_14 (by decide) (by omega) (by omega) (by omega) ?_
  refine lv_aload_n zx zb d_M_archive_20 rfl (lv_at zl 0 rfl) ?_
  refine ct_V (ws' := wM g m0 m1 m2 m3 m4 m5 m6 m7 m8 m9 m10 n sy k o ke va fl sg cp fs la nx hd dn tg bh) (rest := []) (st1 := [.int (nI (hoS hd 0 66))]) zx zb zm zo zg zK zP zD zS zA zl.1 (c_M_holds lL g m0 m1 m2 m3 m4 m5 m6 m7 m8 m9 m10 n sy k o ke va fl sg cp fs la nx hd dn tg bh hh) ok_M_holds ov_M_holds ml_M_93 (by decide) 0 7 rfl rfl rfl [0, 1, 2, 3, 4, 5, 6, 7, 8, 9, 10] [] 11 (by decide) rfl rfl rfl rfl (by decide) rfl rfl rfl (Nat.le_of_ble_eq_true rfl) d_M_archive_21 (fun HX oX zP zD zS => ?_)
  refine lv_bipush (v := (nI 10)) zx zb d_M_archive_24 (by decide) ?_
  refine wn_cne_F (tgt := 32) zx zb d_M_archive_26 (by decide) (by omega) (by omega) (by omega) ?_
  refine lv_bipush (v := (-2)) zx zb d_M_archive_29 (by decide) ?_
  exact ct_iret zQ zx zb zr zk zP zD zS d_M_archive_31 rfl (⟨rfl, rfl⟩)
set_option maxRecDepth 20000 in
theorem c_M_archive_t (lL : Launch) (g : Gt) (m0 : Nat) (m1 : Nat) (m2 : Nat) (m3 : Nat) (m4 : Nat) (m5 : Nat) (m6 : Nat) (m7 : Nat) (m8 : Nat) (m9 : Nat) (m10 : Nat) (n : Nat) (sy : Nat) (k : Nat → Nat) (o : Nat → Int32) (ke : Nat → Nat) (va : Nat → Int32) (fl : Nat → Nat) (sg : Nat → Nat) (cp : Nat → Nat) (fs : Nat → Nat) (la : Nat → Nat) (nx : Nat) (hd : Nat → Nat) (dn : Nat) (tg : Nat) (bh : Nat) (hs5 : sy ≤ 520) (hx5 : nx ≤ 65) (hw : 8 * nx + 8 ≤ sy) (hh : ∀ j, j < 66 → hd j = 0 ∨ hd j = 1) (hho : hoS hd 0 66 < 10) : Ct lL g y_M_archive (.code y_M_archive b_M_archive 1 (some .int)) 6 200 [.ref m0] (wM g m0 m1 m2 m3 m4 m5 m6 m7 m8 m9 m10 n sy k o ke va fl sg cp fs la nx hd dn tg bh) (exP (some (.int (nI ((nx + 1) - 1)))) (wM g m0 m1 m2 m3 m4 m5 m6 m7 m8 m9 m10 n sy k o ke va fl sg cp fs la (nx + 1) (va_up hd nx 1) dn tg bh)) := by
  refine Ct.ofW (by decide) (Nat.le_of_ble_eq_true rfl) ?_
  intro pX eX sX mX aX bX tX cX AX lsX HX oX QX zx zb zr zk zm zo zg zK zP zD zA zS zQ zl
  have zo : sX.vm.findClass R_M = some mX.cls := zo
  have zl : lv_has lsX 1 [(0, .ref m0)] := zl
  refine lv_aload_n zx zb d_M_archive_0 rfl (lv_at zl 0 rfl) ?_
  refine wv_get zx zb zg hin_M rfl zo zK zP 0 rfl 1 (by decide) rfl fl_M_74 rfl d_M_archive_1 ?_
  refine lv_bipush (v := (nI 8)) zx zb d_M_archive_4 (by decide) ?_
  refine lv_aload_n zx zb d_M_archive_6 rfl (lv_at zl 0 rfl) ?_
  refine wv_get zx zb zg hin_M rfl zo zK zP 0 rfl 11 (by decide) rfl fl_M_90 rfl d_M_archive_7 ?_
  refine wv_imul zx zb d_M_archive_10 (pk_mul _ _) ?_
  refine lv_bipush (v := (nI 8)) zx zb d_M_archive_11 (by decide) ?_
  refine wv_iadd zx zb d_M_archive_13 (nI_add _ _) ?_
  refine wn_cge_T (tgt := 20) zx zb d_M_archive_14 (by decide) (by omega) (by omega) (by omega) ?_
  refine lv_aload_n zx zb d_M_archive_20 rfl (lv_at zl 0 rfl) ?_
  refine ct_V (ws' := wM g m0 m1 m2 m3 m4 m5 m6 m7 m8 m9 m10 n sy k o ke va fl sg cp fs la nx hd dn tg bh) (rest := []) (st1 := [.int (nI (hoS hd 0 66))]) zx zb zm zo zg zK zP zD zS zA zl.1 (c_M_holds lL g m0 m1 m2 m3 m4 m5 m6 m7 m8 m9 m10 n sy k o ke va fl sg cp fs la nx hd dn tg bh hh) ok_M_holds ov_M_holds ml_M_93 (by decide) 0 7 rfl rfl rfl [0, 1, 2, 3, 4, 5, 6, 7, 8, 9, 10] [] 11 (by decide) rfl rfl rfl rfl (by decide) rfl rfl rfl (Nat.le_of_ble_eq_true rfl) d_M_archive_21 (fun HX oX zP zD zS => ?_)
  refine lv_bipush (v := (nI 10)) zx zb d_M_archive_24 (by decide) ?_
  refine wn_cne_T (tgt := 32) zx zb d_M_archive_26 (by decide) (by omega) (by omega) (by omega) ?_
  refine lv_aload_n zx zb d_M_archive_32 rfl (lv_at zl 0 rfl) ?_
  refine wv_get zx zb zg hin_M rfl zo zK zP 0 rfl 12 (by decide) rfl fl_M_37 rfl d_M_archive_33 ?_
  refine lv_aload_n zx zb d_M_archive_36 rfl (lv_at zl 0 rfl) ?_
  refine wv_get zx zb zg hin_M rfl zo zK zP 0 rfl 11 (by decide) rfl fl_M_90 rfl d_M_archive_37 ?_
  refine lv_iconst (v := (nI 1)) zx zb d_M_archive_40 (by decide) ?_
  refine wv_zastN zx zb zK zP zD zS 10 rfl (by omega) (by decide) (by decide) d_M_archive_41 (fun HX oX zP zD zS => ?_)
  have zP : va_P g.1 cls (wM g m0 m1 m2 m3 m4 m5 m6 m7 m8 m9 m10 n sy k o ke va fl sg cp fs la nx (va_up hd nx 1) dn tg bh) HX := zP
  have zD : va_D AX (wM g m0 m1 m2 m3 m4 m5 m6 m7 m8 m9 m10 n sy k o ke va fl sg cp fs la nx (va_up hd nx 1) dn tg bh) := zD
  refine lv_aload_n zx zb d_M_archive_42 rfl (lv_at zl 0 rfl) ?_
  refine lv_dup zx zb d_M_archive_43 rfl ?_
  refine wv_get zx zb zg hin_M rfl zo zK zP 0 rfl 11 (by decide) rfl fl_M_90 rfl d_M_archive_44 ?_
  refine lv_iconst (v := (nI 1)) zx zb d_M_archive_47 (by decide) ?_
  refine wv_iadd zx zb d_M_archive_48 (nI_add _ _) ?_
  refine wv_put zx zb zg hin_M rfl t_M t_M_ok n_M zo zK zP zD zS 0 rfl 11 (by decide) rfl fl_M_90 rfl rfl rfl (Nat.le_of_ble_eq_true rfl) d_M_archive_49 (fun HX oX zP zD zS => ?_)
  have zP : va_P g.1 cls (wM g m0 m1 m2 m3 m4 m5 m6 m7 m8 m9 m10 n sy k o ke va fl sg cp fs la (nx + 1) (va_up hd nx 1) dn tg bh) HX := zP
  have zD : va_D AX (wM g m0 m1 m2 m3 m4 m5 m6 m7 m8 m9 m10 n sy k o ke va fl sg cp fs la (nx + 1) (va_up hd nx 1) dn tg bh) := zD
  refine lv_aload_n zx zb d_M_archive_52 rfl (lv_at zl 0 rfl) ?_
  refine wv_get zx zb zg hin_M rfl zo zK zP 0 rfl 11 (by decide) rfl fl_M_90 rfl d_M_archive_53 ?_
  refine lv_iconst (v := (nI 1)) zx zb d_M_archive_56 (by decide) ?_
  refine wv_isub zx zb d_M_archive_57 (pk_sub (by omega)) ?_
  exact ct_iret zQ zx zb zr zk zP zD zS d_M_archive_58 rfl (⟨rfl, rfl⟩)
set_option maxRecDepth 20000 in
theorem c_M_drop_n (lL : Launch) (g : Gt) (m0 : Nat) (m1 : Nat) (m2 : Nat) (m3 : Nat) (m4 : Nat) (m5 : Nat) (m6 : Nat) (m7 : Nat) (m8 : Nat) (m9 : Nat) (m10 : Nat) (n : Nat) (sy : Nat) (k : Nat → Nat) (o : Nat → Int32) (ke : Nat → Nat) (va : Nat → Int32) (fl : Nat → Nat) (sg : Nat → Nat) (cp : Nat → Nat) (fs : Nat → Nat) (la : Nat → Nat) (nx : Nat) (hd : Nat → Nat) (dn : Nat) (tg : Nat) (bh : Nat) (q : Int32) (hq : q < 0) : Ct lL g y_M_drop (.code y_M_drop b_M_drop 2 (some .boolean)) 6 200 [.ref m0, .int q] (wM g m0 m1 m2 m3 m4 m5 m6 m7 m8 m9 m10 n sy k o ke va fl sg cp fs la nx hd dn tg bh) (exP (some (.int (nI 0))) (wM g m0 m1 m2 m3 m4 m5 m6 m7 m8 m9 m10 n sy k o ke va fl sg cp fs la nx hd dn tg bh)) := by
  refine Ct.ofW (by decide) (Nat.le_of_ble_eq_true rfl) ?_
  intro pX eX sX mX aX bX tX cX AX lsX HX oX QX zx zb zr zk zm zo zg zK zP zD zA zS zQ zl
  have zo : sX.vm.findClass R_M = some mX.cls := zo
  have zl : lv_has lsX 2 [(0, .ref m0), (1, .int q)] := zl
  refine lv_iload_n zx zb d_M_drop_0 rfl (lv_at zl 1 rfl) ?_
  refine lv_if_lt (tgt := 19) zx zb d_M_drop_1 (by decide) (fun _ => ?_) (fun h => absurd h (fun h => h hq))
  refine lv_iconst (v := (nI 0)) zx zb d_M_drop_19 (by decide) ?_
  exact ct_zret zQ zx zb zr zk zP zD zS d_M_drop_20 rfl (by decide) (⟨rfl, rfl⟩)
set_option maxRecDepth 20000 in
theorem c_M_drop_g (lL : Launch) (g : Gt) (m0 : Nat) (m1 : Nat) (m2 : Nat) (m3 : Nat) (m4 : Nat) (m5 : Nat) (m6 : Nat) (m7 : Nat) (m8 : Nat) (m9 : Nat) (m10 : Nat) (n : Nat) (sy : Nat) (k : Nat → Nat) (o : Nat → Int32) (ke : Nat → Nat) (va : Nat → Int32) (fl : Nat → Nat) (sg : Nat → Nat) (cp : Nat → Nat) (fs : Nat → Nat) (la : Nat → Nat) (nx : Nat) (hd : Nat → Nat) (dn : Nat) (tg : Nat) (bh : Nat) (q : Nat) (hq : 66 ≤ q) (hq2 : q < 2147483648) : Ct lL g y_M_drop (.code y_M_drop b_M_drop 2 (some .boolean)) 6 200 [.ref m0, .int (nI q)] (wM g m0 m1 m2 m3 m4 m5 m6 m7 m8 m9 m10 n sy k o ke va fl sg cp fs la nx hd dn tg bh) (exP (some (.int (nI 0))) (wM g m0 m1 m2 m3 m4 m5 m6 m7 m8 m9 m10 n sy k o ke va fl sg cp fs la nx hd dn tg bh)) := by
  refine Ct.ofW (by decide) (Nat.le_of_ble_eq_true rfl) ?_
  intro pX eX sX mX aX bX tX cX AX lsX HX oX QX zx zb zr zk zm zo zg zK zP zD zA zS zQ zl
  have zo : sX.vm.findClass R_M = some mX.cls := zo
  have zl : lv_has lsX 2 [(0, .ref m0), (1, .int (nI q))] := zl
  refine lv_iload_n zx zb d_M_drop_0 rfl (lv_at zl 1 rfl) ?_
  refine wn_ilt_F (tgt := 19) zx zb d_M_drop_1 (by decide) (by omega) (trivial) ?_
  refine lv_iload_n zx zb d_M_drop_4 rfl (lv_at zl 1 rfl) ?_
  refine lv_bipush (v := (nI 66)) zx zb d_M_drop_5 (by decide) ?_
  refine wn_cge_T (tgt := 19) zx zb d_M_drop_7 (by decide) (by omega) (by omega) (by omega) ?_
  refine lv_iconst (v := (nI 0)) zx zb d_M_drop_19 (by decide) ?_
  exact ct_zret zQ zx zb zr zk zP zD zS d_M_drop_20 rfl (by decide) (⟨rfl, rfl⟩)
set_option maxRecDepth 20000 in
theorem c_M_drop_f (lL : Launch) (g : Gt) (m0 : Nat) (m1 : Nat) (m2 : Nat) (m3 : Nat) (m4 : Nat) (m5 : Nat) (m6 : Nat) (m7 : Nat) (m8 : Nat) (m9 : Nat) (m10 : Nat) (n : Nat) (sy : Nat) (k : Nat → Nat) (o : Nat → Int32) (ke : Nat → Nat) (va : Nat → Int32) (fl : Nat → Nat) (sg : Nat → Nat) (cp : Nat → Nat) (fs : Nat → Nat) (la : Nat → Nat) (nx : Nat) (hd : Nat → Nat) (dn : Nat) (tg : Nat) (bh : Nat) (q : Nat) (hq : q < 66) (hz : hd q = 0) : Ct lL g y_M_drop (.code y_M_drop b_M_drop 2 (some .boolean)) 6 200 [.ref m0, .int (nI q)] (wM g m0 m1 m2 m3 m4 m5 m6 m7 m8 m9 m10 n sy k o ke va fl sg cp fs la nx hd dn tg bh) (exP (some (.int (nI 0))) (wM g m0 m1 m2 m3 m4 m5 m6 m7 m8 m9 m10 n sy k o ke va fl sg cp fs la nx hd dn tg bh)) := by
  refine Ct.ofW (by decide) (Nat.le_of_ble_eq_true rfl) ?_
  intro pX eX sX mX aX bX tX cX AX lsX HX oX QX zx zb zr zk zm zo zg zK zP zD zA zS zQ zl
  have zo : sX.vm.findClass R_M = some mX.cls := zo
  have zl : lv_has lsX 2 [(0, .ref m0), (1, .int (nI q))] := zl
  refine lv_iload_n zx zb d_M_drop_0 rfl (lv_at zl 1 rfl) ?_
  refine wn_ilt_F (tgt := 19) zx zb d_M_drop_1 (by decide) (by omega) (trivial) ?_
  refine lv_iload_n zx zb d_M_drop_4 rfl (lv_at zl 1 rfl) ?_
  refine lv_bipush (v := (nI 66)) zx zb d_M_drop_5 (by decide) ?_
  refine wn_cge_F (tgt := 19) zx zb d_M_drop_7 (by decide) (by omega) (by omega) (by omega) ?_
  refine lv_aload_n zx zb d_M_drop_10 rfl (lv_at zl 0 rfl) ?_
  refine wv_get zx zb zg hin_M rfl zo zK zP 0 rfl 12 (by decide) rfl fl_M_37 rfl d_M_drop_11 ?_
  refine lv_iload_n zx zb d_M_drop_14 rfl (lv_at zl 1 rfl) ?_
  refine wv_zaldN zx zb zK zP 10 rfl (by omega) (by decide) d_M_drop_15 ?_
  refine wn_ine_F (tgt := 21) zx zb d_M_drop_16 (by decide) (by omega) (by omega) ?_
  refine lv_iconst (v := (nI 0)) zx zb d_M_drop_19 (by decide) ?_
  exact ct_zret zQ zx zb zr zk zP zD zS d_M_drop_20 rfl (by decide) (⟨rfl, rfl⟩)
set_option maxRecDepth 20000 in
theorem c_M_drop_t (lL : Launch) (g : Gt) (m0 : Nat) (m1 : Nat) (m2 : Nat) (m3 : Nat) (m4 : Nat) (m5 : Nat) (m6 : Nat) (m7 : Nat) (m8 : Nat) (m9 : Nat) (m10 : Nat) (n : Nat) (sy : Nat) (k : Nat → Nat) (o : Nat → Int32) (ke : Nat → Nat) (va : Nat → Int32) (fl : Nat → Nat) (sg : Nat → Nat) (cp : Nat → Nat) (fs : Nat → Nat) (la : Nat → Nat) (nx : Nat) (hd : Nat → Nat) (dn : Nat) (tg : Nat) (bh : Nat) (q : Nat) (hq : q < 66) (hz : hd q = 1) : Ct lL g y_M_drop (.code y_M_drop b_M_drop 2 (some .boolean)) 6 200 [.ref m0, .int (nI q)] (wM g m0 m1 m2 m3 m4 m5 m6 m7 m8 m9 m10 n sy k o ke va fl sg cp fs la nx hd dn tg bh) (exP (some (.int (nI 1))) (wM g m0 m1 m2 m3 m4 m5 m6 m7 m8 m9 m10 n sy k o ke va fl sg cp fs la nx (va_up hd q 0) dn tg bh)) := by
  refine Ct.ofW (by decide) (Nat.le_of_ble_eq_true rfl) ?_
  intro pX eX sX mX aX bX tX cX AX lsX HX oX QX zx zb zr zk zm zo zg zK zP zD zA zS zQ zl
  have zo : sX.vm.findClass R_M = some mX.cls := zo
  have zl : lv_has lsX 2 [(0, .ref m0), (1, .int (nI q))] := zl
  refine lv_iload_n zx zb d_M_drop_0 rfl (lv_at zl 1 rfl) ?_
  refine wn_ilt_F (tgt := 19) zx zb d_M_drop_1 (by decide) (by omega) (trivial) ?_
  refine lv_iload_n zx zb d_M_drop_4 rfl (lv_at zl 1 rfl) ?_
  refine lv_bipush (v := (nI 66)) zx zb d_M_drop_5 (by decide) ?_
  refine wn_cge_F (tgt := 19) zx zb d_M_drop_7 (by decide) (by omega) (by omega) (by omega) ?_
  refine lv_aload_n zx zb d_M_drop_10 rfl (lv_at zl 0 rfl) ?_
  refine wv_get zx zb zg hin_M rfl zo zK zP 0 rfl 12 (by decide) rfl fl_M_37 rfl d_M_drop_11 ?_
  refine lv_iload_n zx zb d_M_drop_14 rfl (lv_at zl 1 rfl) ?_
  refine wv_zaldN zx zb zK zP 10 rfl (by omega) (by decide) d_M_drop_15 ?_
  refine wn_ine_T (tgt := 21) zx zb d_M_drop_16 (by decide) (by omega) (by omega) ?_
  refine lv_aload_n zx zb d_M_drop_21 rfl (lv_at zl 0 rfl) ?_
  refine wv_get zx zb zg hin_M rfl zo zK zP 0 rfl 12 (by decide) rfl fl_M_37 rfl d_M_drop_22 ?_
  refine lv_iload_n zx zb d_M_drop_25 rfl (lv_at zl 1 rfl) ?_
  refine lv_iconst (v := (nI 0)) zx zb d_M_drop_26 (by decide) ?_
  refine wv_zastN zx zb zK zP zD zS 10 rfl (by omega) (by decide) (by decide) d_M_drop_27 (fun HX oX zP zD zS => ?_)
  have zP : va_P g.1 cls (wM g m0 m1 m2 m3 m4 m5 m6 m7 m8 m9 m10 n sy k o ke va fl sg cp fs la nx (va_up hd q 0) dn tg bh) HX := zP
  have zD : va_D AX (wM g m0 m1 m2 m3 m4 m5 m6 m7 m8 m9 m10 n sy k o ke va fl sg cp fs la nx (va_up hd q 0) dn tg bh) := zD
  refine lv_iconst (v := (nI 1)) zx zb d_M_drop_28 (by decide) ?_
  exact ct_zret zQ zx zb zr zk zP zD zS d_M_drop_29 rfl (by decide) (⟨rfl, rfl⟩)
set_option maxRecDepth 20000 in
theorem c_M_ans_n (lL : Launch) (g : Gt) (m0 : Nat) (m1 : Nat) (m2 : Nat) (m3 : Nat) (m4 : Nat) (m5 : Nat) (m6 : Nat) (m7 : Nat) (m8 : Nat) (m9 : Nat) (m10 : Nat) (n : Nat) (sy : Nat) (k : Nat → Nat) (o : Nat → Int32) (ke : Nat → Nat) (va : Nat → Int32) (fl : Nat → Nat) (sg : Nat → Nat) (cp : Nat → Nat) (fs : Nat → Nat) (la : Nat → Nat) (nx : Nat) (hd : Nat → Nat) (dn : Nat) (tg : Nat) (bh : Nat) (j : Int32) (ps : Int32) (hj : j < 0) : Ct lL g y_M_answer (.code y_M_answer b_M_answer 4 (some .int)) 1 21 [.ref m0, .int j, .int ps] (wM g m0 m1 m2 m3 m4 m5 m6 m7 m8 m9 m10 n sy k o ke va fl sg cp fs la nx hd dn tg bh) (exP (some (.int (-1))) (wM g m0 m1 m2 m3 m4 m5 m6 m7 m8 m9 m10 n sy k o ke va fl sg cp fs la nx hd dn tg bh)) := by
  refine Ct.ofW (by decide) (Nat.le_of_ble_eq_true rfl) ?_
  intro pX eX sX mX aX bX tX cX AX lsX HX oX QX zx zb zr zk zm zo zg zK zP zD zA zS zQ zl
  have zo : sX.vm.findClass R_M = some mX.cls := zo
  have zl : lv_has lsX 4 [(0, .ref m0), (1, .int j), (2, .int ps)] := zl
  refine lv_aload_n zx zb d_M_answer_0 rfl (lv_at zl 0 rfl) ?_
  refine lv_iload_n zx zb d_M_answer_1 rfl (lv_at zl 1 rfl) ?_
  refine ct_V (ws' := wM g m0 m1 m2 m3 m4 m5 m6 m7 m8 m9 m10 n sy k o ke va fl sg cp fs la nx hd dn tg bh) (rest := []) (st1 := [.int (nI 0)]) zx zb zm zo zg zK zP zD zS zA zl.1 (c_M_fin_n lL g m0 m1 m2 m3 m4 m5 m6 m7 m8 m9 m10 n sy k o ke va fl sg cp fs la nx hd dn tg bh j hj) ok_M_finished ov_M_finished ml_M_87 (by decide) 0 7 rfl rfl rfl [0, 1, 2, 3, 4, 5, 6, 7, 8, 9, 10] [] 11 (by decide) rfl rfl rfl rfl (by decide) rfl rfl rfl (Nat.le_of_ble_eq_true rfl) d_M_answer_2 (fun HX oX zP zD zS => ?_)
  refine wn_ieq_T (tgt := 12) zx zb d_M_answer_5 (by decide) (by omega) (by omega) ?_
  refine lv_iconst (v := (-1)) zx zb d_M_answer_12 (by decide) ?_
  exact ct_iret zQ zx zb zr zk zP zD zS d_M_answer_13 rfl (⟨rfl, rfl⟩)
set_option maxRecDepth 20000 in
theorem c_M_ans_g (lL : Launch) (g : Gt) (m0 : Nat) (m1 : Nat) (m2 : Nat) (m3 : Nat) (m4 : Nat) (m5 : Nat) (m6 : Nat) (m7 : Nat) (m8 : Nat) (m9 : Nat) (m10 : Nat) (n : Nat) (sy : Nat) (k : Nat → Nat) (o : Nat → Int32) (ke : Nat → Nat) (va : Nat → Int32) (fl : Nat → Nat) (sg : Nat → Nat) (cp : Nat → Nat) (fs : Nat → Nat) (la : Nat → Nat) (nx : Nat) (hd : Nat → Nat) (dn : Nat) (tg : Nat) (bh : Nat) (j : Nat) (ps : Int32) (hj : 3 ≤ j) (hj2 : j < 2147483648) : Ct lL g y_M_answer (.code y_M_answer b_M_answer 4 (some .int)) 1 21 [.ref m0, .int (nI j), .int ps] (wM g m0 m1 m2 m3 m4 m5 m6 m7 m8 m9 m10 n sy k o ke va fl sg cp fs la nx hd dn tg bh) (exP (some (.int (-1))) (wM g m0 m1 m2 m3 m4 m5 m6 m7 m8 m9 m10 n sy k o ke va fl sg cp fs la nx hd dn tg bh)) := by
  refine Ct.ofW (by decide) (Nat.le_of_ble_eq_true rfl) ?_
  intro pX eX sX mX aX bX tX cX AX lsX HX oX QX zx zb zr zk zm zo zg zK zP zD zA zS zQ zl
  have zo : sX.vm.findClass R_M = some mX.cls := zo
  have zl : lv_has lsX 4 [(0, .ref m0), (1, .int (nI j)), (2, .int ps)] := zl
  refine lv_aload_n zx zb d_M_answer_0 rfl (lv_at zl 0 rfl) ?_
  refine lv_iload_n zx zb d_M_answer_1 rfl (lv_at zl 1 rfl) ?_
  refine ct_V (ws' := wM g m0 m1 m2 m3 m4 m5 m6 m7 m8 m9 m10 n sy k o ke va fl sg cp fs la nx hd dn tg bh) (rest := []) (st1 := [.int (nI 0)]) zx zb zm zo zg zK zP zD zS zA zl.1 (c_M_fin_g lL g m0 m1 m2 m3 m4 m5 m6 m7 m8 m9 m10 n sy k o ke va fl sg cp fs la nx hd dn tg bh j (by omega) (by omega)) ok_M_finished ov_M_finished ml_M_87 (by decide) 0 7 rfl rfl rfl [0, 1, 2, 3, 4, 5, 6, 7, 8, 9, 10] [] 11 (by decide) rfl rfl rfl rfl (by decide) rfl rfl rfl (Nat.le_of_ble_eq_true rfl) d_M_answer_2 (fun HX oX zP zD zS => ?_)
  refine wn_ieq_T (tgt := 12) zx zb d_M_answer_5 (by decide) (by omega) (by omega) ?_
  refine lv_iconst (v := (-1)) zx zb d_M_answer_12 (by decide) ?_
  exact ct_iret zQ zx zb zr zk zP zD zS d_M_answer_13 rfl (⟨rfl, rfl⟩)
set_option maxRecDepth 20000 in
theorem c_M_ans_f (lL : Launch) (g : Gt) (m0 : Nat) (m1 : Nat) (m2 : Nat) (m3 : Nat) (m4 : Nat) (m5 : Nat) (m6 : Nat) (m7 : Nat) (m8 : Nat) (m9 : Nat) (m10 : Nat) (n : Nat) (sy : Nat) (k : Nat → Nat) (o : Nat → Int32) (ke : Nat → Nat) (va : Nat → Int32) (fl : Nat → Nat) (sg : Nat → Nat) (cp : Nat → Nat) (fs : Nat → Nat) (la : Nat → Nat) (nx : Nat) (hd : Nat → Nat) (dn : Nat) (tg : Nat) (bh : Nat) (j : Nat) (ps : Int32) (hj : j < 3) (hfj : sg j ≠ 2) (hfj2 : sg j ≤ 2) : Ct lL g y_M_answer (.code y_M_answer b_M_answer 4 (some .int)) 1 21 [.ref m0, .int (nI j), .int ps] (wM g m0 m1 m2 m3 m4 m5 m6 m7 m8 m9 m10 n sy k o ke va fl sg cp fs la nx hd dn tg bh) (exP (some (.int (-1))) (wM g m0 m1 m2 m3 m4 m5 m6 m7 m8 m9 m10 n sy k o ke va fl sg cp fs la nx hd dn tg bh)) := by
  refine Ct.ofW (by decide) (Nat.le_of_ble_eq_true rfl) ?_
  intro pX eX sX mX aX bX tX cX AX lsX HX oX QX zx zb zr zk zm zo zg zK zP zD zA zS zQ zl
  have zo : sX.vm.findClass R_M = some mX.cls := zo
  have zl : lv_has lsX 4 [(0, .ref m0), (1, .int (nI j)), (2, .int ps)] := zl
  refine lv_aload_n zx zb d_M_answer_0 rfl (lv_at zl 0 rfl) ?_
  refine lv_iload_n zx zb d_M_answer_1 rfl (lv_at zl 1 rfl) ?_
  refine ct_V (ws' := wM g m0 m1 m2 m3 m4 m5 m6 m7 m8 m9 m10 n sy k o ke va fl sg cp fs la nx hd dn tg bh) (rest := []) (st1 := [.int (nI 0)]) zx zb zm zo zg zK zP zD zS zA zl.1 (c_M_fin_f lL g m0 m1 m2 m3 m4 m5 m6 m7 m8 m9 m10 n sy k o ke va fl sg cp fs la nx hd dn tg bh j (by omega) (by omega) (by omega)) ok_M_finished ov_M_finished ml_M_87 (by decide) 0 7 rfl rfl rfl [0, 1, 2, 3, 4, 5, 6, 7, 8, 9, 10] [] 11 (by decide) rfl rfl rfl rfl (by decide) rfl rfl rfl (Nat.le_of_ble_eq_true rfl) d_M_answer_2 (fun HX oX zP zD zS => ?_)
  refine wn_ieq_T (tgt := 12) zx zb d_M_answer_5 (by decide) (by omega) (by omega) ?_
  refine lv_iconst (v := (-1)) zx zb d_M_answer_12 (by decide) ?_
  exact ct_iret zQ zx zb zr zk zP zD zS d_M_answer_13 rfl (⟨rfl, rfl⟩)
set_option maxRecDepth 20000 in
theorem c_M_ans_pn (lL : Launch) (g : Gt) (m0 : Nat) (m1 : Nat) (m2 : Nat) (m3 : Nat) (m4 : Nat) (m5 : Nat) (m6 : Nat) (m7 : Nat) (m8 : Nat) (m9 : Nat) (m10 : Nat) (n : Nat) (sy : Nat) (k : Nat → Nat) (o : Nat → Int32) (ke : Nat → Nat) (va : Nat → Int32) (fl : Nat → Nat) (sg : Nat → Nat) (cp : Nat → Nat) (fs : Nat → Nat) (la : Nat → Nat) (nx : Nat) (hd : Nat → Nat) (dn : Nat) (tg : Nat) (bh : Nat) (j : Nat) (ps : Int32) (hj : j < 3) (hfj : sg j = 2) (hps : ps < 0) : Ct lL g y_M_answer (.code y_M_answer b_M_answer 4 (some .int)) 1 21 [.ref m0, .int (nI j), .int ps] (wM g m0 m1 m2 m3 m4 m5 m6 m7 m8 m9 m10 n sy k o ke va fl sg cp fs la nx hd dn tg bh) (exP (some (.int (-1))) (wM g m0 m1 m2 m3 m4 m5 m6 m7 m8 m9 m10 n sy k o ke va fl sg cp fs la nx hd dn tg bh)) := by
  refine Ct.ofW (by decide) (Nat.le_of_ble_eq_true rfl) ?_
  intro pX eX sX mX aX bX tX cX AX lsX HX oX QX zx zb zr zk zm zo zg zK zP zD zA zS zQ zl
  have zo : sX.vm.findClass R_M = some mX.cls := zo
  have zl : lv_has lsX 4 [(0, .ref m0), (1, .int (nI j)), (2, .int ps)] := zl
  refine lv_aload_n zx zb d_M_answer_0 rfl (lv_at zl 0 rfl) ?_
  refine lv_iload_n zx zb d_M_answer_1 rfl (lv_at zl 1 rfl) ?_
  refine ct_V (ws' := wM g m0 m1 m2 m3 m4 m5 m6 m7 m8 m9 m10 n sy k o ke va fl sg cp fs la nx hd dn tg bh) (rest := []) (st1 := [.int (nI 1)]) zx zb zm zo zg zK zP zD zS zA zl.1 (c_M_fin_t lL g m0 m1 m2 m3 m4 m5 m6 m7 m8 m9 m10 n sy k o ke va fl sg cp fs la nx hd dn tg bh j (by omega) (by omega)) ok_M_finished ov_M_finished ml_M_87 (by decide) 0 7 rfl rfl rfl [0, 1, 2, 3, 4, 5, 6, 7, 8, 9, 10] [] 11 (by decide) rfl rfl rfl rfl (by decide) rfl rfl rfl (Nat.le_of_ble_eq_true rfl) d_M_answer_2 (fun HX oX zP zD zS => ?_)
  refine wn_ieq_F (tgt := 12) zx zb d_M_answer_5 (by decide) (by omega) (by omega) ?_
  refine lv_iload_n zx zb d_M_answer_8 rfl (lv_at zl 2 rfl) ?_
  refine lv_if_ge (tgt := 14) zx zb d_M_answer_9 (by decide) (fun h => absurd h (i32_nle hps)) (fun _ => ?_)
  refine lv_iconst (v := (-1)) zx zb d_M_answer_12 (by decide) ?_
  exact ct_iret zQ zx zb zr zk zP zD zS d_M_answer_13 rfl (⟨rfl, rfl⟩)
set_option maxRecDepth 20000 in
theorem c_M_ans_e (lL : Launch) (g : Gt) (m0 : Nat) (m1 : Nat) (m2 : Nat) (m3 : Nat) (m4 : Nat) (m5 : Nat) (m6 : Nat) (m7 : Nat) (m8 : Nat) (m9 : Nat) (m10 : Nat) (n : Nat) (sy : Nat) (k : Nat → Nat) (o : Nat → Int32) (ke : Nat → Nat) (va : Nat → Int32) (fl : Nat → Nat) (sg : Nat → Nat) (cp : Nat → Nat) (fs : Nat → Nat) (la : Nat → Nat) (nx : Nat) (hd : Nat → Nat) (dn : Nat) (tg : Nat) (bh : Nat) (j : Nat) (ps : Nat) (hj : j < 3) (hfj : sg j = 2) (hps : ps < 2147483648) (hla : la j ≤ 520) (hfs : fs j ≤ 520) (hee : ps < la j) : Ct lL g y_M_answer (.code y_M_answer b_M_answer 4 (some .int)) 1 21 [.ref m0, .int (nI j), .int (nI ps)] (wM g m0 m1 m2 m3 m4 m5 m6 m7 m8 m9 m10 n sy k o ke va fl sg cp fs la nx hd dn tg bh) (exP (some (.int (-4))) (wM g m0 m1 m2 m3 m4 m5 m6 m7 m8 m9 m10 n sy k o ke va fl sg cp fs la nx hd dn tg bh)) := by
  refine Ct.ofW (by decide) (Nat.le_of_ble_eq_true rfl) ?_
  intro pX eX sX mX aX bX tX cX AX lsX HX oX QX zx zb zr zk zm zo zg zK zP zD zA zS zQ zl
  have zo : sX.vm.findClass R_M = some mX.cls := zo
  have zl : lv_has lsX 4 [(0, .ref m0), (1, .int (nI j)), (2, .int (nI ps))] := zl
  refine lv_aload_n zx zb d_M_answer_0 rfl (lv_at zl 0 rfl) ?_
  refine lv_iload_n zx zb d_M_answer_1 rfl (lv_at zl 1 rfl) ?_
  refine ct_V (ws' := wM g m0 m1 m2 m3 m4 m5 m6 m7 m8 m9 m10 n sy k o ke va fl sg cp fs la nx hd dn tg bh) (rest := []) (st1 := [.int (nI 1)]) zx zb zm zo zg zK zP zD zS zA zl.1 (c_M_fin_t lL g m0 m1 m2 m3 m4 m5 m6 m7 m8 m9 m10 n sy k o ke va fl sg cp fs la nx hd dn tg bh j (by omega) (by omega)) ok_M_finished ov_M_finished ml_M_87 (by decide) 0 7 rfl rfl rfl [0, 1, 2, 3, 4, 5, 6, 7, 8, 9, 10] [] 11 (by decide) rfl rfl rfl rfl (by decide) rfl rfl rfl (Nat.le_of_ble_eq_true rfl) d_M_answer_2 (fun HX oX zP zD zS => ?_)
  refine wn_ieq_F (tgt := 12) zx zb d_M_answer_5 (by decide) (by omega) (by omega) ?_
  refine lv_iload_n zx zb d_M_answer_8 rfl (lv_at zl 2 rfl) ?_
  refine wn_ige_T (tgt := 14) zx zb d_M_answer_9 (by decide) (by omega) (trivial) ?_
  refine lv_iload_n zx zb d_M_answer_14 rfl (lv_at zl 2 rfl) ?_
  refine lv_aload_n zx zb d_M_answer_15 rfl (lv_at zl 0 rfl) ?_
  refine wv_get zx zb zg hin_M rfl zo zK zP 0 rfl 10 (by decide) rfl fl_M_34 rfl d_M_answer_16 ?_
  refine lv_iload_n zx zb d_M_answer_19 rfl (lv_at zl 1 rfl) ?_
  refine wv_ialdN zx zb zK zP 9 rfl (by omega) (by decide) d_M_answer_20 ?_
  refine wn_cge_F (tgt := 27) zx zb d_M_answer_21 (by decide) (by omega) (by omega) (by omega) ?_
  refine lv_bipush (v := (-4)) zx zb d_M_answer_24 (by decide) ?_
  exact ct_iret zQ zx zb zr zk zP zD zS d_M_answer_26 rfl (⟨rfl, rfl⟩)
set_option maxRecDepth 20000 in
theorem c_M_ans_m (lL : Launch) (g : Gt) (m0 : Nat) (m1 : Nat) (m2 : Nat) (m3 : Nat) (m4 : Nat) (m5 : Nat) (m6 : Nat) (m7 : Nat) (m8 : Nat) (m9 : Nat) (m10 : Nat) (n : Nat) (sy : Nat) (k : Nat → Nat) (o : Nat → Int32) (ke : Nat → Nat) (va : Nat → Int32) (fl : Nat → Nat) (sg : Nat → Nat) (cp : Nat → Nat) (fs : Nat → Nat) (la : Nat → Nat) (nx : Nat) (hd : Nat → Nat) (dn : Nat) (tg : Nat) (bh : Nat) (j : Nat) (ps : Nat) (G : Nat) (hj : j < 3) (hfj : sg j = 2) (hps : ps < 2147483648) (hla : la j ≤ 520) (hfs : fs j ≤ 520) (hee : la j ≤ ps) (hfp : fs j < ps) (hG0 : fs j / 8 ≤ G) (hG5 : G < 66) (hG1 : ∀ s, fs j / 8 ≤ s → s < G → hd s = 1) (hG2 : hd G = 0) (hG3 : 8 * G < ps) : Ct lL g y_M_answer (.code y_M_answer b_M_answer 4 (some .int)) 1 21 [.ref m0, .int (nI j), .int (nI ps)] (wM g m0 m1 m2 m3 m4 m5 m6 m7 m8 m9 m10 n sy k o ke va fl sg cp fs la nx hd dn tg bh) (exP (some (.int (-6))) (wM g m0 m1 m2 m3 m4 m5 m6 m7 m8 m9 m10 n sy k o ke va fl sg cp fs la nx hd dn tg bh)) := by
  refine Ct.ofW (by decide) (Nat.le_of_ble_eq_true rfl) ?_
  intro pX eX sX mX aX bX tX cX AX lsX HX oX QX zx zb zr zk zm zo zg zK zP zD zA zS zQ zl
  have zo : sX.vm.findClass R_M = some mX.cls := zo
  have zl : lv_has lsX 4 [(0, .ref m0), (1, .int (nI j)), (2, .int (nI ps))] := zl
  refine lv_aload_n zx zb d_M_answer_0 rfl (lv_at zl 0 rfl) ?_
  refine lv_iload_n zx zb d_M_answer_1 rfl (lv_at zl 1 rfl) ?_
  refine ct_V (ws' := wM g m0 m1 m2 m3 m4 m5 m6 m7 m8 m9 m10 n sy k o ke va fl sg cp fs la nx hd dn tg bh) (rest := []) (st1 := [.int (nI 1)]) zx zb zm zo zg zK zP zD zS zA zl.1 (c_M_fin_t lL g m0 m1 m2 m3 m4 m5 m6 m7 m8 m9 m10 n sy k o ke va fl sg cp fs la nx hd dn tg bh j (by omega) (by omega)) ok_M_finished ov_M_finished ml_M_87 (by decide) 0 7 rfl rfl rfl [0, 1, 2, 3, 4, 5, 6, 7, 8, 9, 10] [] 11 (by decide) rfl rfl rfl rfl (by decide) rfl rfl rfl (Nat.le_of_ble_eq_true rfl) d_M_answer_2 (fun HX oX zP zD zS => ?_)
  refine wn_ieq_F (tgt := 12) zx zb d_M_answer_5 (by decide) (by omega) (by omega) ?_
  refine lv_iload_n zx zb d_M_answer_8 rfl (lv_at zl 2 rfl) ?_
  refine wn_ige_T (tgt := 14) zx zb d_M_answer_9 (by decide) (by omega) (trivial) ?_
  refine lv_iload_n zx zb d_M_answer_14 rfl (lv_at zl 2 rfl) ?_
  refine lv_aload_n zx zb d_M_answer_15 rfl (lv_at zl 0 rfl) ?_
  refine wv_get zx zb zg hin_M rfl zo zK zP 0 rfl 10 (by decide) rfl fl_M_34 rfl d_M_answer_16 ?_
  refine lv_iload_n zx zb d_M_answer_19 rfl (lv_at zl 1 rfl) ?_
  refine wv_ialdN zx zb zK zP 9 rfl (by omega) (by decide) d_M_answer_20 ?_
  refine wn_cge_T (tgt := 27) zx zb d_M_answer_21 (by decide) (by omega) (by omega) (by omega) ?_
  refine lv_aload_n zx zb d_M_answer_27 rfl (lv_at zl 0 rfl) ?_
  refine wv_get zx zb zg hin_M rfl zo zK zP 0 rfl 9 (by decide) rfl fl_M_31 rfl d_M_answer_28 ?_
  refine lv_iload_n zx zb d_M_answer_31 rfl (lv_at zl 1 rfl) ?_
  refine wv_ialdN zx zb zK zP 8 rfl (by omega) (by decide) d_M_answer_32 ?_
  refine lv_bipush (v := (nI 8)) zx zb d_M_answer_33 (by decide) ?_
  refine wv_idiv zx zb d_M_answer_35 (by omega) (by omega) (by omega) ?_
  refine lv_istore_n (lv' := [(3, .int (nI ((fs j) / 8))), (0, .ref m0), (1, .int (nI j)), (2, .int (nI ps))]) zx zb d_M_answer_36 rfl zl (by decide) rfl (fun lsX zl => ?_)
  have loop37 : ∀ (kk : Nat) (s : Nat), kk = G - s → (fs j / 8 ≤ s) → (s ≤ G) → ∀ (lsX : Array Slot) (HX : Heap) (oX : List Loc), lv_has lsX 4 [(0, .ref m0), (1, .int (nI j)), (2, .int (nI ps)), (3, .int (nI s))] → va_P g.1 cls (wM g m0 m1 m2 m3 m4 m5 m6 m7 m8 m9 m10 n sy k o ke va fl sg cp fs la nx hd dn tg bh) HX → va_D AX (wM g m0 m1 m2 m3 m4 m5 m6 m7 m8 m9 m10 n sy k o ke va fl sg cp fs la nx hd dn tg bh) → va_S AX sX.heap HX oX → W pX lL eX (rmL 1 21) sX mX aX bX tX cX HX oX 0 0 QX (F0 mX 37 lsX []) := by
    intro kk
    induction kk using Nat.strongRecOn with
    | ind kk ih_loop37 =>
      intro s hkk hs1 hs2 lsX HX oX zl zP zD zS
      rcases Nat.lt_or_ge s G with h3 | h3
      · have hds := hG1 s hs1 h3
        refine lv_iload_n zx zb d_M_answer_37 rfl (lv_at zl 3 rfl) ?_
        refine lv_bipush (v := (nI 66)) zx zb d_M_answer_38 (by decide) ?_
        refine wn_cge_F (tgt := 79) zx zb d_M_answer_40 (by decide) (by omega) (by omega) (by omega) ?_
        refine lv_bipush (v := (nI 8)) zx zb d_M_answer_43 (by decide) ?_
        refine lv_iload_n zx zb d_M_answer_45 rfl (lv_at zl 3 rfl) ?_
        refine wv_imul zx zb d_M_answer_46 (pk_mul _ _) ?_
        refine lv_iload_n zx zb d_M_answer_47 rfl (lv_at zl 2 rfl) ?_
        refine wn_cge_F (tgt := 79) zx zb d_M_answer_48 (by decide) (by omega) (by omega) (by omega) ?_
        refine lv_iload_n zx zb d_M_answer_51 rfl (lv_at zl 2 rfl) ?_
        refine lv_aload_n zx zb d_M_answer_52 rfl (lv_at zl 0 rfl) ?_
        refine wv_get zx zb zg hin_M rfl zo zK zP 0 rfl 9 (by decide) rfl fl_M_31 rfl d_M_answer_53 ?_
        refine lv_iload_n zx zb d_M_answer_56 rfl (lv_at zl 1 rfl) ?_
        refine wv_ialdN zx zb zK zP 8 rfl (by omega) (by decide) d_M_answer_57 ?_
        refine wn_cle_F (tgt := 73) zx zb d_M_answer_58 (by decide) (by omega) (by omega) (by omega) ?_
        refine lv_aload_n zx zb d_M_answer_61 rfl (lv_at zl 0 rfl) ?_
        refine wv_get zx zb zg hin_M rfl zo zK zP 0 rfl 12 (by decide) rfl fl_M_37 rfl d_M_answer_62 ?_
        refine lv_iload_n zx zb d_M_answer_65 rfl (lv_at zl 3 rfl) ?_
        refine wv_zaldN zx zb zK zP 10 rfl (by omega) (by decide) d_M_answer_66 ?_
        refine wn_ine_T (tgt := 73) zx zb d_M_answer_67 (by decide) (by omega) (by omega) ?_
        refine lv_iinc (k := 3) (lv' := [(3, .int (nI (s + 1))), (0, .ref m0), (1, .int (nI j)), (2, .int (nI ps))]) zx zb d_M_answer_73 zl rfl (ni_inc _) (by decide) rfl (fun lsX zl => ?_)
        refine lv_goto (tgt := 37) zx zb d_M_answer_76 (by decide) ?_
        exact ih_loop37 _ (by omega) (s + 1) rfl (by omega) (by omega) lsX HX oX (lv_sub zl [1, 2, 3, 0] rfl) zP zD zS
      · have e3 : s = G := by omega
        subst e3
        refine lv_iload_n zx zb d_M_answer_37 rfl (lv_at zl 3 rfl) ?_
        refine lv_bipush (v := (nI 66)) zx zb d_M_answer_38 (by decide) ?_
        refine wn_cge_F (tgt := 79) zx zb d_M_answer_40 (by decide) (by omega) (by omega) (by omega) ?_
        refine lv_bipush (v := (nI 8)) zx zb d_M_answer_43 (by decide) ?_
        refine lv_iload_n zx zb d_M_answer_45 rfl (lv_at zl 3 rfl) ?_
        refine wv_imul zx zb d_M_answer_46 (pk_mul _ _) ?_
        refine lv_iload_n zx zb d_M_answer_47 rfl (lv_at zl 2 rfl) ?_
        refine wn_cge_F (tgt := 79) zx zb d_M_answer_48 (by decide) (by omega) (by omega) (by omega) ?_
        refine lv_iload_n zx zb d_M_answer_51 rfl (lv_at zl 2 rfl) ?_
        refine lv_aload_n zx zb d_M_answer_52 rfl (lv_at zl 0 rfl) ?_
        refine wv_get zx zb zg hin_M rfl zo zK zP 0 rfl 9 (by decide) rfl fl_M_31 rfl d_M_answer_53 ?_
        refine lv_iload_n zx zb d_M_answer_56 rfl (lv_at zl 1 rfl) ?_
        refine wv_ialdN zx zb zK zP 8 rfl (by omega) (by decide) d_M_answer_57 ?_
        refine wn_cle_F (tgt := 73) zx zb d_M_answer_58 (by decide) (by omega) (by omega) (by omega) ?_
        refine lv_aload_n zx zb d_M_answer_61 rfl (lv_at zl 0 rfl) ?_
        refine wv_get zx zb zg hin_M rfl zo zK zP 0 rfl 12 (by decide) rfl fl_M_37 rfl d_M_answer_62 ?_
        refine lv_iload_n zx zb d_M_answer_65 rfl (lv_at zl 3 rfl) ?_
        refine wv_zaldN zx zb zK zP 10 rfl (by omega) (by decide) d_M_answer_66 ?_
        refine wn_ine_F (tgt := 73) zx zb d_M_answer_67 (by decide) (by omega) (by omega) ?_
        refine lv_bipush (v := (-6)) zx zb d_M_answer_70 (by decide) ?_
        exact ct_iret zQ zx zb zr zk zP zD zS d_M_answer_72 rfl (⟨rfl, rfl⟩)
  exact loop37 _ ((fs j) / 8) rfl (Nat.le_refl _) hG0 lsX HX oX (lv_sub zl [1, 2, 3, 0] rfl) zP zD zS
set_option maxRecDepth 20000 in
theorem c_M_ans_c (lL : Launch) (g : Gt) (m0 : Nat) (m1 : Nat) (m2 : Nat) (m3 : Nat) (m4 : Nat) (m5 : Nat) (m6 : Nat) (m7 : Nat) (m8 : Nat) (m9 : Nat) (m10 : Nat) (n : Nat) (sy : Nat) (k : Nat → Nat) (o : Nat → Int32) (ke : Nat → Nat) (va : Nat → Int32) (fl : Nat → Nat) (sg : Nat → Nat) (cp : Nat → Nat) (fs : Nat → Nat) (la : Nat → Nat) (nx : Nat) (hd : Nat → Nat) (dn : Nat) (tg : Nat) (bh : Nat) (j : Nat) (ps : Nat) (G : Nat) (hj : j < 3) (hfj : sg j = 2) (hps : ps < 2147483648) (hla : la j ≤ 520) (hfs : fs j ≤ 520) (hee : la j ≤ ps) (hfp : fs j < ps) (hG0 : fs j / 8 ≤ G) (hG5 : G < 66) (hG1 : ∀ s, fs j / 8 ≤ s → s < G → hd s = 1) (hG3 : ps ≤ 8 * G) (hk4 : k (ps - 1) < 4) (hkc : k (ps - 1) = 1) : Ct lL g y_M_answer (.code y_M_answer b_M_answer 4 (some .int)) 1 21 [.ref m0, .int (nI j), .int (nI ps)] (wM g m0 m1 m2 m3 m4 m5 m6 m7 m8 m9 m10 n sy k o ke va fl sg cp fs la nx hd dn tg bh) (exP (some (.int (nI 0))) (wM g m0 m1 m2 m3 m4 m5 m6 m7 m8 m9 m10 n sy k o ke va fl sg cp fs la nx hd dn tg bh)) := by
  refine Ct.ofW (by decide) (Nat.le_of_ble_eq_true rfl) ?_
  intro pX eX sX mX aX bX tX cX AX lsX HX oX QX zx zb zr zk zm zo zg zK zP zD zA zS zQ zl
  have zo : sX.vm.findClass R_M = some mX.cls := zo
  have zl : lv_has lsX 4 [(0, .ref m0), (1, .int (nI j)), (2, .int (nI ps))] := zl
  refine lv_aload_n zx zb d_M_answer_0 rfl (lv_at zl 0 rfl) ?_
  refine lv_iload_n zx zb d_M_answer_1 rfl (lv_at zl 1 rfl) ?_
  refine ct_V (ws' := wM g m0 m1 m2 m3 m4 m5 m6 m7 m8 m9 m10 n sy k o ke va fl sg cp fs la nx hd dn tg bh) (rest := []) (st1 := [.int (nI 1)]) zx zb zm zo zg zK zP zD zS zA zl.1 (c_M_fin_t lL g m0 m1 m2 m3 m4 m5 m6 m7 m8 m9 m10 n sy k o ke va fl sg cp fs la nx hd dn tg bh j (by omega) (by omega)) ok_M_finished ov_M_finished ml_M_87 (by decide) 0 7 rfl rfl rfl [0, 1, 2, 3, 4, 5, 6, 7, 8, 9, 10] [] 11 (by decide) rfl rfl rfl rfl (by decide) rfl rfl rfl (Nat.le_of_ble_eq_true rfl) d_M_answer_2 (fun HX oX zP zD zS => ?_)
  refine wn_ieq_F (tgt := 12) zx zb d_M_answer_5 (by decide) (by omega) (by omega) ?_
  refine lv_iload_n zx zb d_M_answer_8 rfl (lv_at zl 2 rfl) ?_
  refine wn_ige_T (tgt := 14) zx zb d_M_answer_9 (by decide) (by omega) (trivial) ?_
  refine lv_iload_n zx zb d_M_answer_14 rfl (lv_at zl 2 rfl) ?_
  refine lv_aload_n zx zb d_M_answer_15 rfl (lv_at zl 0 rfl) ?_
  refine wv_get zx zb zg hin_M rfl zo zK zP 0 rfl 10 (by decide) rfl fl_M_34 rfl d_M_answer_16 ?_
  refine lv_iload_n zx zb d_M_answer_19 rfl (lv_at zl 1 rfl) ?_
  refine wv_ialdN zx zb zK zP 9 rfl (by omega) (by decide) d_M_answer_20 ?_
  refine wn_cge_T (tgt := 27) zx zb d_M_answer_21 (by decide) (by omega) (by omega) (by omega) ?_
  refine lv_aload_n zx zb d_M_answer_27 rfl (lv_at zl 0 rfl) ?_
  refine wv_get zx zb zg hin_M rfl zo zK zP 0 rfl 9 (by decide) rfl fl_M_31 rfl d_M_answer_28 ?_
  refine lv_iload_n zx zb d_M_answer_31 rfl (lv_at zl 1 rfl) ?_
  refine wv_ialdN zx zb zK zP 8 rfl (by omega) (by decide) d_M_answer_32 ?_
  refine lv_bipush (v := (nI 8)) zx zb d_M_answer_33 (by decide) ?_
  refine wv_idiv zx zb d_M_answer_35 (by omega) (by omega) (by omega) ?_
  refine lv_istore_n (lv' := [(3, .int (nI ((fs j) / 8))), (0, .ref m0), (1, .int (nI j)), (2, .int (nI ps))]) zx zb d_M_answer_36 rfl zl (by decide) rfl (fun lsX zl => ?_)
  have loop37 : ∀ (kk : Nat) (s : Nat), kk = 66 - s → (fs j / 8 ≤ s) → (s ≤ G) → ∀ (lsX : Array Slot) (HX : Heap) (oX : List Loc), lv_has lsX 4 [(0, .ref m0), (1, .int (nI j)), (2, .int (nI ps)), (3, .int (nI s))] → va_P g.1 cls (wM g m0 m1 m2 m3 m4 m5 m6 m7 m8 m9 m10 n sy k o ke va fl sg cp fs la nx hd dn tg bh) HX → va_D AX (wM g m0 m1 m2 m3 m4 m5 m6 m7 m8 m9 m10 n sy k o ke va fl sg cp fs la nx hd dn tg bh) → va_S AX sX.heap HX oX → W pX lL eX (rmL 1 21) sX mX aX bX tX cX HX oX 0 0 QX (F0 mX 37 lsX []) := by
    intro kk
    induction kk using Nat.strongRecOn with
    | ind kk ih_loop37 =>
      intro s hkk hs1 hs2 lsX HX oX zl zP zD zS
      rcases Nat.lt_or_ge (8 * s) ps with h3 | h3
      · have hds := hG1 s hs1 (by omega)
        refine lv_iload_n zx zb d_M_answer_37 rfl (lv_at zl 3 rfl) ?_
        refine lv_bipush (v := (nI 66)) zx zb d_M_answer_38 (by decide) ?_
        refine wn_cge_F (tgt := 79) zx zb d_M_answer_40 (by decide) (by omega) (by omega) (by omega) ?_
        refine lv_bipush (v := (nI 8)) zx zb d_M_answer_43 (by decide) ?_
        refine lv_iload_n zx zb d_M_answer_45 rfl (lv_at zl 3 rfl) ?_
        refine wv_imul zx zb d_M_answer_46 (pk_mul _ _) ?_
        refine lv_iload_n zx zb d_M_answer_47 rfl (lv_at zl 2 rfl) ?_
        refine wn_cge_F (tgt := 79) zx zb d_M_answer_48 (by decide) (by omega) (by omega) (by omega) ?_
        refine lv_iload_n zx zb d_M_answer_51 rfl (lv_at zl 2 rfl) ?_
        refine lv_aload_n zx zb d_M_answer_52 rfl (lv_at zl 0 rfl) ?_
        refine wv_get zx zb zg hin_M rfl zo zK zP 0 rfl 9 (by decide) rfl fl_M_31 rfl d_M_answer_53 ?_
        refine lv_iload_n zx zb d_M_answer_56 rfl (lv_at zl 1 rfl) ?_
        refine wv_ialdN zx zb zK zP 8 rfl (by omega) (by decide) d_M_answer_57 ?_
        refine wn_cle_F (tgt := 73) zx zb d_M_answer_58 (by decide) (by omega) (by omega) (by omega) ?_
        refine lv_aload_n zx zb d_M_answer_61 rfl (lv_at zl 0 rfl) ?_
        refine wv_get zx zb zg hin_M rfl zo zK zP 0 rfl 12 (by decide) rfl fl_M_37 rfl d_M_answer_62 ?_
        refine lv_iload_n zx zb d_M_answer_65 rfl (lv_at zl 3 rfl) ?_
        refine wv_zaldN zx zb zK zP 10 rfl (by omega) (by decide) d_M_answer_66 ?_
        refine wn_ine_T (tgt := 73) zx zb d_M_answer_67 (by decide) (by omega) (by omega) ?_
        refine lv_iinc (k := 3) (lv' := [(3, .int (nI (s + 1))), (0, .ref m0), (1, .int (nI j)), (2, .int (nI ps))]) zx zb d_M_answer_73 zl rfl (ni_inc _) (by decide) rfl (fun lsX zl => ?_)
        refine lv_goto (tgt := 37) zx zb d_M_answer_76 (by decide) ?_
        exact ih_loop37 _ (by omega) (s + 1) rfl (by omega) (by omega) lsX HX oX (lv_sub zl [1, 2, 3, 0] rfl) zP zD zS
      · have h4 := h3
        refine lv_iload_n zx zb d_M_answer_37 rfl (lv_at zl 3 rfl) ?_
        refine lv_bipush (v := (nI 66)) zx zb d_M_answer_38 (by decide) ?_
        refine wn_cge_F (tgt := 79) zx zb d_M_answer_40 (by decide) (by omega) (by omega) (by omega) ?_
        refine lv_bipush (v := (nI 8)) zx zb d_M_answer_43 (by decide) ?_
        refine lv_iload_n zx zb d_M_answer_45 rfl (lv_at zl 3 rfl) ?_
        refine wv_imul zx zb d_M_answer_46 (pk_mul _ _) ?_
        refine lv_iload_n zx zb d_M_answer_47 rfl (lv_at zl 2 rfl) ?_
        refine wn_cge_T (tgt := 79) zx zb d_M_answer_48 (by decide) (by omega) (by omega) (by omega) ?_
        refine lv_bipush (v := (nI 8)) zx zb d_M_answer_79 (by decide) ?_
        refine lv_iload_n zx zb d_M_answer_81 rfl (lv_at zl 3 rfl) ?_
        refine wv_imul zx zb d_M_answer_82 (pk_mul _ _) ?_
        refine lv_iload_n zx zb d_M_answer_83 rfl (lv_at zl 2 rfl) ?_
        refine wn_cge_T (tgt := 90) zx zb d_M_answer_84 (by decide) (by omega) (by omega) (by omega) ?_
        refine lv_iload_n zx zb d_M_answer_90 rfl (lv_at zl 2 rfl) ?_
        refine lv_aload_n zx zb d_M_answer_91 rfl (lv_at zl 0 rfl) ?_
        refine wv_get zx zb zg hin_M rfl zo zK zP 0 rfl 9 (by decide) rfl fl_M_31 rfl d_M_answer_92 ?_
        refine lv_iload_n zx zb d_M_answer_95 rfl (lv_at zl 1 rfl) ?_
        refine wv_ialdN zx zb zK zP 8 rfl (by omega) (by decide) d_M_answer_96 ?_
        refine wn_ceq_F (tgt := 112) zx zb d_M_answer_97 (by decide) (by omega) (by omega) (by omega) ?_
        refine lv_aload_n zx zb d_M_answer_100 rfl (lv_at zl 0 rfl) ?_
        refine wv_get zx zb zg hin_M rfl zo zK zP 0 rfl 2 (by decide) rfl fl_M_7 rfl d_M_answer_101 ?_
        refine lv_iload_n zx zb d_M_answer_104 rfl (lv_at zl 2 rfl) ?_
        refine lv_iconst (v := (nI 1)) zx zb d_M_answer_105 (by decide) ?_
        refine wv_isub zx zb d_M_answer_106 (pk_sub (by omega)) ?_
        refine wv_ialdN zx zb zK zP 1 rfl (by omega) (by decide) d_M_answer_107 ?_
        refine lv_iconst (v := (nI 1)) zx zb d_M_answer_108 (by decide) ?_
        refine wn_cne_F (tgt := 116) zx zb d_M_answer_109 (by decide) (by omega) (by omega) (by omega) ?_
        refine lv_iconst (v := (nI 0)) zx zb d_M_answer_112 (by decide) ?_
        refine lv_goto (tgt := 118) zx zb d_M_answer_113 (by decide) ?_
        exact ct_iret zQ zx zb zr zk zP zD zS d_M_answer_118 rfl (⟨rfl, rfl⟩)
  exact loop37 _ ((fs j) / 8) rfl (Nat.le_refl _) hG0 lsX HX oX (lv_sub zl [1, 2, 3, 0] rfl) zP zD zS
