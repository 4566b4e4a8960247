set_option maxRecDepth 20000 in
theorem c_M_copying_x (lL : Launch) (g : Gt) (m0 : Nat) (m1 : Nat) (m2 : Nat) (m3 : Nat) (m4 : Nat) (m5 : Nat) (m6 : Nat) (m7 : Nat) (m8 : Nat) (m9 : Nat) (m10 : Nat) (n : Nat) (sy : Nat) (k : Nat → Nat) (o : Nat → Int32) (ke : Nat → Nat) (va : Nat → Int32) (fl : Nat → Nat) (sg : Nat → Nat) (cp : Nat → Nat) (fs : Nat → Nat) (la : Nat → Nat) (nx : Nat) (hd : Nat → Nat) (dn : Nat) (tg : Nat) (bh : Nat) (hsg : ∀ j, j < 3 → sg j ≤ 2) (h0 : sg 0 ≠ 1) (h1 : sg 1 ≠ 1) (h2 : sg 2 ≠ 1) : Ct lL g y_M_copying (.code y_M_copying b_M_copying 2 (some .int)) 0 0 [.ref m0] (wM g m0 m1 m2 m3 m4 m5 m6 m7 m8 m9 m10 n sy k o ke va fl sg cp fs la nx hd dn tg bh) (exP (some (.int (-1))) (wM g m0 m1 m2 m3 m4 m5 m6 m7 m8 m9 m10 n sy k o ke va fl sg cp fs la nx hd dn tg bh)) := by
  refine Ct.ofW (by decide) (Nat.le_of_ble_eq_true rfl) ?_
  intro pX eX sX mX aX bX tX cX AX lsX HX oX QX zx zb zr zk zm zo zg zK zP zD zA zS zQ zl
  have zo : sX.vm.findClass R_M = some mX.cls := zo
  have zl : lv_has lsX 2 [(0, .ref m0)] := zl
  have hs0 := hsg 0 (by omega)
  have hs1 := hsg 1 (by omega)
  have hs2 := hsg 2 (by omega)
  refine lv_iconst (v := (nI 0)) zx zb d_M_copying_0 (by decide) ?_
  refine lv_istore_n (lv' := [(1, .int (nI 0)), (0, .ref m0)]) zx zb d_M_copying_1 rfl zl (by decide) rfl (fun lsX zl => ?_)
  refine lv_iload_n zx zb d_M_copying_2 rfl (lv_at zl 0 rfl) ?_
  refine lv_iconst (v := (nI 3)) zx zb d_M_copying_3 (by decide) ?_
  refine wn_cge_F (tgt := 25) zx zb d_M_copying_4 (by decide) (by omega) (by omega) (by omega) ?_
  refine lv_aload_n zx zb d_M_copying_7 rfl (lv_at zl 1 rfl) ?_
  refine wv_get zx zb zg hin_M rfl zo zK zP 0 rfl 7 (by decide) rfl fl_M_25 rfl d_M_copying_8 ?_
  refine lv_iload_n zx zb d_M_copying_11 rfl (lv_at zl 0 rfl) ?_
  refine wv_ialdN zx zb zK zP 6 rfl (by omega) (by decide) d_M_copying_12 ?_
  refine lv_iconst (v := (nI 1)) zx zb d_M_copying_13 (by decide) ?_
  refine wn_cne_T (tgt := 19) zx zb d_M_copying_14 (by decide) (by omega) (by omega) (by omega) ?_
  refine lv_iinc (k := 0) (lv' := [(1, .int (nI 1)), (0, .ref m0)]) zx zb d_M_copying_19 zl rfl (ni_inc _) (by decide) rfl (fun lsX zl => ?_)
  refine lv_goto (tgt := 2) zx zb d_M_copying_22 (by decide) ?_
  refine lv_iload_n zx zb d_M_copying_2 rfl (lv_at zl 0 rfl) ?_
  refine lv_iconst (v := (nI 3)) zx zb d_M_copying_3 (by decide) ?_
  refine wn_cge_F (tgt := 25) zx zb d_M_copying_4 (by decide) (by omega) (by omega) (by omega) ?_
  refine lv_aload_n zx zb d_M_copying_7 rfl (lv_at zl 1 rfl) ?_
  refine wv_get zx zb zg hin_M rfl zo zK zP 0 rfl 7 (by decide) rfl fl_M_25 rfl d_M_copying_8 ?_
  refine lv_iload_n zx zb d_M_copying_11 rfl (lv_at zl 0 rfl) ?_
  refine wv_ialdN zx zb zK zP 6 rfl (by omega) (by decide) d_M_copying_12 ?_
  refine lv_iconst (v := (nI 1)) zx zb d_M_copying_13 (by decide) ?_
  refine wn_cne_T (tgt := 19) zx zb d_M_copying_14 (by decide) (by omega) (by omega) (by omega) ?_
  refine lv_iinc (k := 0) (lv' := [(1, .int (nI 2)), (0, .ref m0)]) zx zb d_M_copying_19 zl rfl (ni_inc _) (by decide) rfl (fun lsX zl => ?_)
  refine lv_goto (tgt := 2) zx zb d_M_copying_22 (by decide) ?_
  refine lv_iload_n zx zb d_M_copying_2 rfl (lv_at zl 0 rfl) ?_
  refine lv_iconst (v := (nI 3)) zx zb d_M_copying_3 (by decide) ?_
  refine wn_cge_F (tgt := 25) zx zb d_M_copying_4 (by decide) (by omega) (by omega) (by omega) ?_
  refine lv_aload_n zx zb d_M_copying_7 rfl (lv_at zl 1 rfl) ?_
  refine wv_get zx zb zg hin_M rfl zo zK zP 0 rfl 7 (by decide) rfl fl_M_25 rfl d_M_copying_8 ?_
  refine lv_iload_n zx zb d_M_copying_11 rfl (lv_at zl 0 rfl) ?_
  refine wv_ialdN zx zb zK zP 6 rfl (by omega) (by decide) d_M_copying_12 ?_
  refine lv_iconst (v := (nI 1)) zx zb d_M_copying_13 (by decide) ?_
  refine wn_cne_T (tgt := 19) zx zb d_M_copying_14 (by decide) (by omega) (by omega) (by omega) ?_
  refine lv_iinc (k := 0) (lv' := [(1, .int (nI 3)), (0, .ref m0)]) zx zb d_M_copying_19 zl rfl (ni_inc _) (by decide) rfl (fun lsX zl => ?_)
  refine lv_goto (tgt := 2) zx zb d_M_copying_22 (by decide) ?_
  refine lv_iload_n zx zb d_M_copying_2 rfl (lv_at zl 0 rfl) ?_
  refine lv_iconst (v := (nI 3)) zx zb d_M_copying_3 (by decide) ?_
  refine wn_cge_T (tgt := 25) zx zb d_M_copying_4 (by decide) (by omega) (by omega) (by omega) ?_
  refine lv_iconst (v := (-1)) zx zb d_M_copying_25 (by decide) ?_
  exact ct_iret zQ zx zb zr zk zP zD zS d_M_copying_26 rfl (⟨rfl, rfl⟩)
set_option maxRecDepth 20000 in
theorem c_M_backup_u0 (lL : Launch) (g : Gt) (m0 : Nat) (m1 : Nat) (m2 : Nat) (m3 : Nat) (m4 : Nat) (m5 : Nat) (m6 : Nat) (m7 : Nat) (m8 : Nat) (m9 : Nat) (m10 : Nat) (n : Nat) (sy : Nat) (k : Nat → Nat) (o : Nat → Int32) (ke : Nat → Nat) (va : Nat → Int32) (fl : Nat → Nat) (sg : Nat → Nat) (cp : Nat → Nat) (fs : Nat → Nat) (la : Nat → Nat) (nx : Nat) (hd : Nat → Nat) (dn : Nat) (tg : Nat) (bh : Nat) (hsg : ∀ j, j < 3 → sg j ≤ 2) (h0 : sg 0 = 1) : Ct lL g y_M_backup (.code y_M_backup b_M_backup 2 (some .int)) 6 200 [.ref m0] (wM g m0 m1 m2 m3 m4 m5 m6 m7 m8 m9 m10 n sy k o ke va fl sg cp fs la nx hd dn tg bh) (exP (some (.int (-1))) (wM g m0 m1 m2 m3 m4 m5 m6 m7 m8 m9 m10 n sy k o ke va fl sg cp fs la nx hd dn tg bh)) := by
  refine Ct.ofW (by decide) (Nat.le_of_ble_eq_true rfl) ?_
  intro pX eX sX mX aX bX tX cX AX lsX HX oX QX zx zb zr zk zm zo zg zK zP zD zA zS zQ zl
  have zo : sX.vm.findClass R_M = some mX.cls := zo
  have zl : lv_has lsX 2 [(0, .ref m0)] := zl
  refine lv_aload_n zx zb d_M_backup_0 rfl (lv_at zl 0 rfl) ?_
  refine ct_V (ws' := wM g m0 m1 m2 m3 m4 m5 m6 m7 m8 m9 m10 n sy k o ke va fl sg cp fs la nx hd dn tg bh) (rest := []) (st1 := [.int (nI 0)]) zx zb zm zo zg zK zP zD zS zA zl.1 (c_M_copying_0 lL g m0 m1 m2 m3 m4 m5 m6 m7 m8 m9 m10 n sy k o ke va fl sg cp fs la nx hd dn tg bh hsg (by omega)) ok_M_copying ov_M_copying ml_M_80 (by decide) 0 7 rfl rfl rfl [0, 1, 2, 3, 4, 5, 6, 7, 8, 9, 10] [] 11 (by decide) rfl rfl rfl rfl (by decide) rfl rfl rfl (Nat.le_of_ble_eq_true rfl) d_M_backup_1 (fun HX oX zP zD zS => ?_)
  refine wn_ilt_F (tgt := 9) zx zb d_M_backup_4 (by decide) (by omega) (trivial) ?_
  refine lv_iconst (v := (-1)) zx zb d_M_backup_7 (by decide) ?_
  exact ct_iret zQ zx zb zr zk zP zD zS d_M_backup_8 rfl (⟨rfl, rfl⟩)
set_option maxRecDepth 20000 in
theorem c_M_backup_u1 (lL : Launch) (g : Gt) (m0 : Nat) (m1 : Nat) (m2 : Nat) (m3 : Nat) (m4 : Nat) (m5 : Nat) (m6 : Nat) (m7 : Nat) (m8 : Nat) (m9 : Nat) (m10 : Nat) (n : Nat) (sy : Nat) (k : Nat → Nat) (o : Nat → Int32) (ke : Nat → Nat) (va : Nat → Int32) (fl : Nat → Nat) (sg : Nat → Nat) (cp : Nat → Nat) (fs : Nat → Nat) (la : Nat → Nat) (nx : Nat) (hd : Nat → Nat) (dn : Nat) (tg : Nat) (bh : Nat) (hsg : ∀ j, j < 3 → sg j ≤ 2) (h0 : sg 0 ≠ 1) (h1 : sg 1 = 1) : Ct lL g y_M_backup (.code y_M_backup b_M_backup 2 (some .int)) 6 200 [.ref m0] (wM g m0 m1 m2 m3 m4 m5 m6 m7 m8 m9 m10 n sy k o ke va fl sg cp fs la nx hd dn tg bh) (exP (some (.int (-1))) (wM g m0 m1 m2 m3 m4 m5 m6 m7 m8 m9 m10 n sy k o ke va fl sg cp fs la nx hd dn tg bh)) := by
  refine Ct.ofW (by decide) (Nat.le_of_ble_eq_true rfl) ?_
  intro pX eX sX mX aX bX tX cX AX lsX HX oX QX zx zb zr zk zm zo zg zK zP zD zA zS zQ zl
  have zo : sX.vm.findClass R_M = some mX.cls := zo
  have zl : lv_has lsX 2 [(0, .ref m0)] := zl
  refine lv_aload_n zx zb d_M_backup_0 rfl (lv_at zl 0 rfl) ?_
  refine ct_V (ws' := wM g m0 m1 m2 m3 m4 m5 m6 m7 m8 m9 m10 n sy k o ke va fl sg cp fs la nx hd dn tg bh) (rest := []) (st1 := [.int (nI 1)]) zx zb zm zo zg zK zP zD zS zA zl.1 (c_M_copying_1 lL g m0 m1 m2 m3 m4 m5 m6 m7 m8 m9 m10 n sy k o ke va fl sg cp fs la nx hd dn tg bh hsg (by omega) (by omega)) ok_M_copying ov_M_copying ml_M_80 (by decide) 0 7 rfl rfl rfl [0, 1, 2, 3, 4, 5, 6, 7, 8, 9, 10] [] 11 (by decide) rfl rfl rfl rfl (by decide) rfl rfl rfl (Nat.le_of_ble_eq_true rfl) d_M_backup_1 (fun HX oX zP zD zS => ?_)
  refine wn_ilt_F (tgt := 9) zx zb d_M_backup_4 (by decide) (by omega) (trivial) ?_
  refine lv_iconst (v := (-1)) zx zb d_M_backup_7 (by decide) ?_
  exact ct_iret zQ zx zb zr zk zP zD zS d_M_backup_8 rfl (⟨rfl, rfl⟩)
set_option maxRecDepth 20000 in
theorem c_M_backup_u2 (lL : Launch) (g : Gt) (m0 : Nat) (m1 : Nat) (m2 : Nat) (m3 : Nat) (m4 : Nat) (m5 : Nat) (m6 : Nat) (m7 : Nat) (m8 : Nat) (m9 : Nat) (m10 : Nat) (n : Nat) (sy : Nat) (k : Nat → Nat) (o : Nat → Int32) (ke : Nat → Nat) (va : Nat → Int32) (fl : Nat → Nat) (sg : Nat → Nat) (cp : Nat → Nat) (fs : Nat → Nat) (la : Nat → Nat) (nx : Nat) (hd : Nat → Nat) (dn : Nat) (tg : Nat) (bh : Nat) (hsg : ∀ j, j < 3 → sg j ≤ 2) (h0 : sg 0 ≠ 1) (h1 : sg 1 ≠ 1) (h2 : sg 2 = 1) : Ct lL g y_M_backup (.code y_M_backup b_M_backup 2 (some .int)) 6 200 [.ref m0] (wM g m0 m1 m2 m3 m4 m5 m6 m7 m8 m9 m10 n sy k o ke va fl sg cp fs la nx hd dn tg bh) (exP (some (.int (-1))) (wM g m0 m1 m2 m3 m4 m5 m6 m7 m8 m9 m10 n sy k o ke va fl sg cp fs la nx hd dn tg bh)) := by
  refine Ct.ofW (by decide) (Nat.le_of_ble_eq_true rfl) ?_
  intro pX eX sX mX aX bX tX cX AX lsX HX oX QX zx zb zr zk zm zo zg zK zP zD zA zS zQ zl
  have zo : sX.vm.findClass R_M = some mX.cls := zo
  have zl : lv_has lsX 2 [(0, .ref m0)] := zl
  refine lv_aload_n zx zb d_M_backup_0 rfl (lv_at zl 0 rfl) ?_
  refine ct_V (ws' := wM g m0 m1 m2 m3 m4 m5 m6 m7 m8 m9 m10 n sy k o ke va fl sg cp fs la nx hd dn tg bh) (rest := []) (st1 := [.int (nI 2)]) zx zb zm zo zg zK zP zD zS zA zl.1 (c_M_copying_2 lL g m0 m1 m2 m3 m4 m5 m6 m7 m8 m9 m10 n sy k o ke va fl sg cp fs la nx hd dn tg bh hsg (by omega) (by omega) (by omega)) ok_M_copying ov_M_copying ml_M_80 (by decide) 0 7 rfl rfl rfl [0, 1, 2, 3, 4, 5, 6, 7, 8, 9, 10] [] 11 (by decide) rfl rfl rfl rfl (by decide) rfl rfl rfl (Nat.le_of_ble_eq_true rfl) d_M_backup_1 (fun HX oX zP zD zS => ?_)
  refine wn_ilt_F (tgt := 9) zx zb d_M_backup_4 (by decide) (by omega) (trivial) ?_
  refine lv_iconst (v := (-1)) zx zb d_M_backup_7 (by decide) ?_
  exact ct_iret zQ zx zb zr zk zP zD zS d_M_backup_8 rfl (⟨rfl, rfl⟩)
set_option maxRecDepth 20000 in
theorem c_M_backup_x (lL : Launch) (g : Gt) (m0 : Nat) (m1 : Nat) (m2 : Nat) (m3 : Nat) (m4 : Nat) (m5 : Nat) (m6 : Nat) (m7 : Nat) (m8 : Nat) (m9 : Nat) (m10 : Nat) (n : Nat) (sy : Nat) (k : Nat → Nat) (o : Nat → Int32) (ke : Nat → Nat) (va : Nat → Int32) (fl : Nat → Nat) (sg : Nat → Nat) (cp : Nat → Nat) (fs : Nat → Nat) (la : Nat → Nat) (nx : Nat) (hd : Nat → Nat) (dn : Nat) (tg : Nat) (bh : Nat) (hsg : ∀ j, j < 3 → sg j ≤ 2) (h0 : sg 0 ≠ 1) (h1 : sg 1 ≠ 1) (h2 : sg 2 ≠ 1) (e0 : sg 0 ≠ 0) (e1 : sg 1 ≠ 0) (e2 : sg 2 ≠ 0) : Ct lL g y_M_backup (.code y_M_backup b_M_backup 2 (some .int)) 6 200 [.ref m0] (wM g m0 m1 m2 m3 m4 m5 m6 m7 m8 m9 m10 n sy k o ke va fl sg cp fs la nx hd dn tg bh) (exP (some (.int (-2))) (wM g m0 m1 m2 m3 m4 m5 m6 m7 m8 m9 m10 n sy k o ke va fl sg cp fs la nx hd dn tg bh)) := by
  refine Ct.ofW (by decide) (Nat.le_of_ble_eq_true rfl) ?_
  intro pX eX sX mX aX bX tX cX AX lsX HX oX QX zx zb zr zk zm zo zg zK zP zD zA zS zQ zl
  have zo : sX.vm.findClass R_M = some mX.cls := zo
  have zl : lv_has lsX 2 [(0, .ref m0)] := zl
  have hs0 := hsg 0 (by omega)
  have hs1 := hsg 1 (by omega)
  have hs2 := hsg 2 (by omega)
  refine lv_aload_n zx zb d_M_backup_0 rfl (lv_at zl 0 rfl) ?_
  refine ct_V (ws' := wM g m0 m1 m2 m3 m4 m5 m6 m7 m8 m9 m10 n sy k o ke va fl sg cp fs la nx hd dn tg bh) (rest := []) (st1 := [.int (-1)]) zx zb zm zo zg zK zP zD zS zA zl.1 (c_M_copying_x lL g m0 m1 m2 m3 m4 m5 m6 m7 m8 m9 m10 n sy k o ke va fl sg cp fs la nx hd dn tg bh hsg (by omega) (by omega) (by omega)) ok_M_copying ov_M_copying ml_M_80 (by decide) 0 7 rfl rfl rfl [0, 1, 2, 3, 4, 5, 6, 7, 8, 9, 10] [] 11 (by decide) rfl rfl rfl rfl (by decide) rfl rfl rfl (Nat.le_of_ble_eq_true rfl) d_M_backup_1 (fun HX oX zP zD zS => ?_)
  refine lv_if_lt (tgt := 9) zx zb d_M_backup_4 (by decide) (fun _ => ?_) (fun h => absurd h (fun h => h (by decide)))
  refine lv_iconst (v := (nI 0)) zx zb d_M_backup_9 (by decide) ?_
  refine lv_istore_n (lv' := [(1, .int (nI 0)), (0, .ref m0)]) zx zb d_M_backup_10 rfl zl (by decide) rfl (fun lsX zl => ?_)
  refine lv_iload_n zx zb d_M_backup_11 rfl (lv_at zl 0 rfl) ?_
  refine lv_iconst (v := (nI 3)) zx zb d_M_backup_12 (by decide) ?_
  refine wn_cge_F (tgt := 31) zx zb d_M_backup_13 (by decide) (by omega) (by omega) (by omega) ?_
  refine lv_aload_n zx zb d_M_backup_16 rfl (lv_at zl 1 rfl) ?_
  refine wv_get zx zb zg hin_M rfl zo zK zP 0 rfl 7 (by decide) rfl fl_M_25 rfl d_M_backup_17 ?_
  refine lv_iload_n zx zb d_M_backup_20 rfl (lv_at zl 0 rfl) ?_
  refine wv_ialdN zx zb zK zP 6 rfl (by omega) (by decide) d_M_backup_21 ?_
  refine wn_ieq_F (tgt := 31) zx zb d_M_backup_22 (by decide) (by omega) (by omega) ?_
  refine lv_iinc (k := 0) (lv' := [(1, .int (nI 1)), (0, .ref m0)]) zx zb d_M_backup_25 zl rfl (ni_inc _) (by decide) rfl (fun lsX zl => ?_)
  refine lv_goto (tgt := 11) zx zb d_M_backup_28 (by decide) ?_
  refine lv_iload_n zx zb d_M_backup_11 rfl (lv_at zl 0 rfl) ?_
  refine lv_iconst (v := (nI 3)) zx zb d_M_backup_12 (by decide) ?_
  refine wn_cge_F (tgt := 31) zx zb d_M_backup_13 (by decide) (by omega) (by omega) (by omega) ?_
  refine lv_aload_n zx zb d_M_backup_16 rfl (lv_at zl 1 rfl) ?_
  refine wv_get zx zb zg hin_M rfl zo zK zP 0 rfl 7 (by decide) rfl fl_M_25 rfl d_M_backup_17 ?_
  refine lv_iload_n zx zb d_M_backup_20 rfl (lv_at zl 0 rfl) ?_
  refine wv_ialdN zx zb zK zP 6 rfl (by omega) (by decide) d_M_backup_21 ?_
  refine wn_ieq_F (tgt := 31) zx zb d_M_backup_22 (by decide) (by omega) (by omega) ?_
  refine lv_iinc (k := 0) (lv' := [(1, .int (nI 2)), (0, .ref m0)]) zx zb d_M_backup_25 zl rfl (ni_inc _) (by decide) rfl (fun lsX zl => ?_)
  refine lv_goto (tgt := 11) zx zb d_M_backup_28 (by decide) ?_
  refine lv_iload_n zx zb d_M_backup_11 rfl (lv_at zl 0 rfl) ?_
  refine lv_iconst (v := (nI 3)) zx zb d_M_backup_12 (by decide) ?_
  refine wn_cge_F (tgt := 31) zx zb d_M_backup_13 (by decide) (by omega) (by omega) (by omega) ?_
  refine lv_aload_n zx zb d_M_backup_16 rfl (lv_at zl 1 rfl) ?_
  refine wv_get zx zb zg hin_M rfl zo zK zP 0 rfl 7 (by decide) rfl fl_M_25 rfl d_M_backup_17 ?_
  refine lv_iload_n zx zb d_M_backup_20 rfl (lv_at zl 0 rfl) ?_
  refine wv_ialdN zx zb zK zP 6 rfl (by omega) (by decide) d_M_backup_21 ?_
  refine wn_ieq_F (tgt := 31) zx zb d_M_backup_22 (by decide) (by omega) (by omega) ?_
  refine lv_iinc (k := 0) (lv' := [(1, .int (nI 3)), (0, .ref m0)]) zx zb d_M_backup_25 zl rfl (ni_inc _) (by decide) rfl (fun lsX zl => ?_)
  refine lv_goto (tgt := 11) zx zb d_M_backup_28 (by decide) ?_
  refine lv_iload_n zx zb d_M_backup_11 rfl (lv_at zl 0 rfl) ?_
  refine lv_iconst (v := (nI 3)) zx zb d_M_backup_12 (by decide) ?_
  refine wn_cge_T (tgt := 31) zx zb d_M_backup_13 (by decide) (by omega) (by omega) (by omega) ?_
  refine lv_iload_n zx zb d_M_backup_31 rfl (lv_at zl 0 rfl) ?_
  refine lv_iconst (v := (nI 3)) zx zb d_M_backup_32 (by decide) ?_
  refine wn_cne_F (tgt := 39) zx zb d_M_backup_33 (by decide) (by omega) (by omega) (by omega) ?_
  refine lv_bipush (v := (-2)) zx zb d_M_backup_36 (by decide) ?_
  exact ct_iret zQ zx zb zr zk zP zD zS d_M_backup_38 rfl (⟨rfl, rfl⟩)
set_option maxRecDepth 20000 in
theorem c_M_backup_0 (lL : Launch) (g : Gt) (m0 : Nat) (m1 : Nat) (m2 : Nat) (m3 : Nat) (m4 : Nat) (m5 : Nat) (m6 : Nat) (m7 : Nat) (m8 : Nat) (m9 : Nat) (m10 : Nat) (n : Nat) (sy : Nat) (k : Nat → Nat) (o : Nat → Int32) (ke : Nat → Nat) (va : Nat → Int32) (fl : Nat → Nat) (sg : Nat → Nat) (cp : Nat → Nat) (fs : Nat → Nat) (la : Nat → Nat) (nx : Nat) (hd : Nat → Nat) (dn : Nat) (tg : Nat) (bh : Nat) (hsg : ∀ j, j < 3 → sg j ≤ 2) (h0 : sg 0 ≠ 1) (h1 : sg 1 ≠ 1) (h2 : sg 2 ≠ 1) (hn5 : n < 520) (hk4 : ∀ i, i < n → k i < 4) (e0 : sg 0 = 0) : Ct lL g y_M_backup (.code y_M_backup b_M_backup 2 (some .int)) 6 200 [.ref m0] (wM g m0 m1 m2 m3 m4 m5 m6 m7 m8 m9 m10 n sy k o ke va fl sg cp fs la nx hd dn tg bh) (exP (some (.int (nI 0))) (wM g m0 m1 m2 m3 m4 m5 m6 m7 m8 m9 m10 n n k o ke va (ffS n fl 0 8) (va_up sg 0 1) (va_up cp 0 0) (va_up fs 0 (ckS k o n 0 3 n)) la nx hd dn tg bh)) := by
  refine Ct.ofW (by decide) (Nat.le_of_ble_eq_true rfl) ?_
  intro pX eX sX mX aX bX tX cX AX lsX HX oX QX zx zb zr zk zm zo zg zK zP zD zA zS zQ zl
  have zo : sX.vm.findClass R_M = some mX.cls := zo
  have zl : lv_has lsX 2 [(0, .ref m0)] := zl
  have hs0 := hsg 0 (by omega)
  have hs1 := hsg 1 (by omega)
  have hs2 := hsg 2 (by omega)
  refine lv_aload_n zx zb d_M_backup_0 rfl (lv_at zl 0 rfl) ?_
  refine ct_V (ws' := wM g m0 m1 m2 m3 m4 m5 m6 m7 m8 m9 m10 n sy k o ke va fl sg cp fs la nx hd dn tg bh) (rest := []) (st1 := [.int (-1)]) zx zb zm zo zg zK zP zD zS zA zl.1 (c_M_copying_x lL g m0 m1 m2 m3 m4 m5 m6 m7 m8 m9 m10 n sy k o ke va fl sg cp fs la nx hd dn tg bh hsg (by omega) (by omega) (by omega)) ok_M_copying ov_M_copying ml_M_80 (by decide) 0 7 rfl rfl rfl [0, 1, 2, 3, 4, 5, 6, 7, 8, 9, 10] [] 11 (by decide) rfl rfl rfl rfl (by decide) rfl rfl rfl (Nat.le_of_ble_eq_true rfl) d_M_backup_1 (fun HX oX zP zD zS => ?_)
  refine lv_if_lt (tgt := 9) zx zb d_M_backup_4 (by decide) (fun _ => ?_) (fun h => absurd h (fun h => h (by decide)))
  refine lv_iconst (v := (nI 0)) zx zb d_M_backup_9 (by decide) ?_
  refine lv_istore_n (lv' := [(1, .int (nI 0)), (0, .ref m0)]) zx zb d_M_backup_10 rfl zl (by decide) rfl (fun lsX zl => ?_)
  refine lv_iload_n zx zb d_M_backup_11 rfl (lv_at zl 0 rfl) ?_
  refine lv_iconst (v := (nI 3)) zx zb d_M_backup_12 (by decide) ?_
  refine wn_cge_F (tgt := 31) zx zb d_M_backup_13 (by decide) (by omega) (by omega) (by omega) ?_
  refine lv_aload_n zx zb d_M_backup_16 rfl (lv_at zl 1 rfl) ?_
  refine wv_get zx zb zg hin_M rfl zo zK zP 0 rfl 7 (by decide) rfl fl_M_25 rfl d_M_backup_17 ?_
  refine lv_iload_n zx zb d_M_backup_20 rfl (lv_at zl 0 rfl) ?_
  refine wv_ialdN zx zb zK zP 6 rfl (by omega) (by decide) d_M_backup_21 ?_
  refine wn_ieq_T (tgt := 31) zx zb d_M_backup_22 (by decide) (by omega) (by omega) ?_
  refine lv_iload_n zx zb d_M_backup_31 rfl (lv_at zl 0 rfl) ?_
  refine lv_iconst (v := (nI 3)) zx zb d_M_backup_32 (by decide) ?_
  refine wn_cne_T (tgt := 39) zx zb d_M_backup_33 (by decide) (by omega) (by omega) (by omega) ?_
  refine lv_aload_n zx zb d_M_backup_39 rfl (lv_at zl 1 rfl) ?_
  refine wv_get zx zb zg hin_M rfl zo zK zP 0 rfl 7 (by decide) rfl fl_M_25 rfl d_M_backup_40 ?_
  refine lv_iload_n zx zb d_M_backup_43 rfl (lv_at zl 0 rfl) ?_
  refine lv_iconst (v := (nI 1)) zx zb d_M_backup_44 (by decide) ?_
  refine wv_iastN zx zb zK zP zD zS 6 rfl (by omega) (by decide) d_M_backup_45 (fun HX oX zP zD zS => ?_)
  have zP : va_P g.1 cls (wM g m0 m1 m2 m3 m4 m5 m6 m7 m8 m9 m10 n sy k o ke va fl (va_up sg 0 1) cp fs la nx hd dn tg bh) HX := zP
  have zD : va_D AX (wM g m0 m1 m2 m3 m4 m5 m6 m7 m8 m9 m10 n sy k o ke va fl (va_up sg 0 1) cp fs la nx hd dn tg bh) := zD
  refine lv_aload_n zx zb d_M_backup_46 rfl (lv_at zl 1 rfl) ?_
  refine wv_get zx zb zg hin_M rfl zo zK zP 0 rfl 8 (by decide) rfl fl_M_28 rfl d_M_backup_47 ?_
  refine lv_iload_n zx zb d_M_backup_50 rfl (lv_at zl 0 rfl) ?_
  refine lv_iconst (v := (nI 0)) zx zb d_M_backup_51 (by decide) ?_
  refine wv_iastN zx zb zK zP zD zS 7 rfl (by omega) (by decide) d_M_backup_52 (fun HX oX zP zD zS => ?_)
  have zP : va_P g.1 cls (wM g m0 m1 m2 m3 m4 m5 m6 m7 m8 m9 m10 n sy k o ke va fl (va_up sg 0 1) (va_up cp 0 0) fs la nx hd dn tg bh) HX := zP
  have zD : va_D AX (wM g m0 m1 m2 m3 m4 m5 m6 m7 m8 m9 m10 n sy k o ke va fl (va_up sg 0 1) (va_up cp 0 0) fs la nx hd dn tg bh) := zD
  refine lv_aload_n zx zb d_M_backup_53 rfl (lv_at zl 1 rfl) ?_
  refine wv_get zx zb zg hin_M rfl zo zK zP 0 rfl 9 (by decide) rfl fl_M_31 rfl d_M_backup_54 ?_
  refine lv_iload_n zx zb d_M_backup_57 rfl (lv_at zl 0 rfl) ?_
  refine lv_aload_n zx zb d_M_backup_58 rfl (lv_at zl 1 rfl) ?_
  refine ct_V (ws' := wM g m0 m1 m2 m3 m4 m5 m6 m7 m8 m9 m10 n n k o ke va (ffS n fl 0 8) (va_up sg 0 1) (va_up cp 0 0) fs la nx hd dn tg bh) (rest := [.int (nI 0), .ref m8]) (st1 := [.int (nI (ckS k o n 0 3 n)), .int (nI 0), .ref m8]) zx zb zm zo zg zK zP zD zS zA zl.1 (c_M_checkpoint lL g m0 m1 m2 m3 m4 m5 m6 m7 m8 m9 m10 n sy k o ke va fl (va_up sg 0 1) (va_up cp 0 0) fs la nx hd dn tg bh (by omega) hk4) ok_M_checkpoint ov_M_checkpoint ml_M_84 (by decide) 0 7 rfl rfl rfl [0, 1, 2, 3, 4, 5, 6, 7, 8, 9, 10] [] 11 (by decide) rfl rfl rfl rfl (by decide) rfl rfl rfl (Nat.le_of_ble_eq_true rfl) d_M_backup_59 (fun HX oX zP zD zS => ?_)
  refine wv_iastN zx zb zK zP zD zS 8 rfl (by omega) (by decide) d_M_backup_62 (fun HX oX zP zD zS => ?_)
  have zP : va_P g.1 cls (wM g m0 m1 m2 m3 m4 m5 m6 m7 m8 m9 m10 n n k o ke va (ffS n fl 0 8) (va_up sg 0 1) (va_up cp 0 0) (va_up fs 0 (ckS k o n 0 3 n)) la nx hd dn tg bh) HX := zP
  have zD : va_D AX (wM g m0 m1 m2 m3 m4 m5 m6 m7 m8 m9 m10 n n k o ke va (ffS n fl 0 8) (va_up sg 0 1) (va_up cp 0 0) (va_up fs 0 (ckS k o n 0 3 n)) la nx hd dn tg bh) := zD
  refine lv_iload_n zx zb d_M_backup_63 rfl (lv_at zl 0 rfl) ?_
  exact ct_iret zQ zx zb zr zk zP zD zS d_M_backup_64 rfl (⟨rfl, rfl⟩)
set_option maxRecDepth 20000 in
theorem c_M_backup_1 (lL : Launch) (g : Gt) (m0 : Nat) (m1 : Nat) (m2 : Nat) (m3 : Nat) (m4 : Nat) (m5 : Nat) (m6 : Nat) (m7 : Nat) (m8 : Nat) (m9 : Nat) (m10 : Nat) (n : Nat) (sy : Nat) (k : Nat → Nat) (o : Nat → Int32) (ke : Nat → Nat) (va : Nat → Int32) (fl : Nat → Nat) (sg : Nat → Nat) (cp : Nat → Nat) (fs : Nat → Nat) (la : Nat → Nat) (nx : Nat) (hd : Nat → Nat) (dn : Nat) (tg : Nat) (bh : Nat) (hsg : ∀ j, j < 3 → sg j ≤ 2) (h0 : sg 0 ≠ 1) (h1 : sg 1 ≠ 1) (h2 : sg 2 ≠ 1) (hn5 : n < 520) (hk4 : ∀ i, i < n → k i < 4) (e0 : sg 0 ≠ 0) (e1 : sg 1 = 0) : Ct lL g y_M_backup (.code y_M_backup b_M_backup 2 (some .int)) 6 200 [.ref m0] (wM g m0 m1 m2 m3 m4 m5 m6 m7 m8 m9 m10 n sy k o ke va fl sg cp fs la nx hd dn tg bh) (exP (some (.int (nI 1))) (wM g m0 m1 m2 m3 m4 m5 m6 m7 m8 m9 m10 n n k o ke va (ffS n fl 0 8) (va_up sg 1 1) (va_up cp 1 0) (va_up fs 1 (ckS k o n 0 3 n)) la nx hd dn tg bh)) := by
  refine Ct.ofW (by decide) (Nat.le_of_ble_eq_true rfl) ?_
  intro pX eX sX mX aX bX tX cX AX lsX HX oX QX zx zb zr zk zm zo zg zK zP zD zA zS zQ zl
  have zo : sX.vm.findClass R_M = some mX.cls := zo
  have zl : lv_has lsX 2 [(0, .ref m0)] := zl
  have hs0 := hsg 0 (by omega)
  have hs1 := hsg 1 (by omega)
  have hs2 := hsg 2 (by omega)
  refine lv_aload_n zx zb d_M_backup_0 rfl (lv_at zl 0 rfl) ?_
  refine ct_V (ws' := wM g m0 m1 m2 m3 m4 m5 m6 m7 m8 m9 m10 n sy k o ke va fl sg cp fs la nx hd dn tg bh) (rest := []) (st1 := [.int (-1)]) zx zb zm zo zg zK zP zD zS zA zl.1 (c_M_copying_x lL g m0 m1 m2 m3 m4 m5 m6 m7 m8 m9 m10 n sy k o ke va fl sg cp fs la nx hd dn tg bh hsg (by omega) (by omega) (by omega)) ok_M_copying ov_M_copying ml_M_80 (by decide) 0 7 rfl rfl rfl [0, 1, 2, 3, 4, 5, 6, 7, 8, 9, 10] [] 11 (by decide) rfl rfl rfl rfl (by decide) rfl rfl rfl (Nat.le_of_ble_eq_true rfl) d_M_backup_1 (fun HX oX zP zD zS => ?_)
  refine lv_if_lt (tgt := 9) zx zb d_M_backup_4 (by decide) (fun _ => ?_) (fun h => absurd h (fun h => h (by decide)))
  refine lv_iconst (v := (nI 0)) zx zb d_M_backup_9 (by decide) ?_
  refine lv_istore_n (lv' := [(1, .int (nI 0)), (0, .ref m0)]) zx zb d_M_backup_10 rfl zl (by decide) rfl (fun lsX zl => ?_)
  refine lv_iload_n zx zb d_M_backup_11 rfl (lv_at zl 0 rfl) ?_
  refine lv_iconst (v := (nI 3)) zx zb d_M_backup_12 (by decide) ?_
  refine wn_cge_F (tgt := 31) zx zb d_M_backup_13 (by decide) (by omega) (by omega) (by omega) ?_
  refine lv_aload_n zx zb d_M_backup_16 rfl (lv_at zl 1 rfl) ?_
  refine wv_get zx zb zg hin_M rfl zo zK zP 0 rfl 7 (by decide) rfl fl_M_25 rfl d_M_backup_17 ?_
  refine lv_iload_n zx zb d_M_backup_20 rfl (lv_at zl 0 rfl) ?_
  refine wv_ialdN zx zb zK zP 6 rfl (by omega) (by decide) d_M_backup_21 ?_
  refine wn_ieq_F (tgt := 31) zx zb d_M_backup_22 (by decide) (by omega) (by omega) ?_
  refine lv_iinc (k := 0) (lv' := [(1, .int (nI 1)), (0, .ref m0)]) zx zb d_M_backup_25 zl rfl (ni_inc _) (by decide) rfl (fun lsX zl => ?_)
  refine lv_goto (tgt := 11) zx zb d_M_backup_28 (by decide) ?_
  refine lv_iload_n zx zb d_M_backup_11 rfl (lv_at zl 0 rfl) ?_
  refine lv_iconst (v := (nI 3)) zx zb d_M_backup_12 (by decide) ?_
  refine wn_cge_F (tgt := 31) zx zb d_M_backup_13 (by decide) (by omega) (by omega) (by omega) ?_
  refine lv_aload_n zx zb d_M_backup_16 rfl (lv_at zl 1 rfl) ?_
  refine wv_get zx zb zg hin_M rfl zo zK zP 0 rfl 7 (by decide) rfl fl_M_25 rfl d_M_backup_17 ?_
  refine lv_iload_n zx zb d_M_backup_20 rfl (lv_at zl 0 rfl) ?_
  refine wv_ialdN zx zb zK zP 6 rfl (by omega) (by decide) d_M_backup_21 ?_
  refine wn_ieq_T (tgt := 31) zx zb d_M_backup_22 (by decide) (by omega) (by omega) ?_
  refine lv_iload_n zx zb d_M_backup_31 rfl (lv_at zl 0 rfl) ?_
  refine lv_iconst (v := (nI 3)) zx zb d_M_backup_32 (by decide) ?_
  refine wn_cne_T (tgt := 39) zx zb d_M_backup_33 (by decide) (by omega) (by omega) (by omega) ?_
  refine lv_aload_n zx zb d_M_backup_39 rfl (lv_at zl 1 rfl) ?_
  refine wv_get zx zb zg hin_M rfl zo zK zP 0 rfl 7 (by decide) rfl fl_M_25 rfl d_M_backup_40 ?_
  refine lv_iload_n zx zb d_M_backup_43 rfl (lv_at zl 0 rfl) ?_
  refine lv_iconst (v := (nI 1)) zx zb d_M_backup_44 (by decide) ?_
  refine wv_iastN zx zb zK zP zD zS 6 rfl (by omega) (by decide) d_M_backup_45 (fun HX oX zP zD zS => ?_)
  have zP : va_P g.1 cls (wM g m0 m1 m2 m3 m4 m5 m6 m7 m8 m9 m10 n sy k o ke va fl (va_up sg 1 1) cp fs la nx hd dn tg bh) HX := zP
  have zD : va_D AX (wM g m0 m1 m2 m3 m4 m5 m6 m7 m8 m9 m10 n sy k o ke va fl (va_up sg 1 1) cp fs la nx hd dn tg bh) := zD
  refine lv_aload_n zx zb d_M_backup_46 rfl (lv_at zl 1 rfl) ?_
  refine wv_get zx zb zg hin_M rfl zo zK zP 0 rfl 8 (by decide) rfl fl_M_28 rfl d_M_backup_47 ?_
  refine lv_iload_n zx zb d_M_backup_50 rfl (lv_at zl 0 rfl) ?_
  refine lv_iconst (v := (nI 0)) zx zb d_M_backup_51 (by decide) ?_
  refine wv_iastN zx zb zK zP zD zS 7 rfl (by omega) (by decide) d_M_backup_52 (fun HX oX zP zD zS => ?_)
  have zP : va_P g.1 cls (wM g m0 m1 m2 m3 m4 m5 m6 m7 m8 m9 m10 n sy k o ke va fl (va_up sg 1 1) (va_up cp 1 0) fs la nx hd dn tg bh) HX := zP
  have zD : va_D AX (wM g m0 m1 m2 m3 m4 m5 m6 m7 m8 m9 m10 n sy k o ke va fl (va_up sg 1 1) (va_up cp 1 0) fs la nx hd dn tg bh) := zD
  refine lv_aload_n zx zb d_M_backup_53 rfl (lv_at zl 1 rfl) ?_
  refine wv_get zx zb zg hin_M rfl zo zK zP 0 rfl 9 (by decide) rfl fl_M_31 rfl d_M_backup_54 ?_
  refine lv_iload_n zx zb d_M_backup_57 rfl (lv_at zl 0 rfl) ?_
  refine lv_aload_n zx zb d_M_backup_58 rfl (lv_at zl 1 rfl) ?_
  refine ct_V (ws' := wM g m0 m1 m2 m3 m4 m5 m6 m7 m8 m9 m10 n n k o ke va (ffS n fl 0 8) (va_up sg 1 1) (va_up cp 1 0) fs la nx hd dn tg bh) (rest := [.int (nI 1), .ref m8]) (st1 := [.int (nI (ckS k o n 0 3 n)), .int (nI 1), .ref m8]) zx zb zm zo zg zK zP zD zS zA zl.1 (c_M_checkpoint lL g m0 m1 m2 m3 m4 m5 m6 m7 m8 m9 m10 n sy k o ke va fl (va_up sg 1 1) (va_up cp 1 0) fs la nx hd dn tg bh (by omega) hk4) ok_M_checkpoint ov_M_checkpoint ml_M_84 (by decide) 0 7 rfl rfl rfl [0, 1, 2, 3, 4, 5, 6, 7, 8, 9, 10] [] 11 (by decide) rfl rfl rfl rfl (by decide) rfl rfl rfl (Nat.le_of_ble_eq_true rfl) d_M_backup_59 (fun HX oX zP zD zS => ?_)
  refine wv_iastN zx zb zK zP zD zS 8 rfl (by omega) (by decide) d_M_backup_62 (fun HX oX zP zD zS => ?_)
  have zP : va_P g.1 cls (wM g m0 m1 m2 m3 m4 m5 m6 m7 m8 m9 m10 n n k o ke va (ffS n fl 0 8) (va_up sg 1 1) (va_up cp 1 0) (va_up fs 1 (ckS k o n 0 3 n)) la nx hd dn tg bh) HX := zP
  have zD : va_D AX (wM g m0 m1 m2 m3 m4 m5 m6 m7 m8 m9 m10 n n k o ke va (ffS n fl 0 8) (va_up sg 1 1) (va_up cp 1 0) (va_up fs 1 (ckS k o n 0 3 n)) la nx hd dn tg bh) := zD
  refine lv_iload_n zx zb d_M_backup_63 rfl (lv_at zl 0 rfl) ?_
  exact ct_iret zQ zx zb zr zk zP zD zS d_M_backup_64 rfl (⟨rfl, rfl⟩)
set_option maxRecDepth 20000 in
theorem c_M_backup_2 (lL : Launch) (g : Gt) (m0 : Nat) (m1 : Nat) (m2 : Nat) (m3 : Nat) (m4 : Nat) (m5 : Nat) (m6 : Nat) (m7 : Nat) (m8 : Nat) (m9 : Nat) (m10 : Nat) (n : Nat) (sy : Nat) (k : Nat → Nat) (o : Nat → Int32) (ke : Nat → Nat) (va : Nat → Int32) (fl : Nat → Nat) (sg : Nat → Nat) (cp : Nat → Nat) (fs : Nat → Nat) (la : Nat → Nat) (nx : Nat) (hd : Nat → Nat) (dn : Nat) (tg : Nat) (bh : Nat) (hsg : ∀ j, j < 3 → sg j ≤ 2) (h0 : sg 0 ≠ 1) (h1 : sg 1 ≠ 1) (h2 : sg 2 ≠ 1) (hn5 : n < 520) (hk4 : ∀ i, i < n → k i < 4) (e0 : sg 0 ≠ 0) (e1 : sg 1 ≠ 0) (e2 : sg 2 = 0) : Ct lL g y_M_backup (.code y_M_backup b_M_backup 2 (some .int)) 6 200 [.ref m0] (wM g m0 m1 m2 m3 m4 m5 m6 m7 m8 m9 m10 n sy k o ke va fl sg cp fs la nx hd dn tg bh) (exP (some (.int (nI 2))) (wM g m0 m1 m2 m3 m4 m5 m6 m7 m8 m9 m10 n n k o ke va (ffS n fl 0 8) (va_up sg 2 1) (va_up cp 2 0) (va_up fs 2 (ckS k o n 0 3 n)) la nx hd dn tg bh)) := by
  refine Ct.ofW (by decide) (Nat.le_of_ble_eq_true rfl) ?_
  intro pX eX sX mX aX bX tX cX AX lsX HX oX QX zx zb zr zk zm zo zg zK zP zD zA zS zQ zl
  have zo : sX.vm.findClass R_M = some mX.cls := zo
  have zl : lv_has lsX 2 [(0, .ref m0)] := zl
  have hs0 := hsg 0 (by omega)
  have hs1 := hsg 1 (by omega)
  have hs2 := hsg 2 (by omega)
  refine lv_aload_n zx zb d_M_backup_0 rfl (lv_at zl 0 rfl) ?_
  refine ct_V (ws' := wM g m0 m1 m2 m3 m4 m5 m6 m7 m8 m9 m10 n sy k o ke va fl sg cp fs la nx hd dn tg bh) (rest := []) (st1 := [.int (-1)]) zx zb zm zo zg zK zP zD zS zA zl.1 (c_M_copying_x lL g m0 m1 m2 m3 m4 m5 m6 m7 m8 m9 m10 n sy k o ke va fl sg cp fs la nx hd dn tg bh hsg (by omega) (by omega) (by omega)) ok_M_copying ov_M_copying ml_M_80 (by decide) 0 7 rfl rfl rfl [0, 1, 2, 3, 4, 5, 6, 7, 8, 9, 10] [] 11 (by decide) rfl rfl rfl rfl (by decide) rfl rfl rfl (Nat.le_of_ble_eq_true rfl) d_M_backup_1 (fun HX oX zP zD zS => ?_)
  refine lv_if_lt (tgt := 9) zx zb d_M_backup_4 (by decide) (fun _ => ?_) (fun h => absurd h (fun h => h (by decide)))
  refine lv_iconst (v := (nI 0)) zx zb d_M_backup_9 (by decide) ?_
  refine lv_istore_n (lv' := [(1, .int (nI 0)), (0, .ref m0)]) zx zb d_M_backup_10 rfl zl (by decide) rfl (fun lsX zl => ?_)
  refine lv_iload_n zx zb d_M_backup_11 rfl (lv_at zl 0 rfl) ?_
  refine lv_iconst (v := (nI 3)) zx zb d_M_backup_12 (by decide) ?_
  refine wn_cge_F (tgt := 31) zx zb d_M_backup_13 (by decide) (by omega) (by omega) (by omega) ?_
  refine lv_aload_n zx zb d_M_backup_16 rfl (lv_at zl 1 rfl) ?_
  refine wv_get zx zb zg hin_M rfl zo zK zP 0 rfl 7 (by decide) rfl fl_M_25 rfl d_M_backup_17 ?_
  refine lv_iload_n zx zb d_M_backup_20 rfl (lv_at zl 0 rfl) ?_
  refine wv_ialdN zx zb zK zP 6 rfl (by omega) (by decide) d_M_backup_21 ?_
  refine wn_ieq_F (tgt := 31) zx zb d_M_backup_22 (by decide) (by omega) (by omega) ?_
  refine lv_iinc (k := 0) (lv' := [(1, .int (nI 1)), (0, .ref m0)]) zx zb d_M_backup_25 zl rfl (ni_inc _) (by decide) rfl (fun lsX zl => ?_)
  refine lv_goto (tgt := 11) zx zb d_M_backup_28 (by decide) ?_
  refine lv_iload_n zx zb d_M_backup_11 rfl (lv_at zl 0 rfl) ?_
  refine lv_iconst (v := (nI 3)) zx zb d_M_backup_12 (by decide) ?_
  refine wn_cge_F (tgt := 31) zx zb d_M_backup_13 (by decide) (by omega) (by omega) (by omega) ?_
  refine lv_aload_n zx zb d_M_backup_16 rfl (lv_at zl 1 rfl) ?_
  refine wv_get zx zb zg hin_M rfl zo zK zP 0 rfl 7 (by decide) rfl fl_M_25 rfl d_M_backup_17 ?_
  refine lv_iload_n zx zb d_M_backup_20 rfl (lv_at zl 0 rfl) ?_
  refine wv_ialdN zx zb zK zP 6 rfl (by omega) (by decide) d_M_backup_21 ?_
  refine wn_ieq_F (tgt := 31) zx zb d_M_backup_22 (by decide) (by omega) (by omega) ?_
  refine lv_iinc (k := 0) (lv' := [(1, .int (nI 2)), (0, .ref m0)]) zx zb d_M_backup_25 zl rfl (ni_inc _) (by decide) rfl (fun lsX zl => ?_)
  refine lv_goto (tgt := 11) zx zb d_M_backup_28 (by decide) ?_
  refine lv_iload_n zx zb d_M_backup_11 rfl (lv_at zl 0 rfl) ?_
  refine lv_iconst (v := (nI 3)) zx zb d_M_backup_12 (by decide) ?_
  refine wn_cge_F (tgt := 31) zx zb d_M_backup_13 (by decide) (by omega) (by omega) (by omega) ?_
  refine lv_aload_n zx zb d_M_backup_16 rfl (lv_at zl 1 rfl) ?_
  refine wv_get zx zb zg hin_M rfl zo zK zP 0 rfl 7 (by decide) rfl fl_M_25 rfl d_M_backup_17 ?_
  refine lv_iload_n zx zb d_M_backup_20 rfl (lv_at zl 0 rfl) ?_
  refine wv_ialdN zx zb zK zP 6 rfl (by omega) (by decide) d_M_backup_21 ?_
  refine wn_ieq_T (tgt := 31) zx zb d_M_backup_22 (by decide) (by omega) (by omega) ?_
  refine lv_iload_n zx zb d_M_backup_31 rfl (lv_at zl 0 rfl) ?_
  refine lv_iconst (v := (nI 3)) zx zb d_M_backup_32 (by decide) ?_
  refine wn_cne_T (tgt := 39) zx zb d_M_backup_33 (by decide) (by omega) (by omega) (by omega) ?_
  refine lv_aload_n zx zb d_M_backup_39 rfl (lv_at zl 1 rfl) ?_
  refine wv_get zx zb zg hin_M rfl zo zK zP 0 rfl 7 (by decide) rfl fl_M_25 rfl d_M_backup_40 ?_
  refine lv_iload_n zx zb d_M_backup_43 rfl (lv_at zl 0 rfl) ?_
  refine lv_iconst (v := (nI 1)) zx zb d_M_backup_44 (by decide) ?_
  refine wv_iastN zx zb zK zP zD zS 6 rfl (by omega) (by decide) d_M_backup_45 (fun HX oX zP zD zS => ?_)
  have zP : va_P g.1 cls (wM g m0 m1 m2 m3 m4 m5 m6 m7 m8 m9 m10 n sy k o ke va fl (va_up sg 2 1) cp fs la nx hd dn tg bh) HX := zP
  have zD : va_D AX (wM g m0 m1 m2 m3 m4 m5 m6 m7 m8 m9 m10 n sy k o ke va fl (va_up sg 2 1) cp fs la nx hd dn tg bh) := zD
  refine lv_aload_n zx zb d_M_backup_46 rfl (lv_at zl 1 rfl) ?_
  refine wv_get zx zb zg hin_M rfl zo zK zP 0 rfl 8 (by decide) rfl fl_M_28 rfl d_M_backup_47 ?_
  refine lv_iload_n zx zb d_M_backup_50 rfl (lv_at zl 0 rfl) ?_
  refine lv_iconst (v := (nI 0)) zx zb d_M_backup_51 (by decide) ?_
  refine wv_iastN zx zb zK zP zD zS 7 rfl (by omega) (by decide) d_M_backup_52 (fun HX oX zP zD zS => ?_)
  have zP : va_P g.1 cls (wM g m0 m1 m2 m3 m4 m5 m6 m7 m8 m9 m10 n sy k o ke va fl (va_up sg 2 1) (va_up cp 2 0) fs la nx hd dn tg bh) HX := zP
  have zD : va_D AX (wM g m0 m1 m2 m3 m4 m5 m6 m7 m8 m9 m10 n sy k o ke va fl (va_up sg 2 1) (va_up cp 2 0) fs la nx hd dn tg bh) := zD
  refine lv_aload_n zx zb d_M_backup_53 rfl (lv_at zl 1 rfl) ?_
  refine wv_get zx zb zg hin_M rfl zo zK zP 0 rfl 9 (by decide) rfl fl_M_31 rfl d_M_backup_54 ?_
  refine lv_iload_n zx zb d_M_backup_57 rfl (lv_at zl 0 rfl) ?_
  refine lv_aload_n zx zb d_M_backup_58 rfl (lv_at zl 1 rfl) ?_
  refine ct_V (ws' := wM g m0 m1 m2 m3 m4 m5 m6 m7 m8 m9 m10 n n k o ke va (ffS n fl 0 8) (va_up sg 2 1) (va_up cp 2 0) fs la nx hd dn tg bh) (rest := [.int (nI 2), .ref m8]) (st1 := [.int (nI (ckS k o n 0 3 n)), .int (nI 2), .ref m8]) zx zb zm zo zg zK zP zD zS zA zl.1 (c_M_checkpoint lL g m0 m1 m2 m3 m4 m5 m6 m7 m8 m9 m10 n sy k o ke va fl (va_up sg 2 1) (va_up cp 2 0) fs la nx hd dn tg bh (by omega) hk4) ok_M_checkpoint ov_M_checkpoint ml_M_84 (by decide) 0 7 rfl rfl rfl [0, 1, 2, 3, 4, 5, 6, 7, 8, 9, 10] [] 11 (by decide) rfl rfl rfl rfl (by decide) rfl rfl rfl (Nat.le_of_ble_eq_true rfl) d_M_backup_59 (fun HX oX zP zD zS => ?_)
  refine wv_iastN zx zb zK zP zD zS 8 rfl (by omega) (by decide) d_M_backup_62 (fun HX oX zP zD zS => ?_)
  have zP : va_P g.1 cls (wM g m0 m1 m2 m3 m4 m5 m6 m7 m8 m9 m10 n n k o ke va (ffS n fl 0 8) (va_up sg 2 1) (va_up cp 2 0) (va_up fs 2 (ckS k o n 0 3 n)) la nx hd dn tg bh) HX := zP
  have zD : va_D AX (wM g m0 m1 m2 m3 m4 m5 m6 m7 m8 m9 m10 n n k o ke va (ffS n fl 0 8) (va_up sg 2 1) (va_up cp 2 0) (va_up fs 2 (ckS k o n 0 3 n)) la nx hd dn tg bh) := zD
  refine lv_iload_n zx zb d_M_backup_63 rfl (lv_at zl 0 rfl) ?_
  exact ct_iret zQ zx zb zr zk zP zD zS d_M_backup_64 rfl (⟨rfl, rfl⟩)
set_option maxRecDepth 20000 in
theorem c_M_copy_x (lL : Launch) (g : Gt) (m0 : Nat) (m1 : Nat) (m2 : Nat) (m3 : Nat) (m4 : Nat) (m5 : Nat) (m6 : Nat) (m7 : Nat) (m8 : Nat) (m9 : Nat) (m10 : Nat) (n : Nat) (sy : Nat) (k : Nat → Nat) (o : Nat → Int32) (ke : Nat → Nat) (va : Nat → Int32) (fl : Nat → Nat) (sg : Nat → Nat) (cp : Nat → Nat) (fs : Nat → Nat) (la : Nat → Nat) (nx : Nat) (hd : Nat → Nat) (dn : Nat) (tg : Nat) (bh : Nat) (hsg : ∀ j, j < 3 → sg j ≤ 2) (h0 : sg 0 ≠ 1) (h1 : sg 1 ≠ 1) (h2 : sg 2 ≠ 1) : Ct lL g y_M_copy (.code y_M_copy b_M_copy 2 (some .int)) 6 200 [.ref m0] (wM g m0 m1 m2 m3 m4 m5 m6 m7 m8 m9 m10 n sy k o ke va fl sg cp fs la nx hd dn tg bh) (exP (some (.int (-3))) (wM g m0 m1 m2 m3 m4 m5 m6 m7 m8 m9 m10 n sy k o ke va fl sg cp fs la nx hd dn tg bh)) := by
  refine Ct.ofW (by decide) (Nat.le_of_ble_eq_true rfl) ?_
  intro pX eX sX mX aX bX tX cX AX lsX HX oX QX zx zb zr zk zm zo zg zK zP zD zA zS zQ zl
  have zo : sX.vm.findClass R_M = some mX.cls := zo
  have zl : lv_has lsX 2 [(0, .ref m0)] := zl
  refine lv_aload_n zx zb d_M_copy_0 rfl (lv_at zl 0 rfl) ?_
  refine ct_V (ws' := wM g m0 m1 m2 m3 m4 m5 m6 m7 m8 m9 m10 n sy k o ke va fl sg cp fs la nx hd dn tg bh) (rest := []) (st1 := [.int (-1)]) zx zb zm zo zg zK zP zD zS zA zl.1 (c_M_copying_x lL g m0 m1 m2 m3 m4 m5 m6 m7 m8 m9 m10 n sy k o ke va fl sg cp fs la nx hd dn tg bh hsg (by omega) (by omega) (by omega)) ok_M_copying ov_M_copying ml_M_80 (by decide) 0 7 rfl rfl rfl [0, 1, 2, 3, 4, 5, 6, 7, 8, 9, 10] [] 11 (by decide) rfl rfl rfl rfl (by decide) rfl rfl rfl (Nat.le_of_ble_eq_true rfl) d_M_copy_1 (fun HX oX zP zD zS => ?_)
  refine lv_istore_n (lv' := [(1, .int (-1)), (0, .ref m0)]) zx zb d_M_copy_4 rfl zl (by decide) rfl (fun lsX zl => ?_)
  refine lv_iload_n zx zb d_M_copy_5 rfl (lv_at zl 0 rfl) ?_
  refine lv_if_ge (tgt := 12) zx zb d_M_copy_6 (by decide) (fun h => absurd h (by decide)) (fun _ => ?_)
  refine lv_bipush (v := (-3)) zx zb d_M_copy_9 (by decide) ?_
  exact ct_iret zQ zx zb zr zk zP zD zS d_M_copy_11 rfl (⟨rfl, rfl⟩)
set_option maxRecDepth 20000 in
theorem c_M_copy_m0 (lL : Launch) (g : Gt) (m0 : Nat) (m1 : Nat) (m2 : Nat) (m3 : Nat) (m4 : Nat) (m5 : Nat) (m6 : Nat) (m7 : Nat) (m8 : Nat) (m9 : Nat) (m10 : Nat) (n : Nat) (sy : Nat) (k : Nat → Nat) (o : Nat → Int32) (ke : Nat → Nat) (va : Nat → Int32) (fl : Nat → Nat) (sg : Nat → Nat) (cp : Nat → Nat) (fs : Nat → Nat) (la : Nat → Nat) (nx : Nat) (hd : Nat → Nat) (dn : Nat) (tg : Nat) (bh : Nat) (hsg : ∀ j, j < 3 → sg j ≤ 2) (h0 : sg 0 = 1) (hcp : cp 0 < 7) : Ct lL g y_M_copy (.code y_M_copy b_M_copy 2 (some .int)) 6 200 [.ref m0] (wM g m0 m1 m2 m3 m4 m5 m6 m7 m8 m9 m10 n sy k o ke va fl sg cp fs la nx hd dn tg bh) (exP (some (.int (nI (8 - (cp 0 + 1))))) (wM g m0 m1 m2 m3 m4 m5 m6 m7 m8 m9 m10 n sy k o ke va fl sg (va_up cp 0 ((cp 0) + 1)) fs la nx hd dn tg bh)) := by
  refine Ct.ofW (by decide) (Nat.le_of_ble_eq_true rfl) ?_
  intro pX eX sX mX aX bX tX cX AX lsX HX oX QX zx zb zr zk zm zo zg zK zP zD zA zS zQ zl
  have zo : sX.vm.findClass R_M = some mX.cls := zo
  have zl : lv_has lsX 2 [(0, .ref m0)] := zl
  refine lv_aload_n zx zb d_M_copy_0 rfl (lv_at zl 0 rfl) ?_
  refine ct_V (ws' := wM g m0 m1 m2 m3 m4 m5 m6 m7 m8 m9 m10 n sy k o ke va fl sg cp fs la nx hd dn tg bh) (rest := []) (st1 := [.int (nI 0)]) zx zb zm zo zg zK zP zD zS zA zl.1 (c_M_copying_0 lL g m0 m1 m2 m3 m4 m5 m6 m7 m8 m9 m10 n sy k o ke va fl sg cp fs la nx hd dn tg bh hsg (by omega)) ok_M_copying ov_M_copying ml_M_80 (by decide) 0 7 rfl rfl rfl [0, 1, 2, 3, 4, 5, 6, 7, 8, 9, 10] [] 11 (by decide) rfl rfl rfl rfl (by decide) rfl rfl rfl (Nat.le_of_ble_eq_true rfl) d_M_copy_1 (fun HX oX zP zD zS => ?_)
  refine lv_istore_n (lv' := [(1, .int (nI 0)), (0, .ref m0)]) zx zb d_M_copy_4 rfl zl (by decide) rfl (fun lsX zl => ?_)
  refine lv_iload_n zx zb d_M_copy_5 rfl (lv_at zl 0 rfl) ?_
  refine wn_ige_T (tgt := 12) zx zb d_M_copy_6 (by decide) (by omega) (trivial) ?_
  refine lv_aload_n zx zb d_M_copy_12 rfl (lv_at zl 1 rfl) ?_
  refine wv_get zx zb zg hin_M rfl zo zK zP 0 rfl 8 (by decide) rfl fl_M_28 rfl d_M_copy_13 ?_
  refine lv_iload_n zx zb d_M_copy_16 rfl (lv_at zl 0 rfl) ?_
  refine lv_dup2_11 zx zb d_M_copy_17 rfl rfl ?_
  refine wv_ialdN zx zb zK zP 7 rfl (by omega) (by decide) d_M_copy_18 ?_
  refine lv_iconst (v := (nI 1)) zx zb d_M_copy_19 (by decide) ?_
  refine wv_iadd zx zb d_M_copy_20 (nI_add _ _) ?_
  refine wv_iastN zx zb zK zP zD zS 7 rfl (by omega) (by decide) d_M_copy_21 (fun HX oX zP zD zS => ?_)
  have zP : va_P g.1 cls (wM g m0 m1 m2 m3 m4 m5 m6 m7 m8 m9 m10 n sy k o ke va fl sg (va_up cp 0 ((cp 0) + 1)) fs la nx hd dn tg bh) HX := zP
  have zD : va_D AX (wM g m0 m1 m2 m3 m4 m5 m6 m7 m8 m9 m10 n sy k o ke va fl sg (va_up cp 0 ((cp 0) + 1)) fs la nx hd dn tg bh) := zD
  refine lv_aload_n zx zb d_M_copy_22 rfl (lv_at zl 1 rfl) ?_
  refine wv_get zx zb zg hin_M rfl zo zK zP 0 rfl 8 (by decide) rfl fl_M_28 rfl d_M_copy_23 ?_
  refine lv_iload_n zx zb d_M_copy_26 rfl (lv_at zl 0 rfl) ?_
  refine wv_ialdN zx zb zK zP 7 rfl (by omega) (by decide) d_M_copy_27 ?_
  refine wv_top (y := (nI (cp 0 + 1))) (congrArg nI (va_up_self _ _ _)) ?_
  refine lv_bipush (v := (nI 8)) zx zb d_M_copy_28 (by decide) ?_
  refine wn_cne_T (tgt := 50) zx zb d_M_copy_30 (by decide) (by omega) (by omega) (by omega) ?_
  refine lv_bipush (v := (nI 8)) zx zb d_M_copy_50 (by decide) ?_
  refine lv_aload_n zx zb d_M_copy_52 rfl (lv_at zl 1 rfl) ?_
  refine wv_get zx zb zg hin_M rfl zo zK zP 0 rfl 8 (by decide) rfl fl_M_28 rfl d_M_copy_53 ?_
  refine lv_iload_n zx zb d_M_copy_56 rfl (lv_at zl 0 rfl) ?_
  refine wv_ialdN zx zb zK zP 7 rfl (by omega) (by decide) d_M_copy_57 ?_
  refine wv_top (y := (nI (cp 0 + 1))) (congrArg nI (va_up_self _ _ _)) ?_
  refine wv_isub zx zb d_M_copy_58 (pk_sub (by omega)) ?_
  exact ct_iret zQ zx zb zr zk zP zD zS d_M_copy_59 rfl (⟨rfl, rfl⟩)
set_option maxRecDepth 20000 in
theorem c_M_copy_l0 (lL : Launch) (g : Gt) (m0 : Nat) (m1 : Nat) (m2 : Nat) (m3 : Nat) (m4 : Nat) (m5 : Nat) (m6 : Nat) (m7 : Nat) (m8 : Nat) (m9 : Nat) (m10 : Nat) (n : Nat) (sy : Nat) (k : Nat → Nat) (o : Nat → Int32) (ke : Nat → Nat) (va : Nat → Int32) (fl : Nat → Nat) (sg : Nat → Nat) (cp : Nat → Nat) (fs : Nat → Nat) (la : Nat → Nat) (nx : Nat) (hd : Nat → Nat) (dn : Nat) (tg : Nat) (bh : Nat) (hsg : ∀ j, j < 3 → sg j ≤ 2) (h0 : sg 0 = 1) (hcp : cp 0 = 7) : Ct lL g y_M_copy (.code y_M_copy b_M_copy 2 (some .int)) 6 200 [.ref m0] (wM g m0 m1 m2 m3 m4 m5 m6 m7 m8 m9 m10 n sy k o ke va fl sg cp fs la nx hd dn tg bh) (exP (some (.int (nI (8 - (cp 0 + 1))))) (wM g m0 m1 m2 m3 m4 m5 m6 m7 m8 m9 m10 n sy k o ke va fl (va_up sg 0 2) (va_up cp 0 ((cp 0) + 1)) fs (va_up la 0 sy) nx hd dn tg bh)) := by
  refine Ct.ofW (by decide) (Nat.le_of_ble_eq_true rfl) ?_
  intro pX eX sX mX aX bX tX cX AX lsX HX oX QX zx zb zr zk zm zo zg zK zP zD zA zS zQ zl
  have zo : sX.vm.findClass R_M = some mX.cls := zo
  have zl : lv_has lsX 2 [(0, .ref m0)] := zl
  refine lv_aload_n zx zb d_M_copy_0 rfl (lv_at zl 0 rfl) ?_
  refine ct_V (ws' := wM g m0 m1 m2 m3 m4 m5 m6 m7 m8 m9 m10 n sy k o ke va fl sg cp fs la nx hd dn tg bh) (rest := []) (st1 := [.int (nI 0)]) zx zb zm zo zg zK zP zD zS zA zl.1 (c_M_copying_0 lL g m0 m1 m2 m3 m4 m5 m6 m7 m8 m9 m10 n sy k o ke va fl sg cp fs la nx hd dn tg bh hsg (by omega)) ok_M_copying ov_M_copying ml_M_80 (by decide) 0 7 rfl rfl rfl [0, 1, 2, 3, 4, 5, 6, 7, 8, 9, 10] [] 11 (by decide) rfl rfl rfl rfl (by decide) rfl rfl rfl (Nat.le_of_ble_eq_true rfl) d_M_copy_1 (fun HX oX zP zD zS => ?_)
  refine lv_istore_n (lv' := [(1, .int (nI 0)), (0, .ref m0)]) zx zb d_M_copy_4 rfl zl (by decide) rfl (fun lsX zl => ?_)
  refine lv_iload_n zx zb d_M_copy_5 rfl (lv_at zl 0 rfl) ?_
  refine wn_ige_T (tgt := 12) zx zb d_M_copy_6 (by decide) (by omega) (trivial) ?_
  refine lv_aload_n zx zb d_M_copy_12 rfl (lv_at zl 1 rfl) ?_
  refine wv_get zx zb zg hin_M rfl zo zK zP 0 rfl 8 (by decide) rfl fl_M_28 rfl d_M_copy_13 ?_
  refine lv_iload_n zx zb d_M_copy_16 rfl (lv_at zl 0 rfl) ?_
  refine lv_dup2_11 zx zb d_M_copy_17 rfl rfl ?_
  refine wv_ialdN zx zb zK zP 7 rfl (by omega) (by decide) d_M_copy_18 ?_
  refine lv_iconst (v := (nI 1)) zx zb d_M_copy_19 (by decide) ?_
  refine wv_iadd zx zb d_M_copy_20 (nI_add _ _) ?_
  refine wv_iastN zx zb zK zP zD zS 7 rfl (by omega) (by decide) d_M_copy_21 (fun HX oX zP zD zS => ?_)
  have zP : va_P g.1 cls (wM g m0 m1 m2 m3 m4 m5 m6 m7 m8 m9 m10 n sy k o ke va fl sg (va_up cp 0 ((cp 0) + 1)) fs la nx hd dn tg bh) HX := zP
  have zD : va_D AX (wM g m0 m1 m2 m3 m4 m5 m6 m7 m8 m9 m10 n sy k o ke va fl sg (va_up cp 0 ((cp 0) + 1)) fs la nx hd dn tg bh) := zD
  refine lv_aload_n zx zb d_M_copy_22 rfl (lv_at zl 1 rfl) ?_
  refine wv_get zx zb zg hin_M rfl zo zK zP 0 rfl 8 (by decide) rfl fl_M_28 rfl d_M_copy_23 ?_
  refine lv_iload_n zx zb d_M_copy_26 rfl (lv_at zl 0 rfl) ?_
  refine wv_ialdN zx zb zK zP 7 rfl (by omega) (by decide) d_M_copy_27 ?_
  refine wv_top (y := (nI (cp 0 + 1))) (congrArg nI (va_up_self _ _ _)) ?_
  refine lv_bipush (v := (nI 8)) zx zb d_M_copy_28 (by decide) ?_
  refine wn_cne_F (tgt := 50) zx zb d_M_copy_30 (by decide) (by omega) (by omega) (by omega) ?_
  refine lv_aload_n zx zb d_M_copy_33 rfl (lv_at zl 1 rfl) ?_
  refine wv_get zx zb zg hin_M rfl zo zK zP 0 rfl 7 (by decide) rfl fl_M_25 rfl d_M_copy_34 ?_
  refine lv_iload_n zx zb d_M_copy_37 rfl (lv_at zl 0 rfl) ?_
  refine lv_iconst (v := (nI 2)) zx zb d_M_copy_38 (by decide) ?_
  refine wv_iastN zx zb zK zP zD zS 6 rfl (by omega) (by decide) d_M_copy_39 (fun HX oX zP zD zS => ?_)
  have zP : va_P g.1 cls (wM g m0 m1 m2 m3 m4 m5 m6 m7 m8 m9 m10 n sy k o ke va fl (va_up sg 0 2) (va_up cp 0 ((cp 0) + 1)) fs la nx hd dn tg bh) HX := zP
  have zD : va_D AX (wM g m0 m1 m2 m3 m4 m5 m6 m7 m8 m9 m10 n sy k o ke va fl (va_up sg 0 2) (va_up cp 0 ((cp 0) + 1)) fs la nx hd dn tg bh) := zD
  refine lv_aload_n zx zb d_M_copy_40 rfl (lv_at zl 1 rfl) ?_
  refine wv_get zx zb zg hin_M rfl zo zK zP 0 rfl 10 (by decide) rfl fl_M_34 rfl d_M_copy_41 ?_
  refine lv_iload_n zx zb d_M_copy_44 rfl (lv_at zl 0 rfl) ?_
  refine lv_aload_n zx zb d_M_copy_45 rfl (lv_at zl 1 rfl) ?_
  refine wv_get zx zb zg hin_M rfl zo zK zP 0 rfl 1 (by decide) rfl fl_M_74 rfl d_M_copy_46 ?_
  refine wv_iastN zx zb zK zP zD zS 9 rfl (by omega) (by decide) d_M_copy_49 (fun HX oX zP zD zS => ?_)
  have zP : va_P g.1 cls (wM g m0 m1 m2 m3 m4 m5 m6 m7 m8 m9 m10 n sy k o ke va fl (va_up sg 0 2) (va_up cp 0 ((cp 0) + 1)) fs (va_up la 0 sy) nx hd dn tg bh) HX := zP
  have zD : va_D AX (wM g m0 m1 m2 m3 m4 m5 m6 m7 m8 m9 m10 n sy k o ke va fl (va_up sg 0 2) (va_up cp 0 ((cp 0) + 1)) fs (va_up la 0 sy) nx hd dn tg bh) := zD
  refine lv_bipush (v := (nI 8)) zx zb d_M_copy_50 (by decide) ?_
  refine lv_aload_n zx zb d_M_copy_52 rfl (lv_at zl 1 rfl) ?_
  refine wv_get zx zb zg hin_M rfl zo zK zP 0 rfl 8 (by decide) rfl fl_M_28 rfl d_M_copy_53 ?_
  refine lv_iload_n zx zb d_M_copy_56 rfl (lv_at zl 0 rfl) ?_
  refine wv_ialdN zx zb zK zP 7 rfl (by omega) (by decide) d_M_copy_57 ?_
  refine wv_top (y := (nI (cp 0 + 1))) (congrArg nI (va_up_self _ _ _)) ?_
  refine wv_isub zx zb d_M_copy_58 (pk_sub (by omega)) ?_
  exact ct_iret zQ zx zb zr zk zP zD zS d_M_copy_59 rfl (⟨rfl, rfl⟩)
set_option maxRecDepth 20000 in
theorem c_M_copy_m1 (lL : Launch) (g : Gt) (m0 : Nat) (m1 : Nat) (m2 : Nat) (m3 : Nat) (m4 : Nat) (m5 : Nat) (m6 : Nat) (m7 : Nat) (m8 : Nat) (m9 : Nat) (m10 : Nat) (n : Nat) (sy : Nat) (k : Nat → Nat) (o : Nat → Int32) (ke : Nat → Nat) (va : Nat → Int32) (fl : Nat → Nat) (sg : Nat → Nat) (cp : Nat → Nat) (fs : Nat → Nat) (la : Nat → Nat) (nx : Nat) (hd : Nat → Nat) (dn : Nat) (tg : Nat) (bh : Nat) (hsg : ∀ j, j < 3 → sg j ≤ 2) (h0 : sg 0 ≠ 1) (h1 : sg 1 = 1) (hcp : cp 1 < 7) : Ct lL g y_M_copy (.code y_M_copy b_M_copy 2 (some .int)) 6 200 [.ref m0] (wM g m0 m1 m2 m3 m4 m5 m6 m7 m8 m9 m10 n sy k o ke va fl sg cp fs la nx hd dn tg bh) (exP (some (.int (nI (8 - (cp 1 + 1))))) (wM g m0 m1 m2 m3 m4 m5 m6 m7 m8 m9 m10 n sy k o ke va fl sg (va_up cp 1 ((cp 1) + 1)) fs la nx hd dn tg bh)) := by
  refine Ct.ofW (by decide) (Nat.le_of_ble_eq_true rfl) ?_
  intro pX eX sX mX aX bX tX cX AX lsX HX oX QX zx zb zr zk zm zo zg zK zP zD zA zS zQ zl
  have zo : sX.vm.findClass R_M = some mX.cls := zo
  have zl : lv_has lsX 2 [(0, .ref m0)] := zl
  refine lv_aload_n zx zb d_M_copy_0 rfl (lv_at zl 0 rfl) ?_
  refine ct_V (ws' := wM g m0 m1 m2 m3 m4 m5 m6 m7 m8 m9 m10 n sy k o ke va fl sg cp fs la nx hd dn tg bh) (rest := []) (st1 := [.int (nI 1)]) zx zb zm zo zg zK zP zD zS zA zl.1 (c_M_copying_1 lL g m0 m1 m2 m3 m4 m5 m6 m7 m8 m9 m10 n sy k o ke va fl sg cp fs la nx hd dn tg bh hsg (by omega) (by omega)) ok_M_copying ov_M_copying ml_M_80 (by decide) 0 7 rfl rfl rfl [0, 1, 2, 3, 4, 5, 6, 7, 8, 9, 10] [] 11 (by decide) rfl rfl rfl rfl (by decide) rfl rfl rfl (Nat.le_of_ble_eq_true rfl) d_M_copy_1 (fun HX oX zP zD zS => ?_)
  refine lv_istore_n (lv' := [(1, .int (nI 1)), (0, .ref m0)]) zx zb d_M_copy_4 rfl zl (by decide) rfl (fun lsX zl => ?_)
  refine lv_iload_n zx zb d_M_copy_5 rfl (lv_at zl 0 rfl) ?_
  refine wn_ige_T (tgt := 12) zx zb d_M_copy_6 (by decide) (by omega) (trivial) ?_
  refine lv_aload_n zx zb d_M_copy_12 rfl (lv_at zl 1 rfl) ?_
  refine wv_get zx zb zg hin_M rfl zo zK zP 0 rfl 8 (by decide) rfl fl_M_28 rfl d_M_copy_13 ?_
  refine lv_iload_n zx zb d_M_copy_16 rfl (lv_at zl 0 rfl) ?_
  refine lv_dup2_11 zx zb d_M_copy_17 rfl rfl ?_
  refine wv_ialdN zx zb zK zP 7 rfl (by omega) (by decide) d_M_copy_18 ?_
  refine lv_iconst (v := (nI 1)) zx zb d_M_copy_19 (by decide) ?_
  refine wv_iadd zx zb d_M_copy_20 (nI_add _ _) ?_
  refine wv_iastN zx zb zK zP zD zS 7 rfl (by omega) (by decide) d_M_copy_21 (fun HX oX zP zD zS => ?_)
  have zP : va_P g.1 cls (wM g m0 m1 m2 m3 m4 m5 m6 m7 m8 m9 m10 n sy k o ke va fl sg (va_up cp 1 ((cp 1) + 1)) fs la nx hd dn tg bh) HX := zP
  have zD : va_D AX (wM g m0 m1 m2 m3 m4 m5 m6 m7 m8 m9 m10 n sy k o ke va fl sg (va_up cp 1 ((cp 1) + 1)) fs la nx hd dn tg bh) := zD
  refine lv_aload_n zx zb d_M_copy_22 rfl (lv_at zl 1 rfl) ?_
  refine wv_get zx zb zg hin_M rfl zo zK zP 0 rfl 8 (by decide) rfl fl_M_28 rfl d_M_copy_23 ?_
  refine lv_iload_n zx zb d_M_copy_26 rfl (lv_at zl 0 rfl) ?_
  refine wv_ialdN zx zb zK zP 7 rfl (by omega) (by decide) d_M_copy_27 ?_
  refine wv_top (y := (nI (cp 1 + 1))) (congrArg nI (va_up_self _ _ _)) ?_
  refine lv_bipush (v := (nI 8)) zx zb d_M_copy_28 (by decide) ?_
  refine wn_cne_T (tgt := 50) zx zb d_M_copy_30 (by decide) (by omega) (by omega) (by omega) ?_
  refine lv_bipush (v := (nI 8)) zx zb d_M_copy_50 (by decide) ?_
  refine lv_aload_n zx zb d_M_copy_52 rfl (lv_at zl 1 rfl) ?_
  refine wv_get zx zb zg hin_M rfl zo zK zP 0 rfl 8 (by decide) rfl fl_M_28 rfl d_M_copy_53 ?_
  refine lv_iload_n zx zb d_M_copy_56 rfl (lv_at zl 0 rfl) ?_
  refine wv_ialdN zx zb zK zP 7 rfl (by omega) (by decide) d_M_copy_57 ?_
  refine wv_top (y := (nI (cp 1 + 1))) (congrArg nI (va_up_self _ _ _)) ?_
  refine wv_isub zx zb d_M_copy_58 (pk_sub (by omega)) ?_
  exact ct_iret zQ zx zb zr zk zP zD zS d_M_copy_59 rfl (⟨rfl, rfl⟩)
set_option maxRecDepth 20000 in
theorem c_M_copy_l1 (lL : Launch) (g : Gt) (m0 : Nat) (m1 : Nat) (m2 : Nat) (m3 : Nat) (m4 : Nat) (m5 : Nat) (m6 : Nat) (m7 : Nat) (m8 : Nat) (m9 : Nat) (m10 : Nat) (n : Nat) (sy : Nat) (k : Nat → Nat) (o : Nat → Int32) (ke : Nat → Nat) (va : Nat → Int32) (fl : Nat → Nat) (sg : Nat → Nat) (cp : Nat → Nat) (fs : Nat → Nat) (la : Nat → Nat) (nx : Nat) (hd : Nat → Nat) (dn : Nat) (tg : Nat) (bh : Nat) (hsg : ∀ j, j < 3 → sg j ≤ 2) (h0 : sg 0 ≠ 1) (h1 : sg 1 = 1) (hcp : cp 1 = 7) : Ct lL g y_M_copy (.code y_M_copy b_M_copy 2 (some .int)) 6 200 [.ref m0] (wM g m0 m1 m2 m3 m4 m5 m6 m7 m8 m9 m10 n sy k o ke va fl sg cp fs la nx hd dn tg bh) (exP (some (.int (nI (8 - (cp 1 + 1))))) (wM g m0 m1 m2 m3 m4 m5 m6 m7 m8 m9 m10 n sy k o ke va fl (va_up sg 1 2) (va_up cp 1 ((cp 1) + 1)) fs (va_up la 1 sy) nx hd dn tg bh)) := by
  refine Ct.ofW (by decide) (Nat.le_of_ble_eq_true rfl) ?_
  intro pX eX sX mX aX bX tX cX AX lsX HX oX QX zx zb zr zk zm zo zg zK zP zD zA zS zQ zl
  have zo : sX.vm.findClass R_M = some mX.cls := zo
  have zl : lv_has lsX 2 [(0, .ref m0)] := zl
  refine lv_aload_n zx zb d_M_copy_0 rfl (lv_at zl 0 rfl) ?_
  refine ct_V (ws' := wM g m0 m1 m2 m3 m4 m5 m6 m7 m8 m9 m10 n sy k o ke va fl sg cp fs la nx hd dn tg bh) (rest := []) (st1 := [.int (nI 1)]) zx zb zm zo zg zK zP zD zS zA zl.1 (c_M_copying_1 lL g m0 m1 m2 m3 m4 m5 m6 m7 m8 m9 m10 n sy k o ke va fl sg cp fs la nx hd dn tg bh hsg (by omega) (by omega)) ok_M_copying ov_M_copying ml_M_80 (by decide) 0 7 rfl rfl rfl [0, 1, 2, 3, 4, 5, 6, 7, 8, 9, 10] [] 11 (by decide) rfl rfl rfl rfl (by decide) rfl rfl rfl (Nat.le_of_ble_eq_true rfl) d_M_copy_1 (fun HX oX zP zD zS => ?_)
  refine lv_istore_n (lv' := [(1, .int (nI 1)), (0, .ref m0)]) zx zb d_M_copy_4 rfl zl (by decide) rfl (fun lsX zl => ?_)
  refine lv_iload_n zx zb d_M_copy_5 rfl (lv_at zl 0 rfl) ?_
  refine wn_ige_T (tgt := 12) zx zb d_M_copy_6 (by decide) (by omega) (trivial) ?_
  refine lv_aload_n zx zb d_M_copy_12 rfl (lv_at zl 1 rfl) ?_
  refine wv_get zx zb zg hin_M rfl zo zK zP 0 rfl 8 (by decide) rfl fl_M_28 rfl d_M_copy_13 ?_
  refine lv_iload_n zx zb d_M_copy_16 rfl (lv_at zl 0 rfl) ?_
  refine lv_dup2_11 zx zb d_M_copy_17 rfl rfl ?_
  refine wv_ialdN zx zb zK zP 7 rfl (by omega) (by decide) d_M_copy_18 ?_
  refine lv_iconst (v := (nI 1)) zx zb d_M_copy_19 (by decide) ?_
  refine wv_iadd zx zb d_M_copy_20 (nI_add _ _) ?_
  refine wv_iastN zx zb zK zP zD zS 7 rfl (by omega) (by decide) d_M_copy_21 (fun HX oX zP zD zS => ?_)
  have zP : va_P g.1 cls (wM g m0 m1 m2 m3 m4 m5 m6 m7 m8 m9 m10 n sy k o ke va fl sg (va_up cp 1 ((cp 1) + 1)) fs la nx hd dn tg bh) HX := zP
  have zD : va_D AX (wM g m0 m1 m2 m3 m4 m5 m6 m7 m8 m9 m10 n sy k o ke va fl sg (va_up cp 1 ((cp 1) + 1)) fs la nx hd dn tg bh) := zD
  refine lv_aload_n zx zb d_M_copy_22 rfl (lv_at zl 1 rfl) ?_
  refine wv_get zx zb zg hin_M rfl zo zK zP 0 rfl 8 (by decide) rfl fl_M_28 rfl d_M_copy_23 ?_
  refine lv_iload_n zx zb d_M_copy_26 rfl (lv_at zl 0 rfl) ?_
  refine wv_ialdN zx zb zK zP 7 rfl (by omega) (by decide) d_M_copy_27 ?_
  refine wv_top (y := (nI (cp 1 + 1))) (congrArg nI (va_up_self _ _ _)) ?_
  refine lv_bipush (v := (nI 8)) zx zb d_M_copy_28 (by decide) ?_
  refine wn_cne_F (tgt := 50) zx zb d_M_copy_30 (by decide) (by omega) (by omega) (by omega) ?_
  refine lv_aload_n zx zb d_M_copy_33 rfl (lv_at zl 1 rfl) ?_
  refine wv_get zx zb zg hin_M rfl zo zK zP 0 rfl 7 (by decide) rfl fl_M_25 rfl d_M_copy_34 ?_
  refine lv_iload_n zx zb d_M_copy_37 rfl (lv_at zl 0 rfl) ?_
  refine lv_iconst (v := (nI 2)) zx zb d_M_copy_38 (by decide) ?_
  refine wv_iastN zx zb zK zP zD zS 6 rfl (by omega) (by decide) d_M_copy_39 (fun HX oX zP zD zS => ?_)
  have zP : va_P g.1 cls (wM g m0 m1 m2 m3 m4 m5 m6 m7 m8 m9 m10 n sy k o ke va fl (va_up sg 1 2) (va_up cp 1 ((cp 1) + 1)) fs la nx hd dn tg bh) HX := zP
  have zD : va_D AX (wM g m0 m1 m2 m3 m4 m5 m6 m7 m8 m9 m10 n sy k o ke va fl (va_up sg 1 2) (va_up cp 1 ((cp 1) + 1)) fs la nx hd dn tg bh) := zD
  refine lv_aload_n zx zb d_M_copy_40 rfl (lv_at zl 1 rfl) ?_
  refine wv_get zx zb zg hin_M rfl zo zK zP 0 rfl 10 (by decide) rfl fl_M_34 rfl d_M_copy_41 ?_
  refine lv_iload_n zx zb d_M_copy_44 rfl (lv_at zl 0 rfl) ?_
  refine lv_aload_n zx zb d_M_copy_45 rfl (lv_at zl 1 rfl) ?_
  refine wv_get zx zb zg hin_M rfl zo zK zP 0 rfl 1 (by decide) rfl fl_M_74 rfl d_M_copy_46 ?_
  refine wv_iastN zx zb zK zP zD zS 9 rfl (by omega) (by decide) d_M_copy_49 (fun HX oX zP zD zS => ?_)
  have zP : va_P g.1 cls (wM g m0 m1 m2 m3 m4 m5 m6 m7 m8 m9 m10 n sy k o ke va fl (va_up sg 1 2) (va_up cp 1 ((cp 1) + 1)) fs (va_up la 1 sy) nx hd dn tg bh) HX := zP
  have zD : va_D AX (wM g m0 m1 m2 m3 m4 m5 m6 m7 m8 m9 m10 n sy k o ke va fl (va_up sg 1 2) (va_up cp 1 ((cp 1) + 1)) fs (va_up la 1 sy) nx hd dn tg bh) := zD
  refine lv_bipush (v := (nI 8)) zx zb d_M_copy_50 (by decide) ?_
  refine lv_aload_n zx zb d_M_copy_52 rfl (lv_at zl 1 rfl) ?_
  refine wv_get zx zb zg hin_M rfl zo zK zP 0 rfl 8 (by decide) rfl fl_M_28 rfl d_M_copy_53 ?_
  refine lv_iload_n zx zb d_M_copy_56 rfl (lv_at zl 0 rfl) ?_
  refine wv_ialdN zx zb zK zP 7 rfl (by omega) (by decide) d_M_copy_57 ?_
  refine wv_top (y := (nI (cp 1 + 1))) (congrArg nI (va_up_self _ _ _)) ?_
  refine wv_isub zx zb d_M_copy_58 (pk_sub (by omega)) ?_
  exact ct_iret zQ zx zb zr zk zP zD zS d_M_copy_59 rfl (⟨rfl, rfl⟩)
set_option maxRecDepth 20000 in
theorem c_M_copy_m2 (lL : Launch) (g : Gt) (m0 : Nat) (m1 : Nat) (m2 : Nat) (m3 : Nat) (m4 : Nat) (m5 : Nat) (m6 : Nat) (m7 : Nat) (m8 : Nat) (m9 : Nat) (m10 : Nat) (n : Nat) (sy : Nat) (k : Nat → Nat) (o : Nat → Int32) (ke : Nat → Nat) (va : Nat → Int32) (fl : Nat → Nat) (sg : Nat → Nat) (cp : Nat → Nat) (fs : Nat → Nat) (la : Nat → Nat) (nx : Nat) (hd : Nat → Nat) (dn : Nat) (tg : Nat) (bh : Nat) (hsg : ∀ j, j < 3 → sg j ≤ 2) (h0 : sg 0 ≠ 1) (h1 : sg 1 ≠ 1) (h2 : sg 2 = 1) (hcp : cp 2 < 7) : Ct lL g y_M_copy (.code y_M_copy b_M_copy 2 (some .int)) 6 200 [.ref m0] (wM g m0 m1 m2 m3 m4 m5 m6 m7 m8 m9 m10 n sy k o ke va fl sg cp fs la nx hd dn tg bh) (exP (some (.int (nI (8 - (cp 2 + 1))))) (wM g m0 m1 m2 m3 m4 m5 m6 m7 m8 m9 m10 n sy k o ke va fl sg (va_up cp 2 ((cp 2) + 1)) fs la nx hd dn tg bh)) := by
  refine Ct.ofW (by decide) (Nat.le_of_ble_eq_true rfl) ?_
  intro pX eX sX mX aX bX tX cX AX lsX HX oX QX zx zb zr zk zm zo zg zK zP zD zA zS zQ zl
  have zo : sX.vm.findClass R_M = some mX.cls := zo
  have zl : lv_has lsX 2 [(0, .ref m0)] := zl
  refine lv_aload_n zx zb d_M_copy_0 rfl (lv_at zl 0 rfl) ?_
  refine ct_V (ws' := wM g m0 m1 m2 m3 m4 m5 m6 m7 m8 m9 m10 n sy k o ke va fl sg cp fs la nx hd dn tg bh) (rest := []) (st1 := [.int (nI 2)]) zx zb zm zo zg zK zP zD zS zA zl.1 (c_M_copying_2 lL g m0 m1 m2 m3 m4 m5 m6 m7 m8 m9 m10 n sy k o ke va fl sg cp fs la nx hd dn tg bh hsg (by omega) (by omega) (by omega)) ok_M_copying ov_M_copying ml_M_80 (by decide) 0 7 rfl rfl rfl [0, 1, 2, 3, 4, 5, 6, 7, 8, 9, 10] [] 11 (by decide) rfl rfl rfl rfl (by decide) rfl rfl rfl (Nat.le_of_ble_eq_true rfl) d_M_copy_1 (fun HX oX zP zD zS => ?_)
  refine lv_istore_n (lv' := [(1, .int (nI 2)), (0, .ref m0)]) zx zb d_M_copy_4 rfl zl (by decide) rfl (fun lsX zl => ?_)
  refine lv_iload_n zx zb d_M_copy_5 rfl (lv_at zl 0 rfl) ?_
  refine wn_ige_T (tgt := 12) zx zb d_M_copy_6 (by decide) (by omega) (trivial) ?_
  refine lv_aload_n zx zb d_M_copy_12 rfl (lv_at zl 1 rfl) ?_
  refine wv_get zx zb zg hin_M rfl zo zK zP 0 rfl 8 (by decide) rfl fl_M_28 rfl d_M_copy_13 ?_
  refine lv_iload_n zx zb d_M_copy_16 rfl (lv_at zl 0 rfl) ?_
  refine lv_dup2_11 zx zb d_M_copy_17 rfl rfl ?_
  refine wv_ialdN zx zb zK zP 7 rfl (by omega) (by decide) d_M_copy_18 ?_
  refine lv_iconst (v := (nI 1)) zx zb d_M_copy_19 (by decide) ?_
  refine wv_iadd zx zb d_M_copy_20 (nI_add _ _) ?_
  refine wv_iastN zx zb zK zP zD zS 7 rfl (by omega) (by decide) d_M_copy_21 (fun HX oX zP zD zS => ?_)
  have zP : va_P g.1 cls (wM g m0 m1 m2 m3 m4 m5 m6 m7 m8 m9 m10 n sy k o ke va fl sg (va_up cp 2 ((cp 2) + 1)) fs la nx hd dn tg bh) HX := zP
  have zD : va_D AX (wM g m0 m1 m2 m3 m4 m5 m6 m7 m8 m9 m10 n sy k o ke va fl sg (va_up cp 2 ((cp 2) + 1)) fs la nx hd dn tg bh) := zD
  refine lv_aload_n zx zb d_M_copy_22 rfl (lv_at zl 1 rfl) ?_
  refine wv_get zx zb zg hin_M rfl zo zK zP 0 rfl 8 (by decide) rfl fl_M_28 rfl d_M_copy_23 ?_
  refine lv_iload_n zx zb d_M_copy_26 rfl (lv_at zl 0 rfl) ?_
  refine wv_ialdN zx zb zK zP 7 rfl (by omega) (by decide) d_M_copy_27 ?_
  refine wv_top (y := (nI (cp 2 + 1))) (congrArg nI (va_up_self _ _ _)) ?_
  refine lv_bipush (v := (nI 8)) zx zb d_M_copy_28 (by decide) ?_
  refine wn_cne_T (tgt := 50) zx zb d_M_copy_30 (by decide) (by omega) (by omega) (by omega) ?_
  refine lv_bipush (v := (nI 8)) zx zb d_M_copy_50 (by decide) ?_
  refine lv_aload_n zx zb d_M_copy_52 rfl (lv_at zl 1 rfl) ?_
  refine wv_get zx zb zg hin_M rfl zo zK zP 0 rfl 8 (by decide) rfl fl_M_28 rfl d_M_copy_53 ?_
  refine lv_iload_n zx zb d_M_copy_56 rfl (lv_at zl 0 rfl) ?_
  refine wv_ialdN zx zb zK zP 7 rfl (by omega) (by decide) d_M_copy_57 ?_
  refine wv_top (y := (nI (cp 2 + 1))) (congrArg nI (va_up_self _ _ _)) ?_
  refine wv_isub zx zb d_M_copy_58 (pk_sub (by omega)) ?_
  exact ct_iret zQ zx zb zr zk zP zD zS d_M_copy_59 rfl (⟨rfl, rfl⟩)
set_option maxRecDepth 20000 in
theorem c_M_copy_l2 (lL : Launch) (g : Gt) (m0 : Nat) (m1 : Nat) (m2 : Nat) (m3 : Nat) (m4 : Nat) (m5 : Nat) (m6 : Nat) (m7 : Nat) (m8 : Nat) (m9 : Nat) (m10 : Nat) (n : Nat) (sy : Nat) (k : Nat → Nat) (o : Nat → Int32) (ke : Nat → Nat) (va : Nat → Int32) (fl : Nat → Nat) (sg : Nat → Nat) (cp : Nat → Nat) (fs : Nat → Nat) (la : Nat → Nat) (nx : Nat) (hd : Nat → Nat) (dn : Nat) (tg : Nat) (bh : Nat) (hsg : ∀ j, j < 3 → sg j ≤ 2) (h0 : sg 0 ≠ 1) (h1 : sg 1 ≠ 1) (h2 : sg 2 = 1) (hcp : cp 2 = 7) : Ct lL g y_M_copy (.code y_M_copy b_M_copy 2 (some .int)) 6 200 [.ref m0] (wM g m0 m1 m2 m3 m4 m5 m6 m7 m8 m9 m10 n sy k o ke va fl sg cp fs la nx hd dn tg bh) (exP (some (.int (nI (8 - (cp 2 + 1))))) (wM g m0 m1 m2 m3 m4 m5 m6 m7 m8 m9 m10 n sy k o ke va fl (va_up sg 2 2) (va_up cp 2 ((cp 2) + 1)) fs (va_up la 2 sy) nx hd dn tg bh)) := by
  refine Ct.ofW (by decide) (Nat.le_of_ble_eq_true rfl) ?_
  intro pX eX sX mX aX bX tX cX AX lsX HX oX QX zx zb zr zk zm zo zg zK zP zD zA zS zQ zl
  have zo : sX.vm.findClass R_M = some mX.cls := zo
  have zl : lv_has lsX 2 [(0, .ref m0)] := zl
  refine lv_aload_n zx zb d_M_copy_0 rfl (lv_at zl 0 rfl) ?_
  refine ct_V (ws' := wM g m0 m1 m2 m3 m4 m5 m6 m7 m8 m9 m10 n sy k o ke va fl sg cp fs la nx hd dn tg bh) (rest := []) (st1 := [.int (nI 2)]) zx zb zm zo zg zK zP zD zS zA zl.1 (c_M_copying_2 lL g m0 m1 m2 m3 m4 m5 m6 m7 m8 m9 m10 n sy k o ke va fl sg cp fs la nx hd dn tg bh hsg (by omega) (by omega) (by omega)) ok_M_copying ov_M_copying ml_M_80 (by decide) 0 7 rfl rfl rfl [0, 1, 2, 3, 4, 5, 6, 7, 8, 9, 10] [] 11 (by decide) rfl rfl rfl rfl (by decide) rfl rfl rfl (Nat.le_of_ble_eq_true rfl) d_M_copy_1 (fun HX oX zP zD zS => ?_)
  refine lv_istore_n (lv' := [(1, .int (nI 2)), (0, .ref m0)]) zx zb d_M_copy_4 rfl zl (by decide) rfl (fun lsX zl => ?_)
  refine lv_iload_n zx zb d_M_copy_5 rfl (lv_at zl 0 rfl) ?_
  refine wn_ige_T (tgt := 12) zx zb d_M_copy_6 (by decide) (by omega) (trivial) ?_
  refine lv_aload_n zx zb d_M_copy_12 rfl (lv_at zl 1 rfl) ?_
  refine wv_get zx zb zg hin_M rfl zo zK zP 0 rfl 8 (by decide) rfl fl_M_28 rfl d_M_copy_13 ?_
  refine lv_iload_n zx zb d_M_copy_16 rfl (lv_at zl 0 rfl) ?_
  refine lv_dup2_11 zx zb d_M_copy_17 rfl rfl ?_
  refine wv_ialdN zx zb zK zP 7 rfl (by omega) (by decide) d_M_copy_18 ?_
  refine lv_iconst (v := (nI 1)) zx zb d_M_copy_19 (by decide) ?_
  refine wv_iadd zx zb d_M_copy_20 (nI_add _ _) ?_
  refine wv_iastN zx zb zK zP zD zS 7 rfl (by omega) (by decide) d_M_copy_21 (fun HX oX zP zD zS => ?_)
  have zP : va_P g.1 cls (wM g m0 m1 m2 m3 m4 m5 m6 m7 m8 m9 m10 n sy k o ke va fl sg (va_up cp 2 ((cp 2) + 1)) fs la nx hd dn tg bh) HX := zP
  have zD : va_D AX (wM g m0 m1 m2 m3 m4 m5 m6 m7 m8 m9 m10 n sy k o ke va fl sg (va_up cp 2 ((cp 2) + 1)) fs la nx hd dn tg bh) := zD
  refine lv_aload_n zx zb d_M_copy_22 rfl (lv_at zl 1 rfl) ?_
  refine wv_get zx zb zg hin_M rfl zo zK zP 0 rfl 8 (by decide) rfl fl_M_28 rfl d_M_copy_23 ?_
  refine lv_iload_n zx zb d_M_copy_26 rfl (lv_at zl 0 rfl) ?_
  refine wv_ialdN zx zb zK zP 7 rfl (by omega) (by decide) d_M_copy_27 ?_
  refine wv_top (y := (nI (cp 2 + 1))) (congrArg nI (va_up_self _ _ _)) ?_
  refine lv_bipush (v := (nI 8)) zx zb d_M_copy_28 (by decide) ?_
  refine wn_cne_F (tgt := 50) zx zb d_M_copy_30 (by decide) (by omega) (by omega) (by omega) ?_
  refine lv_aload_n zx zb d_M_copy_33 rfl (lv_at zl 1 rfl) ?_
  refine wv_get zx zb zg hin_M rfl zo zK zP 0 rfl 7 (by decide) rfl fl_M_25 rfl d_M_copy_34 ?_
  refine lv_iload_n zx zb d_M_copy_37 rfl (lv_at zl 0 rfl) ?_
  refine lv_iconst (v := (nI 2)) zx zb d_M_copy_38 (by decide) ?_
  refine wv_iastN zx zb zK zP zD zS 6 rfl (by omega) (by decide) d_M_copy_39 (fun HX oX zP zD zS => ?_)
  have zP : va_P g.1 cls (wM g m0 m1 m2 m3 m4 m5 m6 m7 m8 m9 m10 n sy k o ke va fl (va_up sg 2 2) (va_up cp 2 ((cp 2) + 1)) fs la nx hd dn tg bh) HX := zP
  have zD : va_D AX (wM g m0 m1 m2 m3 m4 m5 m6 m7 m8 m9 m10 n sy k o ke va fl (va_up sg 2 2) (va_up cp 2 ((cp 2) + 1)) fs la nx hd dn tg bh) := zD
  refine lv_aload_n zx zb d_M_copy_40 rfl (lv_at zl 1 rfl) ?_
  refine wv_get zx zb zg hin_M rfl zo zK zP 0 rfl 10 (by decide) rfl fl_M_34 rfl d_M_copy_41 ?_
  refine lv_iload_n zx zb d_M_copy_44 rfl (lv_at zl 0 rfl) ?_
  refine lv_aload_n zx zb d_M_copy_45 rfl (lv_at zl 1 rfl) ?_
  refine wv_get zx zb zg hin_M rfl zo zK zP 0 rfl 1 (by decide) rfl fl_M_74 rfl d_M_copy_46 ?_
  refine wv_iastN zx zb zK zP zD zS 9 rfl (by omega) (by decide) d_M_copy_49 (fun HX oX zP zD zS => ?_)
  have zP : va_P g.1 cls (wM g m0 m1 m2 m3 m4 m5 m6 m7 m8 m9 m10 n sy k o ke va fl (va_up sg 2 2) (va_up cp 2 ((cp 2) + 1)) fs (va_up la 2 sy) nx hd dn tg bh) HX := zP
  have zD : va_D AX (wM g m0 m1 m2 m3 m4 m5 m6 m7 m8 m9 m10 n sy k o ke va fl (va_up sg 2 2) (va_up cp 2 ((cp 2) + 1)) fs (va_up la 2 sy) nx hd dn tg bh) := zD
  refine lv_bipush (v := (nI 8)) zx zb d_M_copy_50 (by decide) ?_
  refine lv_aload_n zx zb d_M_copy_52 rfl (lv_at zl 1 rfl) ?_
  refine wv_get zx zb zg hin_M rfl zo zK zP 0 rfl 8 (by decide) rfl fl_M_28 rfl d_M_copy_53 ?_
  refine lv_iload_n zx zb d_M_copy_56 rfl (lv_at zl 0 rfl) ?_
  refine wv_ialdN zx zb zK zP 7 rfl (by omega) (by decide) d_M_copy_57 ?_
  refine wv_top (y := (nI (cp 2 + 1))) (congrArg nI (va_up_self _ _ _)) ?_
  refine wv_isub zx zb d_M_copy_58 (pk_sub (by omega)) ?_
  exact ct_iret zQ zx zb zr zk zP zD zS d_M_copy_59 rfl (⟨rfl, rfl⟩)
set_option maxRecDepth 20000 in
theorem c_M_fin_n (lL : Launch) (g : Gt) (m0 : Nat) (m1 : Nat) (m2 : Nat) (m3 : Nat) (m4 : Nat) (m5 : Nat) (m6 : Nat) (m7 : Nat) (m8 : Nat) (m9 : Nat) (m10 : Nat) (n : Nat) (sy : Nat) (k : Nat → Nat) (o : Nat → Int32) (ke : Nat → Nat) (va : Nat → Int32) (fl : Nat → Nat) (sg : Nat → Nat) (cp : Nat → Nat) (fs : Nat → Nat) (la : Nat → Nat) (nx : Nat) (hd : Nat → Nat) (dn : Nat) (tg : Nat) (bh : Nat) (j : Int32) (hj : j < 0) : Ct lL g y_M_finished (.code y_M_finished b_M_finished 2 (some .boolean)) 0 0 [.ref m0, .int j] (wM g m0 m1 m2 m3 m4 m5 m6 m7 m8 m9 m10 n sy k o ke va fl sg cp fs la nx hd dn tg bh) (exP (some (.int (nI 0))) (wM g m0 m1 m2 m3 m4 m5 m6 m7 m8 m9 m10 n sy k o ke va fl sg cp fs la nx hd dn tg bh)) := by
  refine Ct.ofW (by decide) (Nat.le_of_ble_eq_true rfl) ?_
  intro pX eX sX mX aX bX tX cX AX lsX HX oX QX zx zb zr zk zm zo zg zK zP zD zA zS zQ zl
  have zo : sX.vm.findClass R_M = some mX.cls := zo
  have zl : lv_has lsX 2 [(0, .ref m0), (1, .int j)] := zl
  refine lv_iload_n zx zb d_M_finished_0 rfl (lv_at zl 1 rfl) ?_
  refine lv_if_lt (tgt := 23) zx zb d_M_finished_1 (by decide) (fun _ => ?_) (fun h => absurd h (fun h => h hj))
  refine lv_iconst (v := (nI 0)) zx zb d_M_finished_23 (by decide) ?_
  exact ct_zret zQ zx zb zr zk zP zD zS d_M_finished_24 rfl (by decide) (⟨rfl, rfl⟩)
set_option maxRecDepth 20000 in
theorem c_M_fin_g (lL : Launch) (g : Gt) (m0 : Nat) (m1 : Nat) (m2 : Nat) (m3 : Nat) (m4 : Nat) (m5 : Nat) (m6 : Nat) (m7 : Nat) (m8 : Nat) (m9 : Nat) (m10 : Nat) (n : Nat) (sy : Nat) (k : Nat → Nat) (o : Nat → Int32) (ke : Nat → Nat) (va : Nat → Int32) (fl : Nat → Nat) (sg : Nat → Nat) (cp : Nat → Nat) (fs : Nat → Nat) (la : Nat → Nat) (nx : Nat) (hd : Nat → Nat) (dn : Nat) (tg : Nat) (bh : Nat) (j : Nat) (hj : 3 ≤ j) (hj2 : j < 2147483648) : Ct lL g y_M_finished (.code y_M_finished b_M_finished 2 (some .boolean)) 0 0 [.ref m0, .int (nI j)] (wM g m0 m1 m2 m3 m4 m5 m6 m7 m8 m9 m10 n sy k o ke va fl sg cp fs la nx hd dn tg bh) (exP (some (.int (nI 0))) (wM g m0 m1 m2 m3 m4 m5 m6 m7 m8 m9 m10 n sy k o ke va fl sg cp fs la nx hd dn tg bh)) := by
  refine Ct.ofW (by decide) (Nat.le_of_ble_eq_true rfl) ?_
  intro pX eX sX mX aX bX tX cX AX lsX HX oX QX zx zb zr zk zm zo zg zK zP zD zA zS zQ zl
  have zo : sX.vm.findClass R_M = some mX.cls := zo
  have zl : lv_has lsX 2 [(0, .ref m0), (1, .int (nI j))] := zl
  refine lv_iload_n zx zb d_M_finished_0 rfl (lv_at zl 1 rfl) ?_
  refine wn_ilt_F (tgt := 23) zx zb d_M_finished_1 (by decide) (by omega) (trivial) ?_
  refine lv_iload_n zx zb d_M_finished_4 rfl (lv_at zl 1 rfl) ?_
  refine lv_iconst (v := (nI 2)) zx zb d_M_finished_5 (by decide) ?_
  refine wn_cgt_T (tgt := 23) zx zb d_M_finished_6 (by decide) (by omega) (by omega) (by omega) ?_
  refine lv_iconst (v := (nI 0)) zx zb d_M_finished_23 (by decide) ?_
  exact ct_zret zQ zx zb zr zk zP zD zS d_M_finished_24 rfl (by decide) (⟨rfl, rfl⟩)
set_option maxRecDepth 20000 in
theorem c_M_fin_f (lL : Launch) (g : Gt) (m0 : Nat) (m1 : Nat) (m2 : Nat) (m3 : Nat) (m4 : Nat) (m5 : Nat) (m6 : Nat) (m7 : Nat) (m8 : Nat) (m9 : Nat) (m10 : Nat) (n : Nat) (sy : Nat) (k : Nat → Nat) (o : Nat → Int32) (ke : Nat → Nat) (va : Nat → Int32) (fl : Nat → Nat) (sg : Nat → Nat) (cp : Nat → Nat) (fs : Nat → Nat) (la : Nat → Nat) (nx : Nat) (hd : Nat → Nat) (dn : Nat) (tg : Nat) (bh : Nat) (j : Nat) (hj : j < 3) (hfj : sg j ≠ 2) (hfj2 : sg j ≤ 2) : Ct lL g y_M_finished (.code y_M_finished b_M_finished 2 (some .boolean)) 0 0 [.ref m0, .int (nI j)] (wM g m0 m1 m2 m3 m4 m5 m6 m7 m8 m9 m10 n sy k o ke va fl sg cp fs la nx hd dn tg bh) (exP (some (.int (nI 0))) (wM g m0 m1 m2 m3 m4 m5 m6 m7 m8 m9 m10 n sy k o ke va fl sg cp fs la nx hd dn tg bh)) := by
  refine Ct.ofW (by decide) (Nat.le_of_ble_eq_true rfl) ?_
  intro pX eX sX mX aX bX tX cX AX lsX HX oX QX zx zb zr zk zm zo zg zK zP zD zA zS zQ zl
  have zo : sX.vm.findClass R_M = some mX.cls := zo
  have zl : lv_has lsX 2 [(0, .ref m0), (1, .int (nI j))] := zl
  refine lv_iload_n zx zb d_M_finished_0 rfl (lv_at zl 1 rfl) ?_
  refine wn_ilt_F (tgt := 23) zx zb d_M_finished_1 (by decide) (by omega) (trivial) ?_
  refine lv_iload_n zx zb d_M_finished_4 rfl (lv_at zl 1 rfl) ?_
  refine lv_iconst (v := (nI 2)) zx zb d_M_finished_5 (by decide) ?_
  refine wn_cgt_F (tgt := 23) zx zb d_M_finished_6 (by decide) (by omega) (by omega) (by omega) ?_
  refine lv_aload_n zx zb d_M_finished_9 rfl (lv_at zl 0 rfl) ?_
  refine wv_get zx zb zg hin_M rfl zo zK zP 0 rfl 7 (by decide) rfl fl_M_25 rfl d_M_finished_10 ?_
  refine lv_iload_n zx zb d_M_finished_13 rfl (lv_at zl 1 rfl) ?_
  refine wv_ialdN zx zb zK zP 6 rfl (by omega) (by decide) d_M_finished_14 ?_
  refine lv_iconst (v := (nI 2)) zx zb d_M_finished_15 (by decide) ?_
  refine wn_cne_T (tgt := 23) zx zb d_M_finished_16 (by decide) (by omega) (by omega) (by omega) ?_
  refine lv_iconst (v := (nI 0)) zx zb d_M_finished_23 (by decide) ?_
  exact ct_zret zQ zx zb zr zk zP zD zS d_M_finished_24 rfl (by decide) (⟨rfl, rfl⟩)
set_option maxRecDepth 20000 in
theorem c_M_fin_t (lL : Launch) (g : Gt) (m0 : Nat) (m1 : Nat) (m2 : Nat) (m3 : Nat) (m4 : Nat) (m5 : Nat) (m6 : Nat) (m7 : Nat) (m8 : Nat) (m9 : Nat) (m10 : Nat) (n : Nat) (sy : Nat) (k : Nat → Nat) (o : Nat → Int32) (ke : Nat → Nat) (va : Nat → Int32) (fl : Nat → Nat) (sg : Nat → Nat) (cp : Nat → Nat) (fs : Nat → Nat) (la : Nat → Nat) (nx : Nat) (hd : Nat → Nat) (dn : Nat) (tg : Nat) (bh : Nat) (j : Nat) (hj : j < 3) (hfj : sg j = 2) : Ct lL g y_M_finished (.code y_M_finished b_M_finished 2 (some .boolean)) 0 0 [.ref m0, .int (nI j)] (wM g m0 m1 m2 m3 m4 m5 m6 m7 m8 m9 m10 n sy k o ke va fl sg cp fs la nx hd dn tg bh) (exP (some (.int (nI 1))) (wM g m0 m1 m2 m3 m4 m5 m6 m7 m8 m9 m10 n sy k o ke va fl sg cp fs la nx hd dn tg bh)) := by
  refine Ct.ofW (by decide) (Nat.le_of_ble_eq_true rfl) ?_
  intro pX eX sX mX aX bX tX cX AX lsX HX oX QX zx zb zr zk zm zo zg zK zP zD zA zS zQ zl
  have zo : sX.vm.findClass R_M = some mX.cls := zo
  have zl : lv_has lsX 2 [(0, .ref m0), (1, .int (nI j))] := zl
  refine lv_iload_n zx zb d_M_finished_0 rfl (lv_at zl 1 rfl) ?_
  refine wn_ilt_F (tgt := 23) zx zb d_M_finished_1 (by decide) (by omega) (trivial) ?_
  refine lv_iload_n zx zb d_M_finished_4 rfl (lv_at zl 1 rfl) ?_
  refine lv_iconst (v := (nI 2)) zx zb d_M_finished_5 (by decide) ?_
  refine wn_cgt_F (tgt := 23) zx zb d_M_finished_6 (by decide) (by omega) (by omega) (by omega) ?_
  refine lv_aload_n zx zb d_M_finished_9 rfl (lv_at zl 0 rfl) ?_
  refine wv_get zx zb zg hin_M rfl zo zK zP 0 rfl 7 (by decide) rfl fl_M_25 rfl d_M_finished_10 ?_
  refine lv_iload_n zx zb d_M_finished_13 rfl (lv_at zl 1 rfl) ?_
  refine wv_ialdN zx zb zK zP 6 rfl (by omega) (by decide) d_M_finished_14 ?_
  refine lv_iconst (v := (nI 2)) zx zb d_M_finished_15 (by decide) ?_
  refine wn_cne_F (tgt := 23) zx zb d_M_finished_16 (by decide) (by omega) (by omega) (by omega) ?_
  refine lv_iconst (v := (nI 1)) zx zb d_M_finished_19 (by decide) ?_
  refine lv_goto (tgt := 24) zx zb d_M_finished_20 (by decide) ?_
  exact ct_zret zQ zx zb zr zk zP zD zS d_M_finished_24 rfl (by decide) (⟨rfl, rfl⟩)
set_option maxRecDepth 20000 in
theorem c_M_forget_n (lL : Launch) (g : Gt) (m0 : Nat) (m1 : Nat) (m2 : Nat) (m3 : Nat) (m4 : Nat) (m5 : Nat) (m6 : Nat) (m7 : Nat) (m8 : Nat) (m9 : Nat) (m10 : Nat) (n : Nat) (sy : Nat) (k : Nat → Nat) (o : Nat → Int32) (ke : Nat → Nat) (va : Nat → Int32) (fl : Nat → Nat) (sg : Nat → Nat) (cp : Nat → Nat) (fs : Nat → Nat) (la : Nat → Nat) (nx : Nat) (hd : Nat → Nat) (dn : Nat) (tg : Nat) (bh : Nat) (j : Int32) (hj : j < 0) : Ct lL g y_M_forget (.code y_M_forget b_M_forget 2 (some .boolean)) 6 200 [.ref m0, .int j] (wM g m0 m1 m2 m3 m4 m5 m6 m7 m8 m9 m10 n sy k o ke va fl sg cp fs la nx hd dn tg bh) (exP (some (.int (nI 0))) (wM g m0 m1 m2 m3 m4 m5 m6 m7 m8 m9 m10 n sy k o ke va fl sg cp fs la nx hd dn tg bh)) := by
  refine Ct.ofW (by decide) (Nat.le_of_ble_eq_true rfl) ?_
  intro pX eX sX mX aX bX tX cX AX lsX HX oX QX zx zb zr zk zm zo zg zK zP zD zA zS zQ zl
  have zo : sX.vm.findClass R_M = some mX.cls := zo
  have zl : lv_has lsX 2 [(0, .ref m0), (1, .int j)] := zl
  refine lv_aload_n zx zb d_M_forget_0 rfl (lv_at zl 0 rfl) ?_
  refine lv_iload_n zx zb d_M_forget_1 rfl (lv_at zl 1 rfl) ?_
  refine ct_V (ws' := wM g m0 m1 m2 m3 m4 m5 m6 m7 m8 m9 m10 n sy k o ke va fl sg cp fs la nx hd dn tg bh) (rest := []) (st1 := [.int (nI 0)]) zx zb zm zo zg zK zP zD zS zA zl.1 (c_M_fin_n lL g m0 m1 m2 m3 m4 m5 m6 m7 m8 m9 m10 n sy k o ke va fl sg cp fs la nx hd dn tg bh j hj) ok_M_finished ov_M_finished ml_M_87 (by decide) 0 7 rfl rfl rfl [0, 1, 2, 3, 4, 5, 6, 7, 8, 9, 10] [] 11 (by decide) rfl rfl rfl rfl (by decide) rfl rfl rfl (Nat.le_of_ble_eq_true rfl) d_M_forget_2 (fun HX oX zP zD zS => ?_)
  refine wn_ine_F (tgt := 10) zx zb d_M_forget_5 (by decide) (by omega) (by omega) ?_
  refine lv_iconst (v := (nI 0)) zx zb d_M_forget_8 (by decide) ?_
  exact ct_zret zQ zx zb zr zk zP zD zS d_M_forget_9 rfl (by decide) (⟨rfl, rfl⟩)
