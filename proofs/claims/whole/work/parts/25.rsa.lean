set_option maxRecDepth 20000 in
theorem c_Rs_replay_set_o (lL : Launch) (g : Gt) (r0 : Nat) (r1 : Nat) (s0 : Nat) (rv : Nat → Int32) (rr : Nat) (s1 : Nat) (s2 : Nat) (s3 : Nat) (s4 : Nat) (cR : Nat → Nat) (fR : Nat → Nat) (tkR : Nat → Nat) (tvR : Nat → Int32) (l0 : Nat) (l1 : Nat) (l2 : Nat) (l3 : Nat) (l4 : Nat) (k : Nat → Nat) (o : Nat → Nat) (ke : Nat → Nat) (va : Nat → Int32) (n : Nat) (sy : Nat) (rc : Nat) (bh : Nat) (hrc : rc < 512) (hk3 : k rc = 0) (ho : o rc < 3) (hc2 : 0 < cR (o rc)) (hc3 : cR (o rc) < 4) : Ct lL g y_Rs_replay (.code y_Rs_replay b_Rs_replay 5 (none)) 2 46 [.ref r0, .ref l0, .int (nI rc), .int (nI bh)] (wRs g r0 r1 s0 rv rr ++ wTr g s0 s1 s2 s3 s4 cR fR tkR tvR ++ wLog g l0 l1 l2 l3 l4 k o ke va n sy) (exP (none) (wRs g r0 r1 s0 rv rr ++ wTr g s0 s1 s2 s3 s4 (va_up cR (o rc) ((cR (o rc)) + 1)) fR (va_up tkR (((o rc) * 4) + (cR (o rc))) (ke rc)) (upd tvR (((o rc) * 4) + (cR (o rc))) (va rc)) ++ wLog g l0 l1 l2 l3 l4 k o ke va n sy)) := by
  refine Ct.ofW (by decide) (Nat.le_of_ble_eq_true rfl) ?_
  intro pX eX sX mX aX bX tX cX AX lsX HX oX QX zx zb zr zk zm zo zg zK zP zD zA zS zQ zl
  have zo : sX.vm.findClass R_Rs = some mX.cls := zo
  have zl : lv_has lsX 5 [(0, .ref r0), (1, .ref l0), (2, .int (nI rc)), (3, .int (nI bh))] := zl
  refine lv_aload_n zx zb d_Rs_replay_0 rfl (lv_at zl 1 rfl) ?_
  refine wv_get zx zb zg hin_Log rfl zo zK zP 7 rfl 1 (by decide) rfl fl_Rs_48 rfl d_Rs_replay_1 ?_
  refine lv_iload_n zx zb d_Rs_replay_4 rfl (lv_at zl 2 rfl) ?_
  refine wv_ialdN zx zb zK zP 9 rfl (by omega) (by decide) d_Rs_replay_5 ?_
  refine lv_istore (lv' := [(4, .int (nI (o rc))), (0, .ref r0), (1, .ref l0), (2, .int (nI rc)), (3, .int (nI bh))]) zx zb d_Rs_replay_6 zl (by decide) rfl (fun lsX zl => ?_)
  refine lv_aload_n zx zb d_Rs_replay_8 rfl (lv_at zl 2 rfl) ?_
  refine wv_get zx zb zg hin_Log rfl zo zK zP 7 rfl 0 (by decide) rfl fl_Rs_53 rfl d_Rs_replay_9 ?_
  refine lv_iload_n zx zb d_Rs_replay_12 rfl (lv_at zl 3 rfl) ?_
  refine wv_ialdN zx zb zK zP 8 rfl (by omega) (by decide) d_Rs_replay_13 ?_
  refine lv_tableIn (tgt := 40) (off := 26) zx zb d_Rs_replay_14 (by rw [hk3]; decide) (by rw [hk3]; decide) (by rw [hk3]; decide) (by decide) ?_
  refine lv_aload_n zx zb d_Rs_replay_40 rfl (lv_at zl 1 rfl) ?_
  refine wv_get zx zb zg hin_Rs rfl zo zK zP 0 rfl 1 (by decide) rfl fl_Rs_18 rfl d_Rs_replay_41 ?_
  refine lv_iload zx zb d_Rs_replay_44 (lv_at zl 0 rfl) ?_
  refine ct_V (ws' := wRs g r0 r1 s0 rv rr ++ wTr g s0 s1 s2 s3 s4 cR fR tkR tvR ++ wLog g l0 l1 l2 l3 l4 k o ke va n sy) (rest := []) (st1 := [.int (nI 0)]) zx zb zm zo zg zK zP zD zS zA zl.1 (c_Tr_hasAll_f lL g s0 s1 s2 s3 s4 cR fR tkR tvR (o rc) (by omega) (by omega)) ok_Tr_hasAllSets ov_Tr_hasAllSets ml_Rs_56 (by decide) 2 2 rfl rfl rfl [2, 3, 4, 5, 6] [0, 1, 7, 8, 9, 10, 11] 12 (by decide) rfl rfl rfl rfl (by decide) rfl rfl rfl (Nat.le_of_ble_eq_true rfl) d_Rs_replay_46 (fun HX oX zP zD zS => ?_)
  refine wn_ine_F (tgt := 125) zx zb d_Rs_replay_49 (by decide) (by omega) (by omega) ?_
  refine lv_aload_n zx zb d_Rs_replay_52 rfl (lv_at zl 1 rfl) ?_
  refine wv_get zx zb zg hin_Rs rfl zo zK zP 0 rfl 1 (by decide) rfl fl_Rs_18 rfl d_Rs_replay_53 ?_
  refine lv_iload zx zb d_Rs_replay_56 (lv_at zl 0 rfl) ?_
  refine lv_aload_n zx zb d_Rs_replay_58 rfl (lv_at zl 2 rfl) ?_
  refine wv_get zx zb zg hin_Log rfl zo zK zP 7 rfl 2 (by decide) rfl fl_Rs_60 rfl d_Rs_replay_59 ?_
  refine lv_iload_n zx zb d_Rs_replay_62 rfl (lv_at zl 3 rfl) ?_
  refine wv_ialdN zx zb zK zP 10 rfl (by omega) (by decide) d_Rs_replay_63 ?_
  refine lv_aload_n zx zb d_Rs_replay_64 rfl (lv_at zl 2 rfl) ?_
  refine wv_get zx zb zg hin_Log rfl zo zK zP 7 rfl 3 (by decide) rfl fl_Rs_63 rfl d_Rs_replay_65 ?_
  refine lv_iload_n zx zb d_Rs_replay_68 rfl (lv_at zl 3 rfl) ?_
  refine wv_iald zx zb zK zP 11 rfl (by omega) (by decide) d_Rs_replay_69 ?_
  refine lv_iload_n zx zb d_Rs_replay_70 rfl (lv_at zl 3 rfl) ?_
  refine ct_V (ws' := wRs g r0 r1 s0 rv rr ++ wTr g s0 s1 s2 s3 s4 (va_up cR (o rc) ((cR (o rc)) + 1)) fR (va_up tkR (((o rc) * 4) + (cR (o rc))) (ke rc)) (upd tvR (((o rc) * 4) + (cR (o rc))) (va rc)) ++ wLog g l0 l1 l2 l3 l4 k o ke va n sy) (rest := []) (st1 := []) zx zb zm zo zg zK zP zD zS zA zl.1 (c_Tr_addSet_o lL g s0 s1 s2 s3 s4 cR fR tkR tvR (o rc) (ke rc) (va rc) rc (by omega) (by omega) (by omega)) ok_Tr_addSet ov_Tr_addSet ml_Rs_64 (by decide) 2 2 rfl rfl rfl [2, 3, 4, 5, 6] [0, 1, 7, 8, 9, 10, 11] 12 (by decide) rfl rfl rfl rfl (by decide) rfl rfl rfl (Nat.le_of_ble_eq_true rfl) d_Rs_replay_71 (fun HX oX zP zD zS => ?_)
  refine lv_goto (tgt := 125) zx zb d_Rs_replay_74 (by decide) ?_
  exact ct_vret zQ zx zb zr zk zP zD zS d_Rs_replay_125 rfl (⟨rfl, rfl⟩)
set_option maxRecDepth 20000 in
theorem c_Rs_replay_set_n (lL : Launch) (g : Gt) (r0 : Nat) (r1 : Nat) (s0 : Nat) (rv : Nat → Int32) (rr : Nat) (s1 : Nat) (s2 : Nat) (s3 : Nat) (s4 : Nat) (cR : Nat → Nat) (fR : Nat → Nat) (tkR : Nat → Nat) (tvR : Nat → Int32) (l0 : Nat) (l1 : Nat) (l2 : Nat) (l3 : Nat) (l4 : Nat) (k : Nat → Nat) (o : Nat → Nat) (ke : Nat → Nat) (va : Nat → Int32) (n : Nat) (sy : Nat) (rc : Nat) (bh : Nat) (hrc : rc < 512) (hk3 : k rc = 0) (ho : o rc < 3) (hc2 : cR (o rc) = 0) : Ct lL g y_Rs_replay (.code y_Rs_replay b_Rs_replay 5 (none)) 2 46 [.ref r0, .ref l0, .int (nI rc), .int (nI bh)] (wRs g r0 r1 s0 rv rr ++ wTr g s0 s1 s2 s3 s4 cR fR tkR tvR ++ wLog g l0 l1 l2 l3 l4 k o ke va n sy) (exP (none) (wRs g r0 r1 s0 rv rr ++ wTr g s0 s1 s2 s3 s4 (va_up cR (o rc) ((cR (o rc)) + 1)) (va_up fR (o rc) rc) (va_up tkR (((o rc) * 4) + (cR (o rc))) (ke rc)) (upd tvR (((o rc) * 4) + (cR (o rc))) (va rc)) ++ wLog g l0 l1 l2 l3 l4 k o ke va n sy)) := by
  refine Ct.ofW (by decide) (Nat.le_of_ble_eq_true rfl) ?_
  intro pX eX sX mX aX bX tX cX AX lsX HX oX QX zx zb zr zk zm zo zg zK zP zD zA zS zQ zl
  have zo : sX.vm.findClass R_Rs = some mX.cls := zo
  have zl : lv_has lsX 5 [(0, .ref r0), (1, .ref l0), (2, .int (nI rc)), (3, .int (nI bh))] := zl
  refine lv_aload_n zx zb d_Rs_replay_0 rfl (lv_at zl 1 rfl) ?_
  refine wv_get zx zb zg hin_Log rfl zo zK zP 7 rfl 1 (by decide) rfl fl_Rs_48 rfl d_Rs_replay_1 ?_
  refine lv_iload_n zx zb d_Rs_replay_4 rfl (lv_at zl 2 rfl) ?_
  refine wv_ialdN zx zb zK zP 9 rfl (by omega) (by decide) d_Rs_replay_5 ?_
  refine lv_istore (lv' := [(4, .int (nI (o rc))), (0, .ref r0), (1, .ref l0), (2, .int (nI rc)), (3, .int (nI bh))]) zx zb d_Rs_replay_6 zl (by decide) rfl (fun lsX zl => ?_)
  refine lv_aload_n zx zb d_Rs_replay_8 rfl (lv_at zl 2 rfl) ?_
  refine wv_get zx zb zg hin_Log rfl zo zK zP 7 rfl 0 (by decide) rfl fl_Rs_53 rfl d_Rs_replay_9 ?_
  refine lv_iload_n zx zb d_Rs_replay_12 rfl (lv_at zl 3 rfl) ?_
  refine wv_ialdN zx zb zK zP 8 rfl (by omega) (by decide) d_Rs_replay_13 ?_
  refine lv_tableIn (tgt := 40) (off := 26) zx zb d_Rs_replay_14 (by rw [hk3]; decide) (by rw [hk3]; decide) (by rw [hk3]; decide) (by decide) ?_
  refine lv_aload_n zx zb d_Rs_replay_40 rfl (lv_at zl 1 rfl) ?_
  refine wv_get zx zb zg hin_Rs rfl zo zK zP 0 rfl 1 (by decide) rfl fl_Rs_18 rfl d_Rs_replay_41 ?_
  refine lv_iload zx zb d_Rs_replay_44 (lv_at zl 0 rfl) ?_
  refine ct_V (ws' := wRs g r0 r1 s0 rv rr ++ wTr g s0 s1 s2 s3 s4 cR fR tkR tvR ++ wLog g l0 l1 l2 l3 l4 k o ke va n sy) (rest := []) (st1 := [.int (nI 0)]) zx zb zm zo zg zK zP zD zS zA zl.1 (c_Tr_hasAll_f lL g s0 s1 s2 s3 s4 cR fR tkR tvR (o rc) (by omega) (by omega)) ok_Tr_hasAllSets ov_Tr_hasAllSets ml_Rs_56 (by decide) 2 2 rfl rfl rfl [2, 3, 4, 5, 6] [0, 1, 7, 8, 9, 10, 11] 12 (by decide) rfl rfl rfl rfl (by decide) rfl rfl rfl (Nat.le_of_ble_eq_true rfl) d_Rs_replay_46 (fun HX oX zP zD zS => ?_)
  refine wn_ine_F (tgt := 125) zx zb d_Rs_replay_49 (by decide) (by omega) (by omega) ?_
  refine lv_aload_n zx zb d_Rs_replay_52 rfl (lv_at zl 1 rfl) ?_
  refine wv_get zx zb zg hin_Rs rfl zo zK zP 0 rfl 1 (by decide) rfl fl_Rs_18 rfl d_Rs_replay_53 ?_
  refine lv_iload zx zb d_Rs_replay_56 (lv_at zl 0 rfl) ?_
  refine lv_aload_n zx zb d_Rs_replay_58 rfl (lv_at zl 2 rfl) ?_
  refine wv_get zx zb zg hin_Log rfl zo zK zP 7 rfl 2 (by decide) rfl fl_Rs_60 rfl d_Rs_replay_59 ?_
  refine lv_iload_n zx zb d_Rs_replay_62 rfl (lv_at zl 3 rfl) ?_
  refine wv_ialdN zx zb zK zP 10 rfl (by omega) (by decide) d_Rs_replay_63 ?_
  refine lv_aload_n zx zb d_Rs_replay_64 rfl (lv_at zl 2 rfl) ?_
  refine wv_get zx zb zg hin_Log rfl zo zK zP 7 rfl 3 (by decide) rfl fl_Rs_63 rfl d_Rs_replay_65 ?_
  refine lv_iload_n zx zb d_Rs_replay_68 rfl (lv_at zl 3 rfl) ?_
  refine wv_iald zx zb zK zP 11 rfl (by omega) (by decide) d_Rs_replay_69 ?_
  refine lv_iload_n zx zb d_Rs_replay_70 rfl (lv_at zl 3 rfl) ?_
  refine ct_V (ws' := wRs g r0 r1 s0 rv rr ++ wTr g s0 s1 s2 s3 s4 (va_up cR (o rc) ((cR (o rc)) + 1)) (va_up fR (o rc) rc) (va_up tkR (((o rc) * 4) + (cR (o rc))) (ke rc)) (upd tvR (((o rc) * 4) + (cR (o rc))) (va rc)) ++ wLog g l0 l1 l2 l3 l4 k o ke va n sy) (rest := []) (st1 := []) zx zb zm zo zg zK zP zD zS zA zl.1 (c_Tr_addSet_n lL g s0 s1 s2 s3 s4 cR fR tkR tvR (o rc) (ke rc) (va rc) rc (by omega) (by omega)) ok_Tr_addSet ov_Tr_addSet ml_Rs_64 (by decide) 2 2 rfl rfl rfl [2, 3, 4, 5, 6] [0, 1, 7, 8, 9, 10, 11] 12 (by decide) rfl rfl rfl rfl (by decide) rfl rfl rfl (Nat.le_of_ble_eq_true rfl) d_Rs_replay_71 (fun HX oX zP zD zS => ?_)
  refine lv_goto (tgt := 125) zx zb d_Rs_replay_74 (by decide) ?_
  exact ct_vret zQ zx zb zr zk zP zD zS d_Rs_replay_125 rfl (⟨rfl, rfl⟩)
set_option maxRecDepth 20000 in
theorem c_Rs_replay_com_t (lL : Launch) (g : Gt) (r0 : Nat) (r1 : Nat) (s0 : Nat) (rv : Nat → Int32) (rr : Nat) (s1 : Nat) (s2 : Nat) (s3 : Nat) (s4 : Nat) (cR : Nat → Nat) (fR : Nat → Nat) (tkR : Nat → Nat) (tvR : Nat → Int32) (l0 : Nat) (l1 : Nat) (l2 : Nat) (l3 : Nat) (l4 : Nat) (k : Nat → Nat) (o : Nat → Nat) (ke : Nat → Nat) (va : Nat → Int32) (n : Nat) (sy : Nat) (rc : Nat) (hrc : rc < 512) (hk3 : k rc = 1) (ho : o rc < 3) (hc2 : cR (o rc) ≤ 4) (htk : ∀ j, j < 12 → tkR j < 32) : Ct lL g y_Rs_replay (.code y_Rs_replay b_Rs_replay 5 (none)) 3 66 [.ref r0, .ref l0, .int (nI rc), .int (nI 1)] (wRs g r0 r1 s0 rv rr ++ wTr g s0 s1 s2 s3 s4 cR fR tkR tvR ++ wLog g l0 l1 l2 l3 l4 k o ke va n sy) (exP (none) (wRs g r0 r1 s0 (wrS tkR tvR rv ((o rc) * 4) (cR (o rc))) rr ++ wTr g s0 s1 s2 s3 s4 (va_up cR (o rc) 0) fR tkR tvR ++ wLog g l0 l1 l2 l3 l4 k o ke va n sy)) := by
  refine Ct.ofW (by decide) (Nat.le_of_ble_eq_true rfl) ?_
  intro pX eX sX mX aX bX tX cX AX lsX HX oX QX zx zb zr zk zm zo zg zK zP zD zA zS zQ zl
  have zo : sX.vm.findClass R_Rs = some mX.cls := zo
  have zl : lv_has lsX 5 [(0, .ref r0), (1, .ref l0), (2, .int (nI rc)), (3, .int (nI 1))] := zl
  refine lv_aload_n zx zb d_Rs_replay_0 rfl (lv_at zl 1 rfl) ?_
  refine wv_get zx zb zg hin_Log rfl zo zK zP 7 rfl 1 (by decide) rfl fl_Rs_48 rfl d_Rs_replay_1 ?_
  refine lv_iload_n zx zb d_Rs_replay_4 rfl (lv_at zl 2 rfl) ?_
  refine wv_ialdN zx zb zK zP 9 rfl (by omega) (by decide) d_Rs_replay_5 ?_
  refine lv_istore (lv' := [(4, .int (nI (o rc))), (0, .ref r0), (1, .ref l0), (2, .int (nI rc)), (3, .int (nI 1))]) zx zb d_Rs_replay_6 zl (by decide) rfl (fun lsX zl => ?_)
  refine lv_aload_n zx zb d_Rs_replay_8 rfl (lv_at zl 2 rfl) ?_
  refine wv_get zx zb zg hin_Log rfl zo zK zP 7 rfl 0 (by decide) rfl fl_Rs_53 rfl d_Rs_replay_9 ?_
  refine lv_iload_n zx zb d_Rs_replay_12 rfl (lv_at zl 3 rfl) ?_
  refine wv_ialdN zx zb zK zP 8 rfl (by omega) (by decide) d_Rs_replay_13 ?_
  refine lv_tableIn (tgt := 77) (off := 63) zx zb d_Rs_replay_14 (by rw [hk3]; decide) (by rw [hk3]; decide) (by rw [hk3]; decide) (by decide) ?_
  refine lv_iload_n zx zb d_Rs_replay_77 rfl (lv_at zl 4 rfl) ?_
  refine wn_ieq_F (tgt := 94) zx zb d_Rs_replay_78 (by decide) (by omega) (by omega) ?_
  refine lv_aload_n zx zb d_Rs_replay_81 rfl (lv_at zl 1 rfl) ?_
  refine wv_get zx zb zg hin_Rs rfl zo zK zP 0 rfl 1 (by decide) rfl fl_Rs_18 rfl d_Rs_replay_82 ?_
  refine lv_aload_n zx zb d_Rs_replay_85 rfl (lv_at zl 1 rfl) ?_
  refine wv_get zx zb zg hin_Rs rfl zo zK zP 0 rfl 0 (by decide) rfl fl_Rs_9 rfl d_Rs_replay_86 ?_
  refine lv_iload zx zb d_Rs_replay_89 (lv_at zl 0 rfl) ?_
  refine ct_V (ws' := wRs g r0 r1 s0 (wrS tkR tvR rv ((o rc) * 4) (cR (o rc))) rr ++ wTr g s0 s1 s2 s3 s4 cR fR tkR tvR ++ wLog g l0 l1 l2 l3 l4 k o ke va n sy) (rest := []) (st1 := []) zx zb zm zo zg zK zP zD zS zA zl.1 (c_Tr_writeSetsTo lL g s0 s1 s2 s3 s4 cR fR tkR tvR r1 rv (o rc) (by omega) (by omega) htk) ok_Tr_writeSetsTo ov_Tr_writeSetsTo ml_Rs_68 (by decide) 2 2 rfl rfl rfl [2, 3, 4, 5, 6, 1] [0, 7, 8, 9, 10, 11] 12 (by decide) rfl rfl rfl rfl (by decide) rfl rfl rfl (Nat.le_of_ble_eq_true rfl) d_Rs_replay_91 (fun HX oX zP zD zS => ?_)
  refine lv_aload_n zx zb d_Rs_replay_94 rfl (lv_at zl 1 rfl) ?_
  refine wv_get zx zb zg hin_Rs rfl zo zK zP 0 rfl 1 (by decide) rfl fl_Rs_18 rfl d_Rs_replay_95 ?_
  refine lv_iload zx zb d_Rs_replay_98 (lv_at zl 0 rfl) ?_
  refine ct_V (ws' := wRs g r0 r1 s0 (wrS tkR tvR rv ((o rc) * 4) (cR (o rc))) rr ++ wTr g s0 s1 s2 s3 s4 (va_up cR (o rc) 0) fR tkR tvR ++ wLog g l0 l1 l2 l3 l4 k o ke va n sy) (rest := []) (st1 := []) zx zb zm zo zg zK zP zD zS zA zl.1 (c_Tr_close lL g s0 s1 s2 s3 s4 cR fR tkR tvR (o rc) (by omega)) ok_Tr_close ov_Tr_close ml_Rs_72 (by decide) 2 2 rfl rfl rfl [2, 3, 4, 5, 6] [0, 1, 7, 8, 9, 10, 11] 12 (by decide) rfl rfl rfl rfl (by decide) rfl rfl rfl (Nat.le_of_ble_eq_true rfl) d_Rs_replay_100 (fun HX oX zP zD zS => ?_)
  refine lv_goto (tgt := 125) zx zb d_Rs_replay_103 (by decide) ?_
  exact ct_vret zQ zx zb zr zk zP zD zS d_Rs_replay_125 rfl (⟨rfl, rfl⟩)
set_option maxRecDepth 20000 in
theorem c_Rs_replay_com_f (lL : Launch) (g : Gt) (r0 : Nat) (r1 : Nat) (s0 : Nat) (rv : Nat → Int32) (rr : Nat) (s1 : Nat) (s2 : Nat) (s3 : Nat) (s4 : Nat) (cR : Nat → Nat) (fR : Nat → Nat) (tkR : Nat → Nat) (tvR : Nat → Int32) (l0 : Nat) (l1 : Nat) (l2 : Nat) (l3 : Nat) (l4 : Nat) (k : Nat → Nat) (o : Nat → Nat) (ke : Nat → Nat) (va : Nat → Int32) (n : Nat) (sy : Nat) (rc : Nat) (hrc : rc < 512) (hk3 : k rc = 1) (ho : o rc < 3) : Ct lL g y_Rs_replay (.code y_Rs_replay b_Rs_replay 5 (none)) 1 21 [.ref r0, .ref l0, .int (nI rc), .int (nI 0)] (wRs g r0 r1 s0 rv rr ++ wTr g s0 s1 s2 s3 s4 cR fR tkR tvR ++ wLog g l0 l1 l2 l3 l4 k o ke va n sy) (exP (none) (wRs g r0 r1 s0 rv rr ++ wTr g s0 s1 s2 s3 s4 (va_up cR (o rc) 0) fR tkR tvR ++ wLog g l0 l1 l2 l3 l4 k o ke va n sy)) := by
  refine Ct.ofW (by decide) (Nat.le_of_ble_eq_true rfl) ?_
  intro pX eX sX mX aX bX tX cX AX lsX HX oX QX zx zb zr zk zm zo zg zK zP zD zA zS zQ zl
  have zo : sX.vm.findClass R_Rs = some mX.cls := zo
  have zl : lv_has lsX 5 [(0, .ref r0), (1, .ref l0), (2, .int (nI rc)), (3, .int (nI 0))] := zl
  refine lv_aload_n zx zb d_Rs_replay_0 rfl (lv_at zl 1 rfl) ?_
  refine wv_get zx zb zg hin_Log rfl zo zK zP 7 rfl 1 (by decide) rfl fl_Rs_48 rfl d_Rs_replay_1 ?_
  refine lv_iload_n zx zb d_Rs_replay_4 rfl (lv_at zl 2 rfl) ?_
  refine wv_ialdN zx zb zK zP 9 rfl (by omega) (by decide) d_Rs_replay_5 ?_
  refine lv_istore (lv' := [(4, .int (nI (o rc))), (0, .ref r0), (1, .ref l0), (2, .int (nI rc)), (3, .int (nI 0))]) zx zb d_Rs_replay_6 zl (by decide) rfl (fun lsX zl => ?_)
  refine lv_aload_n zx zb d_Rs_replay_8 rfl (lv_at zl 2 rfl) ?_
  refine wv_get zx zb zg hin_Log rfl zo zK zP 7 rfl 0 (by decide) rfl fl_Rs_53 rfl d_Rs_replay_9 ?_
  refine lv_iload_n zx zb d_Rs_replay_12 rfl (lv_at zl 3 rfl) ?_
  refine wv_ialdN zx zb zK zP 8 rfl (by omega) (by decide) d_Rs_replay_13 ?_
  refine lv_tableIn (tgt := 77) (off := 63) zx zb d_Rs_replay_14 (by rw [hk3]; decide) (by rw [hk3]; decide) (by rw [hk3]; decide) (by decide) ?_
  refine lv_iload_n zx zb d_Rs_replay_77 rfl (lv_at zl 4 rfl) ?_
  refine wn_ieq_T (tgt := 94) zx zb d_Rs_replay_78 (by decide) (by omega) (by omega) ?_
  refine lv_aload_n zx zb d_Rs_replay_94 rfl (lv_at zl 1 rfl) ?_
  refine wv_get zx zb zg hin_Rs rfl zo zK zP 0 rfl 1 (by decide) rfl fl_Rs_18 rfl d_Rs_replay_95 ?_
  refine lv_iload zx zb d_Rs_replay_98 (lv_at zl 0 rfl) ?_
  refine ct_V (ws' := wRs g r0 r1 s0 rv rr ++ wTr g s0 s1 s2 s3 s4 (va_up cR (o rc) 0) fR tkR tvR ++ wLog g l0 l1 l2 l3 l4 k o ke va n sy) (rest := []) (st1 := []) zx zb zm zo zg zK zP zD zS zA zl.1 (c_Tr_close lL g s0 s1 s2 s3 s4 cR fR tkR tvR (o rc) (by omega)) ok_Tr_close ov_Tr_close ml_Rs_72 (by decide) 2 2 rfl rfl rfl [2, 3, 4, 5, 6] [0, 1, 7, 8, 9, 10, 11] 12 (by decide) rfl rfl rfl rfl (by decide) rfl rfl rfl (Nat.le_of_ble_eq_true rfl) d_Rs_replay_100 (fun HX oX zP zD zS => ?_)
  refine lv_goto (tgt := 125) zx zb d_Rs_replay_103 (by decide) ?_
  exact ct_vret zQ zx zb zr zk zP zD zS d_Rs_replay_125 rfl (⟨rfl, rfl⟩)
set_option maxRecDepth 20000 in
theorem c_Rs_replay_abo (lL : Launch) (g : Gt) (r0 : Nat) (r1 : Nat) (s0 : Nat) (rv : Nat → Int32) (rr : Nat) (s1 : Nat) (s2 : Nat) (s3 : Nat) (s4 : Nat) (cR : Nat → Nat) (fR : Nat → Nat) (tkR : Nat → Nat) (tvR : Nat → Int32) (l0 : Nat) (l1 : Nat) (l2 : Nat) (l3 : Nat) (l4 : Nat) (k : Nat → Nat) (o : Nat → Nat) (ke : Nat → Nat) (va : Nat → Int32) (n : Nat) (sy : Nat) (rc : Nat) (bh : Nat) (hrc : rc < 512) (hk3 : k rc = 2) (ho : o rc < 3) : Ct lL g y_Rs_replay (.code y_Rs_replay b_Rs_replay 5 (none)) 1 21 [.ref r0, .ref l0, .int (nI rc), .int (nI bh)] (wRs g r0 r1 s0 rv rr ++ wTr g s0 s1 s2 s3 s4 cR fR tkR tvR ++ wLog g l0 l1 l2 l3 l4 k o ke va n sy) (exP (none) (wRs g r0 r1 s0 rv rr ++ wTr g s0 s1 s2 s3 s4 (va_up cR (o rc) 0) fR tkR tvR ++ wLog g l0 l1 l2 l3 l4 k o ke va n sy)) := by
  refine Ct.ofW (by decide) (Nat.le_of_ble_eq_true rfl) ?_
  intro pX eX sX mX aX bX tX cX AX lsX HX oX QX zx zb zr zk zm zo zg zK zP zD zA zS zQ zl
  have zo : sX.vm.findClass R_Rs = some mX.cls := zo
  have zl : lv_has lsX 5 [(0, .ref r0), (1, .ref l0), (2, .int (nI rc)), (3, .int (nI bh))] := zl
  refine lv_aload_n zx zb d_Rs_replay_0 rfl (lv_at zl 1 rfl) ?_
  refine wv_get zx zb zg hin_Log rfl zo zK zP 7 rfl 1 (by decide) rfl fl_Rs_48 rfl d_Rs_replay_1 ?_
  refine lv_iload_n zx zb d_Rs_replay_4 rfl (lv_at zl 2 rfl) ?_
  refine wv_ialdN zx zb zK zP 9 rfl (by omega) (by decide) d_Rs_replay_5 ?_
  refine lv_istore (lv' := [(4, .int (nI (o rc))), (0, .ref r0), (1, .ref l0), (2, .int (nI rc)), (3, .int (nI bh))]) zx zb d_Rs_replay_6 zl (by decide) rfl (fun lsX zl => ?_)
  refine lv_aload_n zx zb d_Rs_replay_8 rfl (lv_at zl 2 rfl) ?_
  refine wv_get zx zb zg hin_Log rfl zo zK zP 7 rfl 0 (by decide) rfl fl_Rs_53 rfl d_Rs_replay_9 ?_
  refine lv_iload_n zx zb d_Rs_replay_12 rfl (lv_at zl 3 rfl) ?_
  refine wv_ialdN zx zb zK zP 8 rfl (by omega) (by decide) d_Rs_replay_13 ?_
  refine lv_tableIn (tgt := 106) (off := 92) zx zb d_Rs_replay_14 (by rw [hk3]; decide) (by rw [hk3]; decide) (by rw [hk3]; decide) (by decide) ?_
  refine lv_aload_n zx zb d_Rs_replay_106 rfl (lv_at zl 1 rfl) ?_
  refine wv_get zx zb zg hin_Rs rfl zo zK zP 0 rfl 1 (by decide) rfl fl_Rs_18 rfl d_Rs_replay_107 ?_
  refine lv_iload zx zb d_Rs_replay_110 (lv_at zl 0 rfl) ?_
  refine ct_V (ws' := wRs g r0 r1 s0 rv rr ++ wTr g s0 s1 s2 s3 s4 (va_up cR (o rc) 0) fR tkR tvR ++ wLog g l0 l1 l2 l3 l4 k o ke va n sy) (rest := []) (st1 := []) zx zb zm zo zg zK zP zD zS zA zl.1 (c_Tr_close lL g s0 s1 s2 s3 s4 cR fR tkR tvR (o rc) (by omega)) ok_Tr_close ov_Tr_close ml_Rs_72 (by decide) 2 2 rfl rfl rfl [2, 3, 4, 5, 6] [0, 1, 7, 8, 9, 10, 11] 12 (by decide) rfl rfl rfl rfl (by decide) rfl rfl rfl (Nat.le_of_ble_eq_true rfl) d_Rs_replay_112 (fun HX oX zP zD zS => ?_)
  refine lv_goto (tgt := 125) zx zb d_Rs_replay_115 (by decide) ?_
  exact ct_vret zQ zx zb zr zk zP zD zS d_Rs_replay_125 rfl (⟨rfl, rfl⟩)
set_option maxRecDepth 20000 in
theorem c_Rs_replay_res (lL : Launch) (g : Gt) (r0 : Nat) (r1 : Nat) (s0 : Nat) (rv : Nat → Int32) (rr : Nat) (s1 : Nat) (s2 : Nat) (s3 : Nat) (s4 : Nat) (cR : Nat → Nat) (fR : Nat → Nat) (tkR : Nat → Nat) (tvR : Nat → Int32) (l0 : Nat) (l1 : Nat) (l2 : Nat) (l3 : Nat) (l4 : Nat) (k : Nat → Nat) (o : Nat → Nat) (ke : Nat → Nat) (va : Nat → Int32) (n : Nat) (sy : Nat) (rc : Nat) (bh : Nat) (hrc : rc < 512) (hk3 : k rc = 3) : Ct lL g y_Rs_replay (.code y_Rs_replay b_Rs_replay 5 (none)) 2 42 [.ref r0, .ref l0, .int (nI rc), .int (nI bh)] (wRs g r0 r1 s0 rv rr ++ wTr g s0 s1 s2 s3 s4 cR fR tkR tvR ++ wLog g l0 l1 l2 l3 l4 k o ke va n sy) (exP (none) (wRs g r0 r1 s0 rv rr ++ wTr g s0 s1 s2 s3 s4 (va_up (va_up (va_up cR 0 0) 1 0) 2 0) fR tkR tvR ++ wLog g l0 l1 l2 l3 l4 k o ke va n sy)) := by
  refine Ct.ofW (by decide) (Nat.le_of_ble_eq_true rfl) ?_
  intro pX eX sX mX aX bX tX cX AX lsX HX oX QX zx zb zr zk zm zo zg zK zP zD zA zS zQ zl
  have zo : sX.vm.findClass R_Rs = some mX.cls := zo
  have zl : lv_has lsX 5 [(0, .ref r0), (1, .ref l0), (2, .int (nI rc)), (3, .int (nI bh))] := zl
  refine lv_aload_n zx zb d_Rs_replay_0 rfl (lv_at zl 1 rfl) ?_
  refine wv_get zx zb zg hin_Log rfl zo zK zP 7 rfl 1 (by decide) rfl fl_Rs_48 rfl d_Rs_replay_1 ?_
  refine lv_iload_n zx zb d_Rs_replay_4 rfl (lv_at zl 2 rfl) ?_
  refine wv_ialdN zx zb zK zP 9 rfl (by omega) (by decide) d_Rs_replay_5 ?_
  refine lv_istore (lv' := [(4, .int (nI (o rc))), (0, .ref r0), (1, .ref l0), (2, .int (nI rc)), (3, .int (nI bh))]) zx zb d_Rs_replay_6 zl (by decide) rfl (fun lsX zl => ?_)
  refine lv_aload_n zx zb d_Rs_replay_8 rfl (lv_at zl 2 rfl) ?_
  refine wv_get zx zb zg hin_Log rfl zo zK zP 7 rfl 0 (by decide) rfl fl_Rs_53 rfl d_Rs_replay_9 ?_
  refine lv_iload_n zx zb d_Rs_replay_12 rfl (lv_at zl 3 rfl) ?_
  refine wv_ialdN zx zb zK zP 8 rfl (by omega) (by decide) d_Rs_replay_13 ?_
  refine lv_tableOut (tgt := 118) zx zb d_Rs_replay_14 (by rw [hk3]; decide) (by decide) ?_
  refine lv_aload_n zx zb d_Rs_replay_118 rfl (lv_at zl 1 rfl) ?_
  refine wv_get zx zb zg hin_Rs rfl zo zK zP 0 rfl 1 (by decide) rfl fl_Rs_18 rfl d_Rs_replay_119 ?_
  refine ct_V (ws' := wRs g r0 r1 s0 rv rr ++ wTr g s0 s1 s2 s3 s4 (va_up (va_up (va_up cR 0 0) 1 0) 2 0) fR tkR tvR ++ wLog g l0 l1 l2 l3 l4 k o ke va n sy) (rest := []) (st1 := []) zx zb zm zo zg zK zP zD zS zA zl.1 (c_Tr_closeAll lL g s0 s1 s2 s3 s4 cR fR tkR tvR) ok_Tr_closeAll ov_Tr_closeAll ml_Rs_31 (by decide) 2 2 rfl rfl rfl [2, 3, 4, 5, 6] [0, 1, 7, 8, 9, 10, 11] 12 (by decide) rfl rfl rfl rfl (by decide) rfl rfl rfl (Nat.le_of_ble_eq_true rfl) d_Rs_replay_122 (fun HX oX zP zD zS => ?_)
  exact ct_vret zQ zx zb zr zk zP zD zS d_Rs_replay_125 rfl (⟨rfl, rfl⟩)
/-- the restoration's cells, by values: values, counts, first sets, keys, values of sets -/
abbrev RSt : Type := (Nat → Int32) × (Nat → Nat) × (Nat → Nat) × (Nat → Nat) × (Nat → Int32)
def rsp1 (k o ke : Nat → Nat) (va : Nat → Int32) (cp r : Nat) (y : RSt) : RSt :=
  if k r = 0 then (y.1, va_up y.2.1 (o r) (y.2.1 (o r) + 1), (if y.2.1 (o r) = 0 then va_up y.2.2.1 (o r) r else y.2.2.1), va_up y.2.2.2.1 (o r * 4 + y.2.1 (o r)) (ke r), upd y.2.2.2.2 (o r * 4 + y.2.1 (o r)) (va r))
  else if k r = 1 then ((if cp ≤ r then wrS y.2.2.2.1 y.2.2.2.2 y.1 (o r * 4) (y.2.1 (o r)) else y.1), va_up y.2.1 (o r) 0, y.2.2.1, y.2.2.2.1, y.2.2.2.2)
  else if k r = 2 then (y.1, va_up y.2.1 (o r) 0, y.2.2.1, y.2.2.2.1, y.2.2.2.2)
  else (y.1, va_up (va_up (va_up y.2.1 0 0) 1 0) 2 0, y.2.2.1, y.2.2.2.1, y.2.2.2.2)
def rpF (k o ke : Nat → Nat) (va : Nat → Int32) (cp st : Nat) (y : RSt) : Nat → RSt
  | 0 => y
  | n + 1 => rsp1 k o ke va cp (st + n) (rpF k o ke va cp st y n)
/-- at record r the restoration's rows are in order -/
def rpV (k o : Nat → Nat) (r : Nat) (y : RSt) : Prop := k r < 4 ∧ (k r ≠ 3 → o r < 3) ∧ (k r = 0 → y.2.1 (o r) < 4) ∧ (k r = 1 → y.2.1 (o r) ≤ 4) ∧ ∀ j, j < 12 → y.2.2.2.1 j < 32
set_option maxRecDepth 20000 in
theorem c_Rs_rebuild (lL : Launch) (g : Gt) (r0 : Nat) (r1 : Nat) (s0 : Nat) (rv : Nat → Int32) (rr : Nat) (s1 : Nat) (s2 : Nat) (s3 : Nat) (s4 : Nat) (cR : Nat → Nat) (fR : Nat → Nat) (tkR : Nat → Nat) (tvR : Nat → Int32) (b0 : Nat) (b1 : Nat) (bv : Nat → Int32) (pr : Nat) (fi : Nat) (st : Nat) (cp : Nat) (en : Nat) (pg : Nat) (l0 : Nat) (l1 : Nat) (l2 : Nat) (l3 : Nat) (l4 : Nat) (k : Nat → Nat) (o : Nat → Nat) (ke : Nat → Nat) (va : Nat → Int32) (n : Nat) (sy : Nat) (ps : Nat) (hps : ps ≤ 512) (hst : st ≤ ps) (hcpb : cp ≤ 512) (hv : ∀ iq, st + iq < ps → rpV k o (st + iq) (rpF k o ke va cp st (va_cpy bv rv 0 0 32, va_up (va_up (va_up cR 0 0) 1 0) 2 0, fR, tkR, tvR) iq)) : Ct lL g y_Rs_rebuild (.code y_Rs_rebuild b_Rs_rebuild 5 (none)) 4 90 [.ref r0, .ref b0, .ref l0, .int (nI ps)] (wRs g r0 r1 s0 rv rr ++ wTr g s0 s1 s2 s3 s4 cR fR tkR tvR ++ wBk g b0 b1 bv pr fi st cp en pg ++ wLog g l0 l1 l2 l3 l4 k o ke va n sy) (exP (none) (wRs g r0 r1 s0 ((rpF k o ke va cp st (va_cpy bv rv 0 0 32, va_up (va_up (va_up cR 0 0) 1 0) 2 0, fR, tkR, tvR) (ps - st)).1) (ps - st) ++ wTr g s0 s1 s2 s3 s4 ((rpF k o ke va cp st (va_cpy bv rv 0 0 32, va_up (va_up (va_up cR 0 0) 1 0) 2 0, fR, tkR, tvR) (ps - st)).2.1) ((rpF k o ke va cp st (va_cpy bv rv 0 0 32, va_up (va_up (va_up cR 0 0) 1 0) 2 0, fR, tkR, tvR) (ps - st)).2.2.1) ((rpF k o ke va cp st (va_cpy bv rv 0 0 32, va_up (va_up (va_up cR 0 0) 1 0) 2 0, fR, tkR, tvR) (ps - st)).2.2.2.1) ((rpF k o ke va cp st (va_cpy bv rv 0 0 32, va_up (va_up (va_up cR 0 0) 1 0) 2 0, fR, tkR, tvR) (ps - st)).2.2.2.2) ++ wBk g b0 b1 bv pr fi st cp en pg ++ wLog g l0 l1 l2 l3 l4 k o ke va n sy)) := by
  refine Ct.ofW (by decide) (Nat.le_of_ble_eq_true rfl) ?_
  intro pX eX sX mX aX bX tX cX AX lsX HX oX QX zx zb zr zk zm zo zg zK zP zD zA zS zQ zl
  have zo : sX.vm.findClass R_Rs = some mX.cls := zo
  have zl : lv_has lsX 5 [(0, .ref r0), (1, .ref b0), (2, .ref l0), (3, .int (nI ps))] := zl
  refine lv_aload_n zx zb d_Rs_rebuild_0 rfl (lv_at zl 1 rfl) ?_
  refine wv_get zx zb zg hin_Bk rfl zo zK zP 7 rfl 0 (by decide) rfl fl_Rs_22 rfl d_Rs_rebuild_1 ?_
  refine lv_iconst (v := (nI 0)) zx zb d_Rs_rebuild_4 (by decide) ?_
  refine lv_aload_n zx zb d_Rs_rebuild_5 rfl (lv_at zl 0 rfl) ?_
  refine wv_get zx zb zg hin_Rs rfl zo zK zP 0 rfl 0 (by decide) rfl fl_Rs_9 rfl d_Rs_rebuild_6 ?_
  refine lv_iconst (v := (nI 0)) zx zb d_Rs_rebuild_9 (by decide) ?_
  refine lv_bipush (v := (nI 32)) zx zb d_Rs_rebuild_10 (by decide) ?_
  refine wv_copy zx zb (zm.trans zl.1.symm) zg zo ml_Rs_25 wd_nat wd_stat wd_ini zK zP zD zS 8 1 rfl rfl (by omega) (by omega) (by decide) (by decide) (by decide) (Nat.le_of_ble_eq_true rfl) d_Rs_rebuild_12 (fun HX oX zP zD zS => ?_)
  have zP : va_P g.1 cls (wRs g r0 r1 s0 (va_cpy bv rv 0 0 32) rr ++ wTr g s0 s1 s2 s3 s4 cR fR tkR tvR ++ wBk g b0 b1 bv pr fi st cp en pg ++ wLog g l0 l1 l2 l3 l4 k o ke va n sy) HX := zP
  have zD : va_D AX (wRs g r0 r1 s0 (va_cpy bv rv 0 0 32) rr ++ wTr g s0 s1 s2 s3 s4 cR fR tkR tvR ++ wBk g b0 b1 bv pr fi st cp en pg ++ wLog g l0 l1 l2 l3 l4 k o ke va n sy) := zD
  refine lv_aload_n zx zb d_Rs_rebuild_15 rfl (lv_at zl 0 rfl) ?_
  refine wv_get zx zb zg hin_Rs rfl zo zK zP 0 rfl 1 (by decide) rfl fl_Rs_18 rfl d_Rs_rebuild_16 ?_
  refine ct_V (ws' := wRs g r0 r1 s0 (va_cpy bv rv 0 0 32) rr ++ wTr g s0 s1 s2 s3 s4 (va_up (va_up (va_up cR 0 0) 1 0) 2 0) fR tkR tvR ++ wBk g b0 b1 bv pr fi st cp en pg ++ wLog g l0 l1 l2 l3 l4 k o ke va n sy) (rest := []) (st1 := []) zx zb zm zo zg zK zP zD zS zA zl.1 (c_Tr_closeAll lL g s0 s1 s2 s3 s4 cR fR tkR tvR) ok_Tr_closeAll ov_Tr_closeAll ml_Rs_31 (by decide) 2 2 rfl rfl rfl [2, 3, 4, 5, 6] [0, 1, 7, 8, 9, 10, 11, 12, 13] 14 (by decide) rfl rfl rfl rfl (by decide) rfl rfl rfl (Nat.le_of_ble_eq_true rfl) d_Rs_rebuild_19 (fun HX oX zP zD zS => ?_)
  refine lv_aload_n zx zb d_Rs_rebuild_22 rfl (lv_at zl 1 rfl) ?_
  refine wv_get zx zb zg hin_Bk rfl zo zK zP 7 rfl 3 (by decide) rfl fl_Rs_34 rfl d_Rs_rebuild_23 ?_
  refine lv_istore (lv' := [(4, .int (nI st)), (0, .ref r0), (1, .ref b0), (2, .ref l0), (3, .int (nI ps))]) zx zb d_Rs_rebuild_26 zl (by decide) rfl (fun lsX zl => ?_)
  have loop28 : ∀ (kk : Nat) (iq : Nat) (y : RSt), kk = ps - (st + iq) → (st + iq ≤ ps) → (y = rpF k o ke va cp st (va_cpy bv rv 0 0 32, va_up (va_up (va_up cR 0 0) 1 0) 2 0, fR, tkR, tvR) iq) → ∀ (lsX : Array Slot) (HX : Heap) (oX : List Loc), lv_has lsX 5 [(0, .ref r0), (1, .ref b0), (2, .ref l0), (3, .int (nI ps)), (4, .int (nI (st + iq)))] → va_P g.1 cls (wRs g r0 r1 s0 y.1 rr ++ wTr g s0 s1 s2 s3 s4 y.2.1 y.2.2.1 y.2.2.2.1 y.2.2.2.2 ++ wBk g b0 b1 bv pr fi st cp en pg ++ wLog g l0 l1 l2 l3 l4 k o ke va n sy) HX → va_D AX (wRs g r0 r1 s0 y.1 rr ++ wTr g s0 s1 s2 s3 s4 y.2.1 y.2.2.1 y.2.2.2.1 y.2.2.2.2 ++ wBk g b0 b1 bv pr fi st cp en pg ++ wLog g l0 l1 l2 l3 l4 k o ke va n sy) → va_S AX sX.heap HX oX → W pX lL eX (rmL 4 90) sX mX aX bX tX cX HX oX 0 0 QX (F0 mX 28 lsX []) := by
    intro kk
    induction kk using Nat.strongRecOn with
    | ind kk ih_loop28 =>
      intro iq y hkk hn2 hy lsX HX oX zl zP zD zS
      rcases Nat.lt_or_ge (st + iq) ps with hnp | hnp
      · have hnp2 := hnp
        refine lv_iload zx zb d_Rs_rebuild_28 (lv_at zl 4 rfl) ?_
        obtain ⟨hv1, hv2, hv3, hv4, hv5⟩ : rpV k o (st + iq) y := hy ▸ hv iq hnp
        have hkk4 : k (st + iq) = 0 ∨ k (st + iq) = 1 ∨ k (st + iq) = 2 ∨ k (st + iq) = 3 := by omega
        rcases hkk4 with hk | hk | hk | hk
        · have ho := hv2 (by omega)
          have hc4 := hv3 hk
          refine lv_iload_n zx zb d_Rs_rebuild_30 rfl (lv_at zl 3 rfl) ?_
          refine wn_cge_F (tgt := 61) zx zb d_Rs_rebuild_31 (by decide) (by omega) (by omega) (by omega) ?_
          rcases Nat.eq_zero_or_pos (y.2.1 (o (st + iq))) with hz | hz
          · have ey : rsp1 k o ke va cp (st + iq) y = (y.1, va_up y.2.1 (o (st + iq)) (y.2.1 (o (st + iq)) + 1), va_up y.2.2.1 (o (st + iq)) (st + iq), va_up y.2.2.2.1 (o (st + iq) * 4 + y.2.1 (o (st + iq))) (ke (st + iq)), upd y.2.2.2.2 (o (st + iq) * 4 + y.2.1 (o (st + iq))) (va (st + iq))) := by unfold rsp1; rw [if_pos hk, if_pos hz]
            have hy2 : (y.1, va_up y.2.1 (o (st + iq)) (y.2.1 (o (st + iq)) + 1), va_up y.2.2.1 (o (st + iq)) (st + iq), va_up y.2.2.2.1 (o (st + iq) * 4 + y.2.1 (o (st + iq))) (ke (st + iq)), upd y.2.2.2.2 (o (st + iq) * 4 + y.2.1 (o (st + iq))) (va (st + iq))) = rpF k o ke va cp st (va_cpy bv rv 0 0 32, va_up (va_up (va_up cR 0 0) 1 0) 2 0, fR, tkR, tvR) (iq + 1) := by rw [← ey, hy]; rfl
            refine lv_aload_n zx zb d_Rs_rebuild_34 rfl (lv_at zl 0 rfl) ?_
            rcases Nat.lt_or_ge (st + iq) cp with hcp | hcp
            · have hcq := hcp
              refine lv_aload_n zx zb d_Rs_rebuild_35 rfl (lv_at zl 2 rfl) ?_
              refine lv_iload zx zb d_Rs_rebuild_36 (lv_at zl 4 rfl) ?_
              refine lv_iload zx zb d_Rs_rebuild_38 (lv_at zl 4 rfl) ?_
              refine lv_aload_n zx zb d_Rs_rebuild_40 rfl (lv_at zl 1 rfl) ?_
              refine wv_get zx zb zg hin_Bk rfl zo zK zP 7 rfl 4 (by decide) rfl fl_Rs_38 rfl d_Rs_rebuild_41 ?_
              refine wn_clt_T (tgt := 51) zx zb d_Rs_rebuild_44 (by decide) (by omega) (by omega) (by omega) ?_
              refine lv_iconst (v := (nI 0)) zx zb d_Rs_rebuild_51 (by decide) ?_
              refine ct_V (ws' := wRs g r0 r1 s0 y.1 rr ++ wTr g s0 s1 s2 s3 s4 (va_up y.2.1 (o (st + iq)) ((y.2.1 (o (st + iq))) + 1)) (va_up y.2.2.1 (o (st + iq)) (st + iq)) (va_up y.2.2.2.1 (((o (st + iq)) * 4) + (y.2.1 (o (st + iq)))) (ke (st + iq))) (upd y.2.2.2.2 (((o (st + iq)) * 4) + (y.2.1 (o (st + iq)))) (va (st + iq))) ++ wBk g b0 b1 bv pr fi st cp en pg ++ wLog g l0 l1 l2 l3 l4 k o ke va n sy) (rest := []) (st1 := []) zx zb zm zo zg zK zP zD zS zA zl.1 (c_Rs_replay_set_n lL g r0 r1 s0 y.1 rr s1 s2 s3 s4 y.2.1 y.2.2.1 y.2.2.2.1 y.2.2.2.2 l0 l1 l2 l3 l4 k o ke va n sy (st + iq) 0 (by omega) (by omega) (by omega) (by omega)) ok_Rs_replay ov_Rs_replay ml_Rs_41 (by decide) 0 6 rfl rfl rfl [0, 1, 2, 3, 4, 5, 6, 9, 10, 11, 12, 13] [7, 8] 14 (by decide) rfl rfl rfl rfl (by decide) rfl rfl rfl (Nat.le_of_ble_eq_true rfl) d_Rs_rebuild_52 (fun HX oX zP zD zS => ?_)
              refine lv_iinc (k := 4) (lv' := [(4, .int (nI ((st + iq) + 1))), (0, .ref r0), (1, .ref b0), (2, .ref l0), (3, .int (nI ps))]) zx zb d_Rs_rebuild_55 zl rfl (ni_inc _) (by decide) rfl (fun lsX zl => ?_)
              refine lv_goto (tgt := 28) zx zb d_Rs_rebuild_58 (by decide) ?_
              exact ih_loop28 _ (by omega) (iq + 1) (y.1, va_up y.2.1 (o (st + iq)) (y.2.1 (o (st + iq)) + 1), va_up y.2.2.1 (o (st + iq)) (st + iq), va_up y.2.2.2.1 (o (st + iq) * 4 + y.2.1 (o (st + iq))) (ke (st + iq)), upd y.2.2.2.2 (o (st + iq) * 4 + y.2.1 (o (st + iq))) (va (st + iq))) rfl (by omega) hy2 lsX HX oX (lv_sub zl [1, 2, 3, 4, 0] rfl) zP zD zS
            · have hcq := hcp
              refine lv_aload_n zx zb d_Rs_rebuild_35 rfl (lv_at zl 2 rfl) ?_
              refine lv_iload zx zb d_Rs_rebuild_36 (lv_at zl 4 rfl) ?_
              refine lv_iload zx zb d_Rs_rebuild_38 (lv_at zl 4 rfl) ?_
              refine lv_aload_n zx zb d_Rs_rebuild_40 rfl (lv_at zl 1 rfl) ?_
              refine wv_get zx zb zg hin_Bk rfl zo zK zP 7 rfl 4 (by decide) rfl fl_Rs_38 rfl d_Rs_rebuild_41 ?_
              refine wn_clt_F (tgt := 51) zx zb d_Rs_rebuild_44 (by decide) (by omega) (by omega) (by omega) ?_
              refine lv_iconst (v := (nI 1)) zx zb d_Rs_rebuild_47 (by decide) ?_
              refine lv_goto (tgt := 52) zx zb d_Rs_rebuild_48 (by decide) ?_
              refine ct_V (ws' := wRs g r0 r1 s0 y.1 rr ++ wTr g s0 s1 s2 s3 s4 (va_up y.2.1 (o (st + iq)) ((y.2.1 (o (st + iq))) + 1)) (va_up y.2.2.1 (o (st + iq)) (st + iq)) (va_up y.2.2.2.1 (((o (st + iq)) * 4) + (y.2.1 (o (st + iq)))) (ke (st + iq))) (upd y.2.2.2.2 (((o (st + iq)) * 4) + (y.2.1 (o (st + iq)))) (va (st + iq))) ++ wBk g b0 b1 bv pr fi st cp en pg ++ wLog g l0 l1 l2 l3 l4 k o ke va n sy) (rest := []) (st1 := []) zx zb zm zo zg zK zP zD zS zA zl.1 (c_Rs_replay_set_n lL g r0 r1 s0 y.1 rr s1 s2 s3 s4 y.2.1 y.2.2.1 y.2.2.2.1 y.2.2.2.2 l0 l1 l2 l3 l4 k o ke va n sy (st + iq) 1 (by omega) (by omega) (by omega) (by omega)) ok_Rs_replay ov_Rs_replay ml_Rs_41 (by decide) 0 6 rfl rfl rfl [0, 1, 2, 3, 4, 5, 6, 9, 10, 11, 12, 13] [7, 8] 14 (by decide) rfl rfl rfl rfl (by decide) rfl rfl rfl (Nat.le_of_ble_eq_true rfl) d_Rs_rebuild_52 (fun HX oX zP zD zS => ?_)
              refine lv_iinc (k := 4) (lv' := [(4, .int (nI ((st + iq) + 1))), (0, .ref r0), (1, .ref b0), (2, .ref l0), (3, .int (nI ps))]) zx zb d_Rs_rebuild_55 zl rfl (ni_inc _) (by decide) rfl (fun lsX zl => ?_)
              refine lv_goto (tgt := 28) zx zb d_Rs_rebuild_58 (by decide) ?_
              exact ih_loop28 _ (by omega) (iq + 1) (y.1, va_up y.2.1 (o (st + iq)) (y.2.1 (o (st + iq)) + 1), va_up y.2.2.1 (o (st + iq)) (st + iq), va_up y.2.2.2.1 (o (st + iq) * 4 + y.2.1 (o (st + iq))) (ke (st + iq)), upd y.2.2.2.2 (o (st + iq) * 4 + y.2.1 (o (st + iq))) (va (st + iq))) rfl (by omega) hy2 lsX HX oX (lv_sub zl [1, 2, 3, 4, 0] rfl) zP zD zS
          · have ey : rsp1 k o ke va cp (st + iq) y = (y.1, va_up y.2.1 (o (st + iq)) (y.2.1 (o (st + iq)) + 1), y.2.2.1, va_up y.2.2.2.1 (o (st + iq) * 4 + y.2.1 (o (st + iq))) (ke (st + iq)), upd y.2.2.2.2 (o (st + iq) * 4 + y.2.1 (o (st + iq))) (va (st + iq))) := by unfold rsp1; rw [if_pos hk, if_neg (show ¬ y.2.1 (o (st + iq)) = 0 by omega)]
            have hy2 : (y.1, va_up y.2.1 (o (st + iq)) (y.2.1 (o (st + iq)) + 1), y.2.2.1, va_up y.2.2.2.1 (o (st + iq) * 4 + y.2.1 (o (st + iq))) (ke (st + iq)), upd y.2.2.2.2 (o (st + iq) * 4 + y.2.1 (o (st + iq))) (va (st + iq))) = rpF k o ke va cp st (va_cpy bv rv 0 0 32, va_up (va_up (va_up cR 0 0) 1 0) 2 0, fR, tkR, tvR) (iq + 1) := by rw [← ey, hy]; rfl
            refine lv_aload_n zx zb d_Rs_rebuild_34 rfl (lv_at zl 0 rfl) ?_
            rcases Nat.lt_or_ge (st + iq) cp with hcp | hcp
            · have hcq := hcp
              refine lv_aload_n zx zb d_Rs_rebuild_35 rfl (lv_at zl 2 rfl) ?_
              refine lv_iload zx zb d_Rs_rebuild_36 (lv_at zl 4 rfl) ?_
              refine lv_iload zx zb d_Rs_rebuild_38 (lv_at zl 4 rfl) ?_
              refine lv_aload_n zx zb d_Rs_rebuild_40 rfl (lv_at zl 1 rfl) ?_
              refine wv_get zx zb zg hin_Bk rfl zo zK zP 7 rfl 4 (by decide) rfl fl_Rs_38 rfl d_Rs_rebuild_41 ?_
              refine wn_clt_T (tgt := 51) zx zb d_Rs_rebuild_44 (by decide) (by omega) (by omega) (by omega) ?_
              refine lv_iconst (v := (nI 0)) zx zb d_Rs_rebuild_51 (by decide) ?_
              refine ct_V (ws' := wRs g r0 r1 s0 y.1 rr ++ wTr g s0 s1 s2 s3 s4 (va_up y.2.1 (o (st + iq)) ((y.2.1 (o (st + iq))) + 1)) y.2.2.1 (va_up y.2.2.2.1 (((o (st + iq)) * 4) + (y.2.1 (o (st + iq)))) (ke (st + iq))) (upd y.2.2.2.2 (((o (st + iq)) * 4) + (y.2.1 (o (st + iq)))) (va (st + iq))) ++ wBk g b0 b1 bv pr fi st cp en pg ++ wLog g l0 l1 l2 l3 l4 k o ke va n sy) (rest := []) (st1 := []) zx zb zm zo zg zK zP zD zS zA zl.1 (c_Rs_replay_set_o lL g r0 r1 s0 y.1 rr s1 s2 s3 s4 y.2.1 y.2.2.1 y.2.2.2.1 y.2.2.2.2 l0 l1 l2 l3 l4 k o ke va n sy (st + iq) 0 (by omega) (by omega) (by omega) (by omega) (by omega)) ok_Rs_replay ov_Rs_replay ml_Rs_41 (by decide) 0 6 rfl rfl rfl [0, 1, 2, 3, 4, 5, 6, 9, 10, 11, 12, 13] [7, 8] 14 (by decide) rfl rfl rfl rfl (by decide) rfl rfl rfl (Nat.le_of_ble_eq_true rfl) d_Rs_rebuild_52 (fun HX oX zP zD zS => ?_)
              refine lv_iinc (k := 4) (lv' := [(4, .int (nI ((st + iq) + 1))), (0, .ref r0), (1, .ref b0), (2, .ref l0), (3, .int (nI ps))]) zx zb d_Rs_rebuild_55 zl rfl (ni_inc _) (by decide) rfl (fun lsX zl => ?_)
              refine lv_goto (tgt := 28) zx zb d_Rs_rebuild_58 (by decide) ?_
              exact ih_loop28 _ (by omega) (iq + 1) (y.1, va_up y.2.1 (o (st + iq)) (y.2.1 (o (st + iq)) + 1), y.2.2.1, va_up y.2.2.2.1 (o (st + iq) * 4 + y.2.1 (o (st + iq))) (ke (st + iq)), upd y.2.2.2.2 (o (st + iq) * 4 + y.2.1 (o (st + iq))) (va (st + iq))) rfl (by omega) hy2 lsX HX oX (lv_sub zl [1, 2, 3, 4, 0] rfl) zP zD zS
            · have hcq := hcp
              refine lv_aload_n zx zb d_Rs_rebuild_35 rfl (lv_at zl 2 rfl) ?_
              refine lv_iload zx zb d_Rs_rebuild_36 (lv_at zl 4 rfl) ?_
              refine lv_iload zx zb d_Rs_rebuild_38 (lv_at zl 4 rfl) ?_
              refine lv_aload_n zx zb d_Rs_rebuild_40 rfl (lv_at zl 1 rfl) ?_
              refine wv_get zx zb zg hin_Bk rfl zo zK zP 7 rfl 4 (by decide) rfl fl_Rs_38 rfl d_Rs_rebuild_41 ?_
              refine wn_clt_F (tgt := 51) zx zb d_Rs_rebuild_44 (by decide) (by omega) (by omega) (by omega) ?_
              refine lv_iconst (v := (nI 1)) zx zb d_Rs_rebuild_47 (by decide) ?_
              refine lv_goto (tgt := 52) zx zb d_Rs_rebuild_48 (by decide) ?_
              refine ct_V (ws' := wRs g r0 r1 s0 y.1 rr ++ wTr g s0 s1 s2 s3 s4 (va_up y.2.1 (o (st + iq)) ((y.2.1 (o (st + iq))) + 1)) y.2.2.1 (va_up y.2.2.2.1 (((o (st + iq)) * 4) + (y.2.1 (o (st + iq)))) (ke (st + iq))) (upd y.2.2.2.2 (((o (st + iq)) * 4) + (y.2.1 (o (st + iq)))) (va (st + iq))) ++ wBk g b0 b1 bv pr fi st cp en pg ++ wLog g l0 l1 l2 l3 l4 k o ke va n sy) (rest := []) (st1 := []) zx zb zm zo zg zK zP zD zS zA zl.1 (c_Rs_replay_set_o lL g r0 r1 s0 y.1 rr s1 s2 s3 s4 y.2.1 y.2.2.1 y.2.2.2.1 y.2.2.2.2 l0 l1 l2 l3 l4 k o ke va n sy (st + iq) 1 (by omega) (by omega) (by omega) (by omega) (by omega)) ok_Rs_replay ov_Rs_replay ml_Rs_41 (by decide) 0 6 rfl rfl rfl [0, 1, 2, 3, 4, 5, 6, 9, 10, 11, 12, 13] [7, 8] 14 (by decide) rfl rfl rfl rfl (by decide) rfl rfl rfl (Nat.le_of_ble_eq_true rfl) d_Rs_rebuild_52 (fun HX oX zP zD zS => ?_)
              refine lv_iinc (k := 4) (lv' := [(4, .int (nI ((st + iq) + 1))), (0, .ref r0), (1, .ref b0), (2, .ref l0), (3, .int (nI ps))]) zx zb d_Rs_rebuild_55 zl rfl (ni_inc _) (by decide) rfl (fun lsX zl => ?_)
              refine lv_goto (tgt := 28) zx zb d_Rs_rebuild_58 (by decide) ?_
              exact ih_loop28 _ (by omega) (iq + 1) (y.1, va_up y.2.1 (o (st + iq)) (y.2.1 (o (st + iq)) + 1), y.2.2.1, va_up y.2.2.2.1 (o (st + iq) * 4 + y.2.1 (o (st + iq))) (ke (st + iq)), upd y.2.2.2.2 (o (st + iq) * 4 + y.2.1 (o (st + iq))) (va (st + iq))) rfl (by omega) hy2 lsX HX oX (lv_sub zl [1, 2, 3, 4, 0] rfl) zP zD zS
        · have ho := hv2 (by omega)
          have hc4 := hv4 hk
          refine lv_iload_n zx zb d_Rs_rebuild_30 rfl (lv_at zl 3 rfl) ?_
          refine wn_cge_F (tgt := 61) zx zb d_Rs_rebuild_31 (by decide) (by omega) (by omega) (by omega) ?_
          refine lv_aload_n zx zb d_Rs_rebuild_34 rfl (lv_at zl 0 rfl) ?_
          rcases Nat.lt_or_ge (st + iq) cp with hcp | hcp
          · have ey : rsp1 k o ke va cp (st + iq) y = (y.1, va_up y.2.1 (o (st + iq)) 0, y.2.2.1, y.2.2.2.1, y.2.2.2.2) := by unfold rsp1; rw [if_neg (by omega), if_pos hk, if_neg (by omega)]
            have hy2 : (y.1, va_up y.2.1 (o (st + iq)) 0, y.2.2.1, y.2.2.2.1, y.2.2.2.2) = rpF k o ke va cp st (va_cpy bv rv 0 0 32, va_up (va_up (va_up cR 0 0) 1 0) 2 0, fR, tkR, tvR) (iq + 1) := by rw [← ey, hy]; rfl
            refine lv_aload_n zx zb d_Rs_rebuild_35 rfl (lv_at zl 2 rfl) ?_
            refine lv_iload zx zb d_Rs_rebuild_36 (lv_at zl 4 rfl) ?_
            refine lv_iload zx zb d_Rs_rebuild_38 (lv_at zl 4 rfl) ?_
            refine lv_aload_n zx zb d_Rs_rebuild_40 rfl (lv_at zl 1 rfl) ?_
            refine wv_get zx zb zg hin_Bk rfl zo zK zP 7 rfl 4 (by decide) rfl fl_Rs_38 rfl d_Rs_rebuild_41 ?_
            refine wn_clt_T (tgt := 51) zx zb d_Rs_rebuild_44 (by decide) (by omega) (by omega) (by omega) ?_
            refine lv_iconst (v := (nI 0)) zx zb d_Rs_rebuild_51 (by decide) ?_
            refine ct_V (ws' := wRs g r0 r1 s0 y.1 rr ++ wTr g s0 s1 s2 s3 s4 (va_up y.2.1 (o (st + iq)) 0) y.2.2.1 y.2.2.2.1 y.2.2.2.2 ++ wBk g b0 b1 bv pr fi st cp en pg ++ wLog g l0 l1 l2 l3 l4 k o ke va n sy) (rest := []) (st1 := []) zx zb zm zo zg zK zP zD zS zA zl.1 (c_Rs_replay_com_f lL g r0 r1 s0 y.1 rr s1 s2 s3 s4 y.2.1 y.2.2.1 y.2.2.2.1 y.2.2.2.2 l0 l1 l2 l3 l4 k o ke va n sy (st + iq) (by omega) (by omega) (by omega)) ok_Rs_replay ov_Rs_replay ml_Rs_41 (by decide) 0 6 rfl rfl rfl [0, 1, 2, 3, 4, 5, 6, 9, 10, 11, 12, 13] [7, 8] 14 (by decide) rfl rfl rfl rfl (by decide) rfl rfl rfl (Nat.le_of_ble_eq_true rfl) d_Rs_rebuild_52 (fun HX oX zP zD zS => ?_)
            refine lv_iinc (k := 4) (lv' := [(4, .int (nI ((st + iq) + 1))), (0, .ref r0), (1, .ref b0), (2, .ref l0), (3, .int (nI ps))]) zx zb d_Rs_rebuild_55 zl rfl (ni_inc _) (by decide) rfl (fun lsX zl => ?_)
            refine lv_goto (tgt := 28) zx zb d_Rs_rebuild_58 (by decide) ?_
            exact ih_loop28 _ (by omega) (iq + 1) (y.1, va_up y.2.1 (o (st + iq)) 0, y.2.2.1, y.2.2.2.1, y.2.2.2.2) rfl (by omega) hy2 lsX HX oX (lv_sub zl [1, 2, 3, 4, 0] rfl) zP zD zS
          · have ey : rsp1 k o ke va cp (st + iq) y = (wrS y.2.2.2.1 y.2.2.2.2 y.1 (o (st + iq) * 4) (y.2.1 (o (st + iq))), va_up y.2.1 (o (st + iq)) 0, y.2.2.1, y.2.2.2.1, y.2.2.2.2) := by unfold rsp1; rw [if_neg (by omega), if_pos hk, if_pos hcp]
            have hy2 : (wrS y.2.2.2.1 y.2.2.2.2 y.1 (o (st + iq) * 4) (y.2.1 (o (st + iq))), va_up y.2.1 (o (st + iq)) 0, y.2.2.1, y.2.2.2.1, y.2.2.2.2) = rpF k o ke va cp st (va_cpy bv rv 0 0 32, va_up (va_up (va_up cR 0 0) 1 0) 2 0, fR, tkR, tvR) (iq + 1) := by rw [← ey, hy]; rfl
            refine lv_aload_n zx zb d_Rs_rebuild_35 rfl (lv_at zl 2 rfl) ?_
            refine lv_iload zx zb d_Rs_rebuild_36 (lv_at zl 4 rfl) ?_
            refine lv_iload zx zb d_Rs_rebuild_38 (lv_at zl 4 rfl) ?_
            refine lv_aload_n zx zb d_Rs_rebuild_40 rfl (lv_at zl 1 rfl) ?_
            refine wv_get zx zb zg hin_Bk rfl zo zK zP 7 rfl 4 (by decide) rfl fl_Rs_38 rfl d_Rs_rebuild_41 ?_
            refine wn_clt_F (tgt := 51) zx zb d_Rs_rebuild_44 (by decide) (by omega) (by omega) (by omega) ?_
            refine lv_iconst (v := (nI 1)) zx zb d_Rs_rebuild_47 (by decide) ?_
            refine lv_goto (tgt := 52) zx zb d_Rs_rebuild_48 (by decide) ?_
            refine ct_V (ws' := wRs g r0 r1 s0 (wrS y.2.2.2.1 y.2.2.2.2 y.1 ((o (st + iq)) * 4) (y.2.1 (o (st + iq)))) rr ++ wTr g s0 s1 s2 s3 s4 (va_up y.2.1 (o (st + iq)) 0) y.2.2.1 y.2.2.2.1 y.2.2.2.2 ++ wBk g b0 b1 bv pr fi st cp en pg ++ wLog g l0 l1 l2 l3 l4 k o ke va n sy) (rest := []) (st1 := []) zx zb zm zo zg zK zP zD zS zA zl.1 (c_Rs_replay_com_t lL g r0 r1 s0 y.1 rr s1 s2 s3 s4 y.2.1 y.2.2.1 y.2.2.2.1 y.2.2.2.2 l0 l1 l2 l3 l4 k o ke va n sy (st + iq) (by omega) (by omega) (by omega) (by omega) hv5) ok_Rs_replay ov_Rs_replay ml_Rs_41 (by decide) 0 6 rfl rfl rfl [0, 1, 2, 3, 4, 5, 6, 9, 10, 11, 12, 13] [7, 8] 14 (by decide) rfl rfl rfl rfl (by decide) rfl rfl rfl (Nat.le_of_ble_eq_true rfl) d_Rs_rebuild_52 (fun HX oX zP zD zS => ?_)
            refine lv_iinc (k := 4) (lv' := [(4, .int (nI ((st + iq) + 1))), (0, .ref r0), (1, .ref b0), (2, .ref l0), (3, .int (nI ps))]) zx zb d_Rs_rebuild_55 zl rfl (ni_inc _) (by decide) rfl (fun lsX zl => ?_)
            refine lv_goto (tgt := 28) zx zb d_Rs_rebuild_58 (by decide) ?_
            exact ih_loop28 _ (by omega) (iq + 1) (wrS y.2.2.2.1 y.2.2.2.2 y.1 (o (st + iq) * 4) (y.2.1 (o (st + iq))), va_up y.2.1 (o (st + iq)) 0, y.2.2.1, y.2.2.2.1, y.2.2.2.2) rfl (by omega) hy2 lsX HX oX (lv_sub zl [1, 2, 3, 4, 0] rfl) zP zD zS
        · have ho := hv2 (by omega)
          have ey : rsp1 k o ke va cp (st + iq) y = (y.1, va_up y.2.1 (o (st + iq)) 0, y.2.2.1, y.2.2.2.1, y.2.2.2.2) := by unfold rsp1; rw [if_neg (by omega), if_neg (by omega), if_pos hk]
          have hy2 : (y.1, va_up y.2.1 (o (st + iq)) 0, y.2.2.1, y.2.2.2.1, y.2.2.2.2) = rpF k o ke va cp st (va_cpy bv rv 0 0 32, va_up (va_up (va_up cR 0 0) 1 0) 2 0, fR, tkR, tvR) (iq + 1) := by rw [← ey, hy]; rfl
          refine lv_iload_n zx zb d_Rs_rebuild_30 rfl (lv_at zl 3 rfl) ?_
          refine wn_cge_F (tgt := 61) zx zb d_Rs_rebuild_31 (by decide) (by omega) (by omega) (by omega) ?_
          refine lv_aload_n zx zb d_Rs_rebuild_34 rfl (lv_at zl 0 rfl) ?_
          rcases Nat.lt_or_ge (st + iq) cp with hcp | hcp
          · have hcq := hcp
            refine lv_aload_n zx zb d_Rs_rebuild_35 rfl (lv_at zl 2 rfl) ?_
            refine lv_iload zx zb d_Rs_rebuild_36 (lv_at zl 4 rfl) ?_
            refine lv_iload zx zb d_Rs_rebuild_38 (lv_at zl 4 rfl) ?_
            refine lv_aload_n zx zb d_Rs_rebuild_40 rfl (lv_at zl 1 rfl) ?_
            refine wv_get zx zb zg hin_Bk rfl zo zK zP 7 rfl 4 (by decide) rfl fl_Rs_38 rfl d_Rs_rebuild_41 ?_
            refine wn_clt_T (tgt := 51) zx zb d_Rs_rebuild_44 (by decide) (by omega) (by omega) (by omega) ?_
            refine lv_iconst (v := (nI 0)) zx zb d_Rs_rebuild_51 (by decide) ?_
            refine ct_V (ws' := wRs g r0 r1 s0 y.1 rr ++ wTr g s0 s1 s2 s3 s4 (va_up y.2.1 (o (st + iq)) 0) y.2.2.1 y.2.2.2.1 y.2.2.2.2 ++ wBk g b0 b1 bv pr fi st cp en pg ++ wLog g l0 l1 l2 l3 l4 k o ke va n sy) (rest := []) (st1 := []) zx zb zm zo zg zK zP zD zS zA zl.1 (c_Rs_replay_abo lL g r0 r1 s0 y.1 rr s1 s2 s3 s4 y.2.1 y.2.2.1 y.2.2.2.1 y.2.2.2.2 l0 l1 l2 l3 l4 k o ke va n sy (st + iq) 0 (by omega) (by omega) (by omega)) ok_Rs_replay ov_Rs_replay ml_Rs_41 (by decide) 0 6 rfl rfl rfl [0, 1, 2, 3, 4, 5, 6, 9, 10, 11, 12, 13] [7, 8] 14 (by decide) rfl rfl rfl rfl (by decide) rfl rfl rfl (Nat.le_of_ble_eq_true rfl) d_Rs_rebuild_52 (fun HX oX zP zD zS => ?_)
            refine lv_iinc (k := 4) (lv' := [(4, .int (nI ((st + iq) + 1))), (0, .ref r0), (1, .ref b0), (2, .ref l0), (3, .int (nI ps))]) zx zb d_Rs_rebuild_55 zl rfl (ni_inc _) (by decide) rfl (fun lsX zl => ?_)
            refine lv_goto (tgt := 28) zx zb d_Rs_rebuild_58 (by decide) ?_
            exact ih_loop28 _ (by omega) (iq + 1) (y.1, va_up y.2.1 (o (st + iq)) 0, y.2.2.1, y.2.2.2.1, y.2.2.2.2) rfl (by omega) hy2 lsX HX oX (lv_sub zl [1, 2, 3, 4, 0] rfl) zP zD zS
          · have hcq := hcp
            refine lv_aload_n zx zb d_Rs_rebuild_35 rfl (lv_at zl 2 rfl) ?_
            refine lv_iload zx zb d_Rs_rebuild_36 (lv_at zl 4 rfl) ?_
            refine lv_iload zx zb d_Rs_rebuild_38 (lv_at zl 4 rfl) ?_
            refine lv_aload_n zx zb d_Rs_rebuild_40 rfl (lv_at zl 1 rfl) ?_
            refine wv_get zx zb zg hin_Bk rfl zo zK zP 7 rfl 4 (by decide) rfl fl_Rs_38 rfl d_Rs_rebuild_41 ?_
            refine wn_clt_F (tgt := 51) zx zb d_Rs_rebuild_44 (by decide) (by omega) (by omega) (by omega) ?_
            refine lv_iconst (v := (nI 1)) zx zb d_Rs_rebuild_47 (by decide) ?_
            refine lv_goto (tgt := 52) zx zb d_Rs_rebuild_48 (by decide) ?_
            refine ct_V (ws' := wRs g r0 r1 s0 y.1 rr ++ wTr g s0 s1 s2 s3 s4 (va_up y.2.1 (o (st + iq)) 0) y.2.2.1 y.2.2.2.1 y.2.2.2.2 ++ wBk g b0 b1 bv pr fi st cp en pg ++ wLog g l0 l1 l2 l3 l4 k o ke va n sy) (rest := []) (st1 := []) zx zb zm zo zg zK zP zD zS zA zl.1 (c_Rs_replay_abo lL g r0 r1 s0 y.1 rr s1 s2 s3 s4 y.2.1 y.2.2.1 y.2.2.2.1 y.2.2.2.2 l0 l1 l2 l3 l4 k o ke va n sy (st + iq) 1 (by omega) (by omega) (by omega)) ok_Rs_replay ov_Rs_replay ml_Rs_41 (by decide) 0 6 rfl rfl rfl [0, 1, 2, 3, 4, 5, 6, 9, 10, 11, 12, 13] [7, 8] 14 (by decide) rfl rfl rfl rfl (by decide) rfl rfl rfl (Nat.le_of_ble_eq_true rfl) d_Rs_rebuild_52 (fun HX oX zP zD zS => ?_)
            refine lv_iinc (k := 4) (lv' := [(4, .int (nI ((st + iq) + 1))), (0, .ref r0), (1, .ref b0), (2, .ref l0), (3, .int (nI ps))]) zx zb d_Rs_rebuild_55 zl rfl (ni_inc _) (by decide) rfl (fun lsX zl => ?_)
            refine lv_goto (tgt := 28) zx zb d_Rs_rebuild_58 (by decide) ?_
            exact ih_loop28 _ (by omega) (iq + 1) (y.1, va_up y.2.1 (o (st + iq)) 0, y.2.2.1, y.2.2.2.1, y.2.2.2.2) rfl (by omega) hy2 lsX HX oX (lv_sub zl [1, 2, 3, 4, 0] rfl) zP zD zS
        · have ey : rsp1 k o ke va cp (st + iq) y = (y.1, va_up (va_up (va_up y.2.1 0 0) 1 0) 2 0, y.2.2.1, y.2.2.2.1, y.2.2.2.2) := by unfold rsp1; rw [if_neg (by omega), if_neg (by omega), if_neg (by omega)]
          have hy2 : (y.1, va_up (va_up (va_up y.2.1 0 0) 1 0) 2 0, y.2.2.1, y.2.2.2.1, y.2.2.2.2) = rpF k o ke va cp st (va_cpy bv rv 0 0 32, va_up (va_up (va_up cR 0 0) 1 0) 2 0, fR, tkR, tvR) (iq + 1) := by rw [← ey, hy]; rfl
          refine lv_iload_n zx zb d_Rs_rebuild_30 rfl (lv_at zl 3 rfl) ?_
          refine wn_cge_F (tgt := 61) zx zb d_Rs_rebuild_31 (by decide) (by omega) (by omega) (by omega) ?_
          refine lv_aload_n zx zb d_Rs_rebuild_34 rfl (lv_at zl 0 rfl) ?_
          rcases Nat.lt_or_ge (st + iq) cp with hcp | hcp
          · have hcq := hcp
            refine lv_aload_n zx zb d_Rs_rebuild_35 rfl (lv_at zl 2 rfl) ?_
            refine lv_iload zx zb d_Rs_rebuild_36 (lv_at zl 4 rfl) ?_
            refine lv_iload zx zb d_Rs_rebuild_38 (lv_at zl 4 rfl) ?_
            refine lv_aload_n zx zb d_Rs_rebuild_40 rfl (lv_at zl 1 rfl) ?_
            refine wv_get zx zb zg hin_Bk rfl zo zK zP 7 rfl 4 (by decide) rfl fl_Rs_38 rfl d_Rs_rebuild_41 ?_
            refine wn_clt_T (tgt := 51) zx zb d_Rs_rebuild_44 (by decide) (by omega) (by omega) (by omega) ?_
            refine lv_iconst (v := (nI 0)) zx zb d_Rs_rebuild_51 (by decide) ?_
            refine ct_V (ws' := wRs g r0 r1 s0 y.1 rr ++ wTr g s0 s1 s2 s3 s4 (va_up (va_up (va_up y.2.1 0 0) 1 0) 2 0) y.2.2.1 y.2.2.2.1 y.2.2.2.2 ++ wBk g b0 b1 bv pr fi st cp en pg ++ wLog g l0 l1 l2 l3 l4 k o ke va n sy) (rest := []) (st1 := []) zx zb zm zo zg zK zP zD zS zA zl.1 (c_Rs_replay_res lL g r0 r1 s0 y.1 rr s1 s2 s3 s4 y.2.1 y.2.2.1 y.2.2.2.1 y.2.2.2.2 l0 l1 l2 l3 l4 k o ke va n sy (st + iq) 0 (by omega) (by omega)) ok_Rs_replay ov_Rs_replay ml_Rs_41 (by decide) 0 6 rfl rfl rfl [0, 1, 2, 3, 4, 5, 6, 9, 10, 11, 12, 13] [7, 8] 14 (by decide) rfl rfl rfl rfl (by decide) rfl rfl rfl (Nat.le_of_ble_eq_true rfl) d_Rs_rebuild_52 (fun HX oX zP zD zS => ?_)
            refine lv_iinc (k := 4) (lv' := [(4, .int (nI ((st + iq) + 1))), (0, .ref r0), (1, .ref b0), (2, .ref l0), (3, .int (nI ps))]) zx zb d_Rs_rebuild_55 zl rfl (ni_inc _) (by decide) rfl (fun lsX zl => ?_)
            refine lv_goto (tgt := 28) zx zb d_Rs_rebuild_58 (by decide) ?_
            exact ih_loop28 _ (by omega) (iq + 1) (y.1, va_up (va_up (va_up y.2.1 0 0) 1 0) 2 0, y.2.2.1, y.2.2.2.1, y.2.2.2.2) rfl (by omega) hy2 lsX HX oX (lv_sub zl [1, 2, 3, 4, 0] rfl) zP zD zS
          · have hcq := hcp
            refine lv_aload_n zx zb d_Rs_rebuild_35 rfl (lv_at zl 2 rfl) ?_
            refine lv_iload zx zb d_Rs_rebuild_36 (lv_at zl 4 rfl) ?_
            refine lv_iload zx zb d_Rs_rebuild_38 (lv_at zl 4 rfl) ?_
            refine lv_aload_n zx zb d_Rs_rebuild_40 rfl (lv_at zl 1 rfl) ?_
            refine wv_get zx zb zg hin_Bk rfl zo zK zP 7 rfl 4 (by decide) rfl fl_Rs_38 rfl d_Rs_rebuild_41 ?_
            refine wn_clt_F (tgt := 51) zx zb d_Rs_rebuild_44 (by decide) (by omega) (by omega) (by omega) ?_
            refine lv_iconst (v := (nI 1)) zx zb d_Rs_rebuild_47 (by decide) ?_
            refine lv_goto (tgt := 52) zx zb d_Rs_rebuild_48 (by decide) ?_
            refine ct_V (ws' := wRs g r0 r1 s0 y.1 rr ++ wTr g s0 s1 s2 s3 s4 (va_up (va_up (va_up y.2.1 0 0) 1 0) 2 0) y.2.2.1 y.2.2.2.1 y.2.2.2.2 ++ wBk g b0 b1 bv pr fi st cp en pg ++ wLog g l0 l1 l2 l3 l4 k o ke va n sy) (rest := []) (st1 := []) zx zb zm zo zg zK zP zD zS zA zl.1 (c_Rs_replay_res lL g r0 r1 s0 y.1 rr s1 s2 s3 s4 y.2.1 y.2.2.1 y.2.2.2.1 y.2.2.2.2 l0 l1 l2 l3 l4 k o ke va n sy (st + iq) 1 (by omega) (by omega)) ok_Rs_replay ov_Rs_replay ml_Rs_41 (by decide) 0 6 rfl rfl rfl [0, 1, 2, 3, 4, 5, 6, 9, 10, 11, 12, 13] [7, 8] 14 (by decide) rfl rfl rfl rfl (by decide) rfl rfl rfl (Nat.le_of_ble_eq_true rfl) d_Rs_rebuild_52 (fun HX oX zP zD zS => ?_)
            refine lv_iinc (k := 4) (lv' := [(4, .int (nI ((st + iq) + 1))), (0, .ref r0), (1, .ref b0), (2, .ref l0), (3, .int (nI ps))]) zx zb d_Rs_rebuild_55 zl rfl (ni_inc _) (by decide) rfl (fun lsX zl => ?_)
            refine lv_goto (tgt := 28) zx zb d_Rs_rebuild_58 (by decide) ?_
            exact ih_loop28 _ (by omega) (iq + 1) (y.1, va_up (va_up (va_up y.2.1 0 0) 1 0) 2 0, y.2.2.1, y.2.2.2.1, y.2.2.2.2) rfl (by omega) hy2 lsX HX oX (lv_sub zl [1, 2, 3, 4, 0] rfl) zP zD zS
      · have eiq : iq = ps - st := by omega
        subst eiq
        refine lv_iload zx zb d_Rs_rebuild_28 (lv_at zl 4 rfl) ?_
        refine lv_iload_n zx zb d_Rs_rebuild_30 rfl (lv_at zl 3 rfl) ?_
        refine wn_cge_T (tgt := 61) zx zb d_Rs_rebuild_31 (by decide) (by omega) (by omega) (by omega) ?_
        refine lv_aload_n zx zb d_Rs_rebuild_61 rfl (lv_at zl 0 rfl) ?_
        refine lv_iload_n zx zb d_Rs_rebuild_62 rfl (lv_at zl 3 rfl) ?_
        refine lv_aload_n zx zb d_Rs_rebuild_63 rfl (lv_at zl 1 rfl) ?_
        refine wv_get zx zb zg hin_Bk rfl zo zK zP 7 rfl 3 (by decide) rfl fl_Rs_34 rfl d_Rs_rebuild_64 ?_
        refine wv_isub zx zb d_Rs_rebuild_67 (pk_sub (by omega)) ?_
        refine wv_put zx zb zg hin_Rs rfl t_Rs t_Rs_ok n_Rs zo zK zP zD zS 0 rfl 2 (by decide) rfl fl_Rs_45 rfl rfl rfl (Nat.le_of_ble_eq_true rfl) d_Rs_rebuild_68 (fun HX oX zP zD zS => ?_)
        have zP : va_P g.1 cls (wRs g r0 r1 s0 y.1 (ps - st) ++ wTr g s0 s1 s2 s3 s4 y.2.1 y.2.2.1 y.2.2.2.1 y.2.2.2.2 ++ wBk g b0 b1 bv pr fi st cp en pg ++ wLog g l0 l1 l2 l3 l4 k o ke va n sy) HX := zP
        have zD : va_D AX (wRs g r0 r1 s0 y.1 (ps - st) ++ wTr g s0 s1 s2 s3 s4 y.2.1 y.2.2.1 y.2.2.2.1 y.2.2.2.2 ++ wBk g b0 b1 bv pr fi st cp en pg ++ wLog g l0 l1 l2 l3 l4 k o ke va n sy) := zD
        exact ct_vret zQ zx zb zr zk zP zD zS d_Rs_rebuild_71 rfl (⟨rfl, by rw [hy]⟩)
  exact loop28 _ 0 (va_cpy bv rv 0 0 32, va_up (va_up (va_up cR 0 0) 1 0) 2 0, fR, tkR, tvR) rfl (by omega) rfl lsX HX oX (lv_sub zl [1, 2, 3, 4, 0] rfl) zP zD zS
