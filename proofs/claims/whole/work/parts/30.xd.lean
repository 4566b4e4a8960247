set_option maxRecDepth 20000 in
theorem c_X_restore_e (lL : Launch) (g : Gt) (x : Nat) (l0 : Nat) (t0 : Nat) (p0 : Nat) (ba : Nat) (h0 : Nat) (r0 : Nat) (un : Int32) (b : Nat → Nat) (b1 : Nat) (bv : Nat → Int32) (pr : Nat) (fi : Nat) (st : Nat) (cp : Nat) (en : Nat) (pg : Nat) (j : Nat) (ps : Nat) (hj : j < 3) (hfi : fi = 1) (hps : ps < 2147483648) (hen : en ≤ 512) (hst : st ≤ 512) (hee : ps < en) : Ct lL g y_X_restore (.code y_X_restore b_X_restore 4 (some .int)) 6 200 [.ref x, .int (nI j), .int (nI ps)] (wX g x l0 t0 p0 ba h0 r0 un ++ wBA g ba b ++ wBk g (b j) b1 bv pr fi st cp en pg) (exP (some (.int (-4))) (wX g x l0 t0 p0 ba h0 r0 un ++ wBA g ba b ++ wBk g (b j) b1 bv pr fi st cp en pg)) := by
  refine Ct.ofW (by decide) (Nat.le_of_ble_eq_true rfl) ?_
  intro pX eX sX mX aX bX tX cX AX lsX HX oX QX zx zb zr zk zm zo zg zK zP zD zA zS zQ zl
  have zo : sX.vm.findClass R_X = some mX.cls := zo
  have zl : lv_has lsX 4 [(0, .ref x), (1, .int (nI j)), (2, .int (nI ps))] := zl
  refine lv_aload_n zx zb d_X_restore_0 rfl (lv_at zl 0 rfl) ?_
  refine lv_iload_n zx zb d_X_restore_1 rfl (lv_at zl 1 rfl) ?_
  refine ct_V (ws' := wX g x l0 t0 p0 ba h0 r0 un ++ wBA g ba b ++ wBk g (b j) b1 bv pr fi st cp en pg) (rest := []) (st1 := [.int (nI 1)]) zx zb zm zo zg zK zP zD zS zA zl.1 (c_X_isFin_t lL g x l0 t0 p0 ba h0 r0 un b b1 bv pr fi st cp en pg j (by omega) (by omega)) ok_X_isFinishedBackup ov_X_isFinishedBackup ml_X_138 (by decide) 0 0 rfl rfl rfl [0, 1, 2, 3] [] 4 (by decide) rfl rfl rfl rfl (by decide) rfl rfl rfl (Nat.le_of_ble_eq_true rfl) d_X_restore_2 (fun HX oX zP zD zS => ?_)
  refine wn_ieq_F (tgt := 12) zx zb d_X_restore_5 (by decide) (by omega) (by omega) ?_
  refine lv_iload_n zx zb d_X_restore_8 rfl (lv_at zl 2 rfl) ?_
  refine wn_ige_T (tgt := 14) zx zb d_X_restore_9 (by decide) (by omega) (trivial) ?_
  refine lv_aload_n zx zb d_X_restore_14 rfl (lv_at zl 0 rfl) ?_
  refine wv_get zx zb zg hin_X rfl zo zK zP 0 rfl 3 (by decide) rfl fl_X_46 rfl d_X_restore_15 ?_
  refine lv_iload_n zx zb d_X_restore_18 rfl (lv_at zl 1 rfl) ?_
  refine wv_aald (v := b j) zx zb zK zP 1 rfl rfl (by omega) (by decide) d_X_restore_19 ?_
  refine lv_astore_n (lv' := [(3, .ref (b j)), (0, .ref x), (1, .int (nI j)), (2, .int (nI ps))]) zx zb d_X_restore_20 rfl zl (by decide) rfl (fun lsX zl => ?_)
  refine lv_iload_n zx zb d_X_restore_21 rfl (lv_at zl 3 rfl) ?_
  refine lv_aload_n zx zb d_X_restore_22 rfl (lv_at zl 0 rfl) ?_
  refine wv_get zx zb zg hin_Bk rfl zo zK zP 2 rfl 5 (by decide) rfl fl_X_144 rfl d_X_restore_23 ?_
  refine wn_cge_F (tgt := 32) zx zb d_X_restore_26 (by decide) (by omega) (by omega) (by omega) ?_
  refine lv_bipush (v := (-4)) zx zb d_X_restore_29 (by decide) ?_
  exact ct_iret zQ zx zb zr zk zP zD zS d_X_restore_31 rfl (⟨rfl, rfl⟩)
set_option maxRecDepth 20000 in
theorem c_X_restore_m (lL : Launch) (g : Gt) (x : Nat) (l0 : Nat) (t0 : Nat) (p0 : Nat) (ba : Nat) (h0 : Nat) (r0 : Nat) (un : Int32) (b : Nat → Nat) (b1 : Nat) (bv : Nat → Int32) (pr : Nat) (fi : Nat) (st : Nat) (cp : Nat) (en : Nat) (pg : Nat) (h1 : Nat) (hd : Nat → Nat) (hc : Nat) (nx : Nat) (j : Nat) (ps : Nat) (hj : j < 3) (hfi : fi = 1) (hps : ps < 2147483648) (hen : en ≤ 512) (hst : st ≤ 512) (hnx : nx ≤ 64) (hh : ∀ j, j < 64 → hd j = 0 ∨ hd j = 1) (hee : en ≤ ps) (hsp : st < ps) (hgg : hgS hd nx (st / 8) (64 - st / 8) * 8 < ps) : Ct lL g y_X_restore (.code y_X_restore b_X_restore 4 (some .int)) 6 200 [.ref x, .int (nI j), .int (nI ps)] (wX g x l0 t0 p0 ba h0 r0 un ++ wBA g ba b ++ wBk g (b j) b1 bv pr fi st cp en pg ++ wAr g h0 h1 hd hc nx) (exP (some (.int (-6))) (wX g x l0 t0 p0 ba h0 r0 un ++ wBA g ba b ++ wBk g (b j) b1 bv pr fi st cp en pg ++ wAr g h0 h1 hd hc nx)) := by
  refine Ct.ofW (by decide) (Nat.le_of_ble_eq_true rfl) ?_
  intro pX eX sX mX aX bX tX cX AX lsX HX oX QX zx zb zr zk zm zo zg zK zP zD zA zS zQ zl
  have zo : sX.vm.findClass R_X = some mX.cls := zo
  have zl : lv_has lsX 4 [(0, .ref x), (1, .int (nI j)), (2, .int (nI ps))] := zl
  refine lv_aload_n zx zb d_X_restore_0 rfl (lv_at zl 0 rfl) ?_
  refine lv_iload_n zx zb d_X_restore_1 rfl (lv_at zl 1 rfl) ?_
  refine ct_V (ws' := wX g x l0 t0 p0 ba h0 r0 un ++ wBA g ba b ++ wBk g (b j) b1 bv pr fi st cp en pg ++ wAr g h0 h1 hd hc nx) (rest := []) (st1 := [.int (nI 1)]) zx zb zm zo zg zK zP zD zS zA zl.1 (c_X_isFin_t lL g x l0 t0 p0 ba h0 r0 un b b1 bv pr fi st cp en pg j (by omega) (by omega)) ok_X_isFinishedBackup ov_X_isFinishedBackup ml_X_138 (by decide) 0 0 rfl rfl rfl [0, 1, 2, 3] [4, 5] 6 (by decide) rfl rfl rfl rfl (by decide) rfl rfl rfl (Nat.le_of_ble_eq_true rfl) d_X_restore_2 (fun HX oX zP zD zS => ?_)
  refine wn_ieq_F (tgt := 12) zx zb d_X_restore_5 (by decide) (by omega) (by omega) ?_
  refine lv_iload_n zx zb d_X_restore_8 rfl (lv_at zl 2 rfl) ?_
  refine wn_ige_T (tgt := 14) zx zb d_X_restore_9 (by decide) (by omega) (trivial) ?_
  refine lv_aload_n zx zb d_X_restore_14 rfl (lv_at zl 0 rfl) ?_
  refine wv_get zx zb zg hin_X rfl zo zK zP 0 rfl 3 (by decide) rfl fl_X_46 rfl d_X_restore_15 ?_
  refine lv_iload_n zx zb d_X_restore_18 rfl (lv_at zl 1 rfl) ?_
  refine wv_aald (v := b j) zx zb zK zP 1 rfl rfl (by omega) (by decide) d_X_restore_19 ?_
  refine lv_astore_n (lv' := [(3, .ref (b j)), (0, .ref x), (1, .int (nI j)), (2, .int (nI ps))]) zx zb d_X_restore_20 rfl zl (by decide) rfl (fun lsX zl => ?_)
  refine lv_iload_n zx zb d_X_restore_21 rfl (lv_at zl 3 rfl) ?_
  refine lv_aload_n zx zb d_X_restore_22 rfl (lv_at zl 0 rfl) ?_
  refine wv_get zx zb zg hin_Bk rfl zo zK zP 2 rfl 5 (by decide) rfl fl_X_144 rfl d_X_restore_23 ?_
  refine wn_cge_T (tgt := 32) zx zb d_X_restore_26 (by decide) (by omega) (by omega) (by omega) ?_
  refine lv_iload_n zx zb d_X_restore_32 rfl (lv_at zl 3 rfl) ?_
  refine lv_aload_n zx zb d_X_restore_33 rfl (lv_at zl 0 rfl) ?_
  refine wv_get zx zb zg hin_Bk rfl zo zK zP 2 rfl 3 (by decide) rfl fl_X_141 rfl d_X_restore_34 ?_
  refine wn_cle_F (tgt := 58) zx zb d_X_restore_37 (by decide) (by omega) (by omega) (by omega) ?_
  refine lv_aload_n zx zb d_X_restore_40 rfl (lv_at zl 1 rfl) ?_
  refine wv_get zx zb zg hin_X rfl zo zK zP 0 rfl 4 (by decide) rfl fl_X_33 rfl d_X_restore_41 ?_
  refine lv_aload_n zx zb d_X_restore_44 rfl (lv_at zl 0 rfl) ?_
  refine wv_get zx zb zg hin_Bk rfl zo zK zP 2 rfl 3 (by decide) rfl fl_X_141 rfl d_X_restore_45 ?_
  refine lv_iload_n zx zb d_X_restore_48 rfl (lv_at zl 3 rfl) ?_
  refine ct_V (ws' := wX g x l0 t0 p0 ba h0 r0 un ++ wBA g ba b ++ wBk g (b j) b1 bv pr fi st cp en pg ++ wAr g h0 h1 hd hc nx) (rest := []) (st1 := [.int (nI 0)]) zx zb zm zo zg zK zP zD zS zA zl.1 (c_Ar_holdsRec_f lL g h0 h1 hd hc nx st ps (by omega) hh (by omega) (by omega) (by omega)) ok_Ar_holdsRecords ov_Ar_holdsRecords ml_X_157 (by decide) 4 5 rfl rfl rfl [4, 5] [0, 1, 2, 3] 6 (by decide) rfl rfl rfl rfl (by decide) rfl rfl rfl (Nat.le_of_ble_eq_true rfl) d_X_restore_49 (fun HX oX zP zD zS => ?_)
  refine wn_ine_F (tgt := 58) zx zb d_X_restore_52 (by decide) (by omega) (by omega) ?_
  refine lv_bipush (v := (-6)) zx zb d_X_restore_55 (by decide) ?_
  exact ct_iret zQ zx zb zr zk zP zD zS d_X_restore_57 rfl (⟨rfl, rfl⟩)
set_option maxRecDepth 20000 in
theorem c_X_restore_b (lL : Launch) (g : Gt) (x : Nat) (l0 : Nat) (t0 : Nat) (p0 : Nat) (ba : Nat) (h0 : Nat) (r0 : Nat) (un : Int32) (b : Nat → Nat) (b1 : Nat) (bv : Nat → Int32) (pr : Nat) (fi : Nat) (st : Nat) (cp : Nat) (en : Nat) (pg : Nat) (h1 : Nat) (hd : Nat → Nat) (hc : Nat) (nx : Nat) (l1 : Nat) (l2 : Nat) (l3 : Nat) (l4 : Nat) (k : Nat → Nat) (o : Nat → Nat) (ke : Nat → Nat) (va : Nat → Int32) (n : Nat) (sy : Nat) (j : Nat) (ps : Nat) (hj : j < 3) (hfi : fi = 1) (hps : ps < 2147483648) (hen : en ≤ 512) (hst : st ≤ 512) (hnx : nx ≤ 64) (hh : ∀ j, j < 64 → hd j = 0 ∨ hd j = 1) (hee : en ≤ ps) (hsp : st < ps) (hgg : ps ≤ hgS hd nx (st / 8) (64 - st / 8) * 8) (hn : n ≤ 512) (hpn : ps ≤ n) (hk4 : k (ps - 1) < 4) (hkc : k (ps - 1) ≠ 1) : Ct lL g y_X_restore (.code y_X_restore b_X_restore 4 (some .int)) 6 200 [.ref x, .int (nI j), .int (nI ps)] (wX g x l0 t0 p0 ba h0 r0 un ++ wBA g ba b ++ wBk g (b j) b1 bv pr fi st cp en pg ++ wAr g h0 h1 hd hc nx ++ wLog g l0 l1 l2 l3 l4 k o ke va n sy) (exP (some (.int (-5))) (wX g x l0 t0 p0 ba h0 r0 un ++ wBA g ba b ++ wBk g (b j) b1 bv pr fi st cp en pg ++ wAr g h0 h1 hd hc nx ++ wLog g l0 l1 l2 l3 l4 k o ke va n sy)) := by
  refine Ct.ofW (by decide) (Nat.le_of_ble_eq_true rfl) ?_
  intro pX eX sX mX aX bX tX cX AX lsX HX oX QX zx zb zr zk zm zo zg zK zP zD zA zS zQ zl
  have zo : sX.vm.findClass R_X = some mX.cls := zo
  have zl : lv_has lsX 4 [(0, .ref x), (1, .int (nI j)), (2, .int (nI ps))] := zl
  refine lv_aload_n zx zb d_X_restore_0 rfl (lv_at zl 0 rfl) ?_
  refine lv_iload_n zx zb d_X_restore_1 rfl (lv_at zl 1 rfl) ?_
  refine ct_V (ws' := wX g x l0 t0 p0 ba h0 r0 un ++ wBA g ba b ++ wBk g (b j) b1 bv pr fi st cp en pg ++ wAr g h0 h1 hd hc nx ++ wLog g l0 l1 l2 l3 l4 k o ke va n sy) (rest := []) (st1 := [.int (nI 1)]) zx zb zm zo zg zK zP zD zS zA zl.1 (c_X_isFin_t lL g x l0 t0 p0 ba h0 r0 un b b1 bv pr fi st cp en pg j (by omega) (by omega)) ok_X_isFinishedBackup ov_X_isFinishedBackup ml_X_138 (by decide) 0 0 rfl rfl rfl [0, 1, 2, 3] [4, 5, 6, 7, 8, 9, 10] 11 (by decide) rfl rfl rfl rfl (by decide) rfl rfl rfl (Nat.le_of_ble_eq_true rfl) d_X_restore_2 (fun HX oX zP zD zS => ?_)
  refine wn_ieq_F (tgt := 12) zx zb d_X_restore_5 (by decide) (by omega) (by omega) ?_
  refine lv_iload_n zx zb d_X_restore_8 rfl (lv_at zl 2 rfl) ?_
  refine wn_ige_T (tgt := 14) zx zb d_X_restore_9 (by decide) (by omega) (trivial) ?_
  refine lv_aload_n zx zb d_X_restore_14 rfl (lv_at zl 0 rfl) ?_
  refine wv_get zx zb zg hin_X rfl zo zK zP 0 rfl 3 (by decide) rfl fl_X_46 rfl d_X_restore_15 ?_
  refine lv_iload_n zx zb d_X_restore_18 rfl (lv_at zl 1 rfl) ?_
  refine wv_aald (v := b j) zx zb zK zP 1 rfl rfl (by omega) (by decide) d_X_restore_19 ?_
  refine lv_astore_n (lv' := [(3, .ref (b j)), (0, .ref x), (1, .int (nI j)), (2, .int (nI ps))]) zx zb d_X_restore_20 rfl zl (by decide) rfl (fun lsX zl => ?_)
  refine lv_iload_n zx zb d_X_restore_21 rfl (lv_at zl 3 rfl) ?_
  refine lv_aload_n zx zb d_X_restore_22 rfl (lv_at zl 0 rfl) ?_
  refine wv_get zx zb zg hin_Bk rfl zo zK zP 2 rfl 5 (by decide) rfl fl_X_144 rfl d_X_restore_23 ?_
  refine wn_cge_T (tgt := 32) zx zb d_X_restore_26 (by decide) (by omega) (by omega) (by omega) ?_
  refine lv_iload_n zx zb d_X_restore_32 rfl (lv_at zl 3 rfl) ?_
  refine lv_aload_n zx zb d_X_restore_33 rfl (lv_at zl 0 rfl) ?_
  refine wv_get zx zb zg hin_Bk rfl zo zK zP 2 rfl 3 (by decide) rfl fl_X_141 rfl d_X_restore_34 ?_
  refine wn_cle_F (tgt := 58) zx zb d_X_restore_37 (by decide) (by omega) (by omega) (by omega) ?_
  refine lv_aload_n zx zb d_X_restore_40 rfl (lv_at zl 1 rfl) ?_
  refine wv_get zx zb zg hin_X rfl zo zK zP 0 rfl 4 (by decide) rfl fl_X_33 rfl d_X_restore_41 ?_
  refine lv_aload_n zx zb d_X_restore_44 rfl (lv_at zl 0 rfl) ?_
  refine wv_get zx zb zg hin_Bk rfl zo zK zP 2 rfl 3 (by decide) rfl fl_X_141 rfl d_X_restore_45 ?_
  refine lv_iload_n zx zb d_X_restore_48 rfl (lv_at zl 3 rfl) ?_
  refine ct_V (ws' := wX g x l0 t0 p0 ba h0 r0 un ++ wBA g ba b ++ wBk g (b j) b1 bv pr fi st cp en pg ++ wAr g h0 h1 hd hc nx ++ wLog g l0 l1 l2 l3 l4 k o ke va n sy) (rest := []) (st1 := [.int (nI 1)]) zx zb zm zo zg zK zP zD zS zA zl.1 (c_Ar_holdsRec_t lL g h0 h1 hd hc nx st ps (by omega) hh (by omega) (by omega)) ok_Ar_holdsRecords ov_Ar_holdsRecords ml_X_157 (by decide) 4 5 rfl rfl rfl [4, 5] [0, 1, 2, 3, 6, 7, 8, 9, 10] 11 (by decide) rfl rfl rfl rfl (by decide) rfl rfl rfl (Nat.le_of_ble_eq_true rfl) d_X_restore_49 (fun HX oX zP zD zS => ?_)
  refine wn_ine_T (tgt := 58) zx zb d_X_restore_52 (by decide) (by omega) (by omega) ?_
  refine lv_iload_n zx zb d_X_restore_58 rfl (lv_at zl 3 rfl) ?_
  refine lv_aload_n zx zb d_X_restore_59 rfl (lv_at zl 0 rfl) ?_
  refine wv_get zx zb zg hin_Bk rfl zo zK zP 2 rfl 3 (by decide) rfl fl_X_141 rfl d_X_restore_60 ?_
  refine wn_ceq_F (tgt := 80) zx zb d_X_restore_63 (by decide) (by omega) (by omega) (by omega) ?_
  refine lv_aload_n zx zb d_X_restore_66 rfl (lv_at zl 1 rfl) ?_
  refine wv_get zx zb zg hin_X rfl zo zK zP 0 rfl 0 (by decide) rfl fl_X_12 rfl d_X_restore_67 ?_
  refine lv_iload_n zx zb d_X_restore_70 rfl (lv_at zl 3 rfl) ?_
  refine ct_V (ws' := wX g x l0 t0 p0 ba h0 r0 un ++ wBA g ba b ++ wBk g (b j) b1 bv pr fi st cp en pg ++ wAr g h0 h1 hd hc nx ++ wLog g l0 l1 l2 l3 l4 k o ke va n sy) (rest := []) (st1 := [.int (nI 0)]) zx zb zm zo zg zK zP zD zS zA zl.1 (c_Log_hasCommit_f lL g l0 l1 l2 l3 l4 k o ke va n sy ps (by omega) (by omega) (by omega) (by omega) (by omega)) ok_Log_hasCommitDoneAt ov_Log_hasCommitDoneAt ml_X_161 (by decide) 6 1 rfl rfl rfl [6, 7, 8, 9, 10] [0, 1, 2, 3, 4, 5] 11 (by decide) rfl rfl rfl rfl (by decide) rfl rfl rfl (Nat.le_of_ble_eq_true rfl) d_X_restore_71 (fun HX oX zP zD zS => ?_)
  refine wn_ine_F (tgt := 80) zx zb d_X_restore_74 (by decide) (by omega) (by omega) ?_
  refine lv_bipush (v := (-5)) zx zb d_X_restore_77 (by decide) ?_
  exact ct_iret zQ zx zb zr zk zP zD zS d_X_restore_79 rfl (⟨rfl, rfl⟩)
set_option maxRecDepth 20000 in
theorem c_X_restore_c (lL : Launch) (g : Gt) (x : Nat) (l0 : Nat) (t0 : Nat) (p0 : Nat) (ba : Nat) (h0 : Nat) (r0 : Nat) (un : Int32) (b : Nat → Nat) (b1 : Nat) (bv : Nat → Int32) (pr : Nat) (fi : Nat) (st : Nat) (cp : Nat) (en : Nat) (pg : Nat) (h1 : Nat) (hd : Nat → Nat) (hc : Nat) (nx : Nat) (l1 : Nat) (l2 : Nat) (l3 : Nat) (l4 : Nat) (k : Nat → Nat) (o : Nat → Nat) (ke : Nat → Nat) (va : Nat → Int32) (n : Nat) (sy : Nat) (r1 : Nat) (s0 : Nat) (rv : Nat → Int32) (rr : Nat) (s1 : Nat) (s2 : Nat) (s3 : Nat) (s4 : Nat) (cR : Nat → Nat) (fR : Nat → Nat) (tkR : Nat → Nat) (tvR : Nat → Int32) (j : Nat) (ps : Nat) (hj : j < 3) (hfi : fi = 1) (hps : ps < 2147483648) (hen : en ≤ 512) (hst : st ≤ 512) (hnx : nx ≤ 64) (hh : ∀ j, j < 64 → hd j = 0 ∨ hd j = 1) (hee : en ≤ ps) (hsp : st < ps) (hgg : ps ≤ hgS hd nx (st / 8) (64 - st / 8) * 8) (hn : n ≤ 512) (hpn : ps ≤ n) (hcp : cp ≤ 512) (hkc : k (ps - 1) = 1) (hv : ∀ iq, st + iq < ps → rpV k o (st + iq) (rpF k o ke va cp st (va_cpy bv rv 0 0 32, va_up (va_up (va_up cR 0 0) 1 0) 2 0, fR, tkR, tvR) iq)) : Ct lL g y_X_restore (.code y_X_restore b_X_restore 4 (some .int)) 6 200 [.ref x, .int (nI j), .int (nI ps)] (wX g x l0 t0 p0 ba h0 r0 un ++ wBA g ba b ++ wBk g (b j) b1 bv pr fi st cp en pg ++ wAr g h0 h1 hd hc nx ++ wLog g l0 l1 l2 l3 l4 k o ke va n sy ++ wRs g r0 r1 s0 rv rr ++ wTr g s0 s1 s2 s3 s4 cR fR tkR tvR) (exP (some (.int (nI 0))) (wX g x l0 t0 p0 ba h0 r0 un ++ wBA g ba b ++ wBk g (b j) b1 bv pr fi st cp en pg ++ wAr g h0 h1 hd hc nx ++ wLog g l0 l1 l2 l3 l4 k o ke va n sy ++ wRs g r0 r1 s0 ((rpF k o ke va cp st (va_cpy bv rv 0 0 32, va_up (va_up (va_up cR 0 0) 1 0) 2 0, fR, tkR, tvR) (ps - st)).1) (ps - st) ++ wTr g s0 s1 s2 s3 s4 ((rpF k o ke va cp st (va_cpy bv rv 0 0 32, va_up (va_up (va_up cR 0 0) 1 0) 2 0, fR, tkR, tvR) (ps - st)).2.1) ((rpF k o ke va cp st (va_cpy bv rv 0 0 32, va_up (va_up (va_up cR 0 0) 1 0) 2 0, fR, tkR, tvR) (ps - st)).2.2.1) ((rpF k o ke va cp st (va_cpy bv rv 0 0 32, va_up (va_up (va_up cR 0 0) 1 0) 2 0, fR, tkR, tvR) (ps - st)).2.2.2.1) ((rpF k o ke va cp st (va_cpy bv rv 0 0 32, va_up (va_up (va_up cR 0 0) 1 0) 2 0, fR, tkR, tvR) (ps - st)).2.2.2.2))) := by
  refine Ct.ofW (by decide) (Nat.le_of_ble_eq_true rfl) ?_
  intro pX eX sX mX aX bX tX cX AX lsX HX oX QX zx zb zr zk zm zo zg zK zP zD zA zS zQ zl
  have zo : sX.vm.findClass R_X = some mX.cls := zo
  have zl : lv_has lsX 4 [(0, .ref x), (1, .int (nI j)), (2, .int (nI ps))] := zl
  refine lv_aload_n zx zb d_X_restore_0 rfl (lv_at zl 0 rfl) ?_
  refine lv_iload_n zx zb d_X_restore_1 rfl (lv_at zl 1 rfl) ?_
  refine ct_V (ws' := wX g x l0 t0 p0 ba h0 r0 un ++ wBA g ba b ++ wBk g (b j) b1 bv pr fi st cp en pg ++ wAr g h0 h1 hd hc nx ++ wLog g l0 l1 l2 l3 l4 k o ke va n sy ++ wRs g r0 r1 s0 rv rr ++ wTr g s0 s1 s2 s3 s4 cR fR tkR tvR) (rest := []) (st1 := [.int (nI 1)]) zx zb zm zo zg zK zP zD zS zA zl.1 (c_X_isFin_t lL g x l0 t0 p0 ba h0 r0 un b b1 bv pr fi st cp en pg j (by omega) (by omega)) ok_X_isFinishedBackup ov_X_isFinishedBackup ml_X_138 (by decide) 0 0 rfl rfl rfl [0, 1, 2, 3] [4, 5, 6, 7, 8, 9, 10, 11, 12, 13, 14, 15, 16, 17] 18 (by decide) rfl rfl rfl rfl (by decide) rfl rfl rfl (Nat.le_of_ble_eq_true rfl) d_X_restore_2 (fun HX oX zP zD zS => ?_)
  refine wn_ieq_F (tgt := 12) zx zb d_X_restore_5 (by decide) (by omega) (by omega) ?_
  refine lv_iload_n zx zb d_X_restore_8 rfl (lv_at zl 2 rfl) ?_
  refine wn_ige_T (tgt := 14) zx zb d_X_restore_9 (by decide) (by omega) (trivial) ?_
  refine lv_aload_n zx zb d_X_restore_14 rfl (lv_at zl 0 rfl) ?_
  refine wv_get zx zb zg hin_X rfl zo zK zP 0 rfl 3 (by decide) rfl fl_X_46 rfl d_X_restore_15 ?_
  refine lv_iload_n zx zb d_X_restore_18 rfl (lv_at zl 1 rfl) ?_
  refine wv_aald (v := b j) zx zb zK zP 1 rfl rfl (by omega) (by decide) d_X_restore_19 ?_
  refine lv_astore_n (lv' := [(3, .ref (b j)), (0, .ref x), (1, .int (nI j)), (2, .int (nI ps))]) zx zb d_X_restore_20 rfl zl (by decide) rfl (fun lsX zl => ?_)
  refine lv_iload_n zx zb d_X_restore_21 rfl (lv_at zl 3 rfl) ?_
  refine lv_aload_n zx zb d_X_restore_22 rfl (lv_at zl 0 rfl) ?_
  refine wv_get zx zb zg hin_Bk rfl zo zK zP 2 rfl 5 (by decide) rfl fl_X_144 rfl d_X_restore_23 ?_
  refine wn_cge_T (tgt := 32) zx zb d_X_restore_26 (by decide) (by omega) (by omega) (by omega) ?_
  refine lv_iload_n zx zb d_X_restore_32 rfl (lv_at zl 3 rfl) ?_
  refine lv_aload_n zx zb d_X_restore_33 rfl (lv_at zl 0 rfl) ?_
  refine wv_get zx zb zg hin_Bk rfl zo zK zP 2 rfl 3 (by decide) rfl fl_X_141 rfl d_X_restore_34 ?_
  refine wn_cle_F (tgt := 58) zx zb d_X_restore_37 (by decide) (by omega) (by omega) (by omega) ?_
  refine lv_aload_n zx zb d_X_restore_40 rfl (lv_at zl 1 rfl) ?_
  refine wv_get zx zb zg hin_X rfl zo zK zP 0 rfl 4 (by decide) rfl fl_X_33 rfl d_X_restore_41 ?_
  refine lv_aload_n zx zb d_X_restore_44 rfl (lv_at zl 0 rfl) ?_
  refine wv_get zx zb zg hin_Bk rfl zo zK zP 2 rfl 3 (by decide) rfl fl_X_141 rfl d_X_restore_45 ?_
  refine lv_iload_n zx zb d_X_restore_48 rfl (lv_at zl 3 rfl) ?_
  refine ct_V (ws' := wX g x l0 t0 p0 ba h0 r0 un ++ wBA g ba b ++ wBk g (b j) b1 bv pr fi st cp en pg ++ wAr g h0 h1 hd hc nx ++ wLog g l0 l1 l2 l3 l4 k o ke va n sy ++ wRs g r0 r1 s0 rv rr ++ wTr g s0 s1 s2 s3 s4 cR fR tkR tvR) (rest := []) (st1 := [.int (nI 1)]) zx zb zm zo zg zK zP zD zS zA zl.1 (c_Ar_holdsRec_t lL g h0 h1 hd hc nx st ps (by omega) hh (by omega) (by omega)) ok_Ar_holdsRecords ov_Ar_holdsRecords ml_X_157 (by decide) 4 5 rfl rfl rfl [4, 5] [0, 1, 2, 3, 6, 7, 8, 9, 10, 11, 12, 13, 14, 15, 16, 17] 18 (by decide) rfl rfl rfl rfl (by decide) rfl rfl rfl (Nat.le_of_ble_eq_true rfl) d_X_restore_49 (fun HX oX zP zD zS => ?_)
  refine wn_ine_T (tgt := 58) zx zb d_X_restore_52 (by decide) (by omega) (by omega) ?_
  refine lv_iload_n zx zb d_X_restore_58 rfl (lv_at zl 3 rfl) ?_
  refine lv_aload_n zx zb d_X_restore_59 rfl (lv_at zl 0 rfl) ?_
  refine wv_get zx zb zg hin_Bk rfl zo zK zP 2 rfl 3 (by decide) rfl fl_X_141 rfl d_X_restore_60 ?_
  refine wn_ceq_F (tgt := 80) zx zb d_X_restore_63 (by decide) (by omega) (by omega) (by omega) ?_
  refine lv_aload_n zx zb d_X_restore_66 rfl (lv_at zl 1 rfl) ?_
  refine wv_get zx zb zg hin_X rfl zo zK zP 0 rfl 0 (by decide) rfl fl_X_12 rfl d_X_restore_67 ?_
  refine lv_iload_n zx zb d_X_restore_70 rfl (lv_at zl 3 rfl) ?_
  refine ct_V (ws' := wX g x l0 t0 p0 ba h0 r0 un ++ wBA g ba b ++ wBk g (b j) b1 bv pr fi st cp en pg ++ wAr g h0 h1 hd hc nx ++ wLog g l0 l1 l2 l3 l4 k o ke va n sy ++ wRs g r0 r1 s0 rv rr ++ wTr g s0 s1 s2 s3 s4 cR fR tkR tvR) (rest := []) (st1 := [.int (nI 1)]) zx zb zm zo zg zK zP zD zS zA zl.1 (c_Log_hasCommit_t lL g l0 l1 l2 l3 l4 k o ke va n sy ps (by omega) (by omega) (by omega) (by omega)) ok_Log_hasCommitDoneAt ov_Log_hasCommitDoneAt ml_X_161 (by decide) 6 1 rfl rfl rfl [6, 7, 8, 9, 10] [0, 1, 2, 3, 4, 5, 11, 12, 13, 14, 15, 16, 17] 18 (by decide) rfl rfl rfl rfl (by decide) rfl rfl rfl (Nat.le_of_ble_eq_true rfl) d_X_restore_71 (fun HX oX zP zD zS => ?_)
  refine wn_ine_T (tgt := 80) zx zb d_X_restore_74 (by decide) (by omega) (by omega) ?_
  refine lv_aload_n zx zb d_X_restore_80 rfl (lv_at zl 1 rfl) ?_
  refine wv_get zx zb zg hin_X rfl zo zK zP 0 rfl 5 (by decide) rfl fl_X_40 rfl d_X_restore_81 ?_
  refine lv_aload_n zx zb d_X_restore_84 rfl (lv_at zl 0 rfl) ?_
  refine lv_aload_n zx zb d_X_restore_85 rfl (lv_at zl 1 rfl) ?_
  refine wv_get zx zb zg hin_X rfl zo zK zP 0 rfl 0 (by decide) rfl fl_X_12 rfl d_X_restore_86 ?_
  refine lv_iload_n zx zb d_X_restore_89 rfl (lv_at zl 3 rfl) ?_
  refine ct_V (ws' := wX g x l0 t0 p0 ba h0 r0 un ++ wBA g ba b ++ wBk g (b j) b1 bv pr fi st cp en pg ++ wAr g h0 h1 hd hc nx ++ wLog g l0 l1 l2 l3 l4 k o ke va n sy ++ wRs g r0 r1 s0 ((rpF k o ke va cp st (va_cpy bv rv 0 0 32, va_up (va_up (va_up cR 0 0) 1 0) 2 0, fR, tkR, tvR) (ps - st)).1) (ps - st) ++ wTr g s0 s1 s2 s3 s4 ((rpF k o ke va cp st (va_cpy bv rv 0 0 32, va_up (va_up (va_up cR 0 0) 1 0) 2 0, fR, tkR, tvR) (ps - st)).2.1) ((rpF k o ke va cp st (va_cpy bv rv 0 0 32, va_up (va_up (va_up cR 0 0) 1 0) 2 0, fR, tkR, tvR) (ps - st)).2.2.1) ((rpF k o ke va cp st (va_cpy bv rv 0 0 32, va_up (va_up (va_up cR 0 0) 1 0) 2 0, fR, tkR, tvR) (ps - st)).2.2.2.1) ((rpF k o ke va cp st (va_cpy bv rv 0 0 32, va_up (va_up (va_up cR 0 0) 1 0) 2 0, fR, tkR, tvR) (ps - st)).2.2.2.2)) (rest := []) (st1 := []) zx zb zm zo zg zK zP zD zS zA zl.1 (c_Rs_rebuild lL g r0 r1 s0 rv rr s1 s2 s3 s4 cR fR tkR tvR (b j) b1 bv pr fi st cp en pg l0 l1 l2 l3 l4 k o ke va n sy ps (by omega) (by omega) (by omega) hv) ok_Rs_rebuild ov_Rs_rebuild ml_X_164 (by decide) 11 6 rfl rfl rfl [11, 12, 13, 14, 15, 16, 17, 2, 3, 6, 7, 8, 9, 10] [0, 1, 4, 5] 18 (by decide) rfl rfl rfl rfl (by decide) rfl rfl rfl (Nat.le_of_ble_eq_true rfl) d_X_restore_90 (fun HX oX zP zD zS => ?_)
  refine lv_iconst (v := (nI 0)) zx zb d_X_restore_93 (by decide) ?_
  exact ct_iret zQ zx zb zr zk zP zD zS d_X_restore_94 rfl (⟨rfl, rfl⟩)
set_option maxRecDepth 20000 in
theorem c_X_restore_s (lL : Launch) (g : Gt) (x : Nat) (l0 : Nat) (t0 : Nat) (p0 : Nat) (ba : Nat) (h0 : Nat) (r0 : Nat) (un : Int32) (b : Nat → Nat) (b1 : Nat) (bv : Nat → Int32) (pr : Nat) (fi : Nat) (st : Nat) (cp : Nat) (en : Nat) (pg : Nat) (l1 : Nat) (l2 : Nat) (l3 : Nat) (l4 : Nat) (k : Nat → Nat) (o : Nat → Nat) (ke : Nat → Nat) (va : Nat → Int32) (n : Nat) (sy : Nat) (r1 : Nat) (s0 : Nat) (rv : Nat → Int32) (rr : Nat) (s1 : Nat) (s2 : Nat) (s3 : Nat) (s4 : Nat) (cR : Nat → Nat) (fR : Nat → Nat) (tkR : Nat → Nat) (tvR : Nat → Int32) (j : Nat) (ps : Nat) (hj : j < 3) (hfi : fi = 1) (hps : ps < 2147483648) (hen : en ≤ 512) (hst : st ≤ 512) (hee : en ≤ ps) (hsp : ps = st) (hcp : cp ≤ 512) (hv : ∀ iq, st + iq < ps → rpV k o (st + iq) (rpF k o ke va cp st (va_cpy bv rv 0 0 32, va_up (va_up (va_up cR 0 0) 1 0) 2 0, fR, tkR, tvR) iq)) : Ct lL g y_X_restore (.code y_X_restore b_X_restore 4 (some .int)) 6 200 [.ref x, .int (nI j), .int (nI ps)] (wX g x l0 t0 p0 ba h0 r0 un ++ wBA g ba b ++ wBk g (b j) b1 bv pr fi st cp en pg ++ wLog g l0 l1 l2 l3 l4 k o ke va n sy ++ wRs g r0 r1 s0 rv rr ++ wTr g s0 s1 s2 s3 s4 cR fR tkR tvR) (exP (some (.int (nI 0))) (wX g x l0 t0 p0 ba h0 r0 un ++ wBA g ba b ++ wBk g (b j) b1 bv pr fi st cp en pg ++ wLog g l0 l1 l2 l3 l4 k o ke va n sy ++ wRs g r0 r1 s0 ((rpF k o ke va cp st (va_cpy bv rv 0 0 32, va_up (va_up (va_up cR 0 0) 1 0) 2 0, fR, tkR, tvR) (ps - st)).1) (ps - st) ++ wTr g s0 s1 s2 s3 s4 ((rpF k o ke va cp st (va_cpy bv rv 0 0 32, va_up (va_up (va_up cR 0 0) 1 0) 2 0, fR, tkR, tvR) (ps - st)).2.1) ((rpF k o ke va cp st (va_cpy bv rv 0 0 32, va_up (va_up (va_up cR 0 0) 1 0) 2 0, fR, tkR, tvR) (ps - st)).2.2.1) ((rpF k o ke va cp st (va_cpy bv rv 0 0 32, va_up (va_up (va_up cR 0 0) 1 0) 2 0, fR, tkR, tvR) (ps - st)).2.2.2.1) ((rpF k o ke va cp st (va_cpy bv rv 0 0 32, va_up (va_up (va_up cR 0 0) 1 0) 2 0, fR, tkR, tvR) (ps - st)).2.2.2.2))) := by
  refine Ct.ofW (by decide) (Nat.le_of_ble_eq_true rfl) ?_
  intro pX eX sX mX aX bX tX cX AX lsX HX oX QX zx zb zr zk zm zo zg zK zP zD zA zS zQ zl
  have zo : sX.vm.findClass R_X = some mX.cls := zo
  have zl : lv_has lsX 4 [(0, .ref x), (1, .int (nI j)), (2, .int (nI ps))] := zl
  refine lv_aload_n zx zb d_X_restore_0 rfl (lv_at zl 0 rfl) ?_
  refine lv_iload_n zx zb d_X_restore_1 rfl (lv_at zl 1 rfl) ?_
  refine ct_V (ws' := wX g x l0 t0 p0 ba h0 r0 un ++ wBA g ba b ++ wBk g (b j) b1 bv pr fi st cp en pg ++ wLog g l0 l1 l2 l3 l4 k o ke va n sy ++ wRs g r0 r1 s0 rv rr ++ wTr g s0 s1 s2 s3 s4 cR fR tkR tvR) (rest := []) (st1 := [.int (nI 1)]) zx zb zm zo zg zK zP zD zS zA zl.1 (c_X_isFin_t lL g x l0 t0 p0 ba h0 r0 un b b1 bv pr fi st cp en pg j (by omega) (by omega)) ok_X_isFinishedBackup ov_X_isFinishedBackup ml_X_138 (by decide) 0 0 rfl rfl rfl [0, 1, 2, 3] [4, 5, 6, 7, 8, 9, 10, 11, 12, 13, 14, 15] 16 (by decide) rfl rfl rfl rfl (by decide) rfl rfl rfl (Nat.le_of_ble_eq_true rfl) d_X_restore_2 (fun HX oX zP zD zS => ?_)
  refine wn_ieq_F (tgt := 12) zx zb d_X_restore_5 (by decide) (by omega) (by omega) ?_
  refine lv_iload_n zx zb d_X_restore_8 rfl (lv_at zl 2 rfl) ?_
  refine wn_ige_T (tgt := 14) zx zb d_X_restore_9 (by decide) (by omega) (trivial) ?_
  refine lv_aload_n zx zb d_X_restore_14 rfl (lv_at zl 0 rfl) ?_
  refine wv_get zx zb zg hin_X rfl zo zK zP 0 rfl 3 (by decide) rfl fl_X_46 rfl d_X_restore_15 ?_
  refine lv_iload_n zx zb d_X_restore_18 rfl (lv_at zl 1 rfl) ?_
  refine wv_aald (v := b j) zx zb zK zP 1 rfl rfl (by omega) (by decide) d_X_restore_19 ?_
  refine lv_astore_n (lv' := [(3, .ref (b j)), (0, .ref x), (1, .int (nI j)), (2, .int (nI ps))]) zx zb d_X_restore_20 rfl zl (by decide) rfl (fun lsX zl => ?_)
  refine lv_iload_n zx zb d_X_restore_21 rfl (lv_at zl 3 rfl) ?_
  refine lv_aload_n zx zb d_X_restore_22 rfl (lv_at zl 0 rfl) ?_
  refine wv_get zx zb zg hin_Bk rfl zo zK zP 2 rfl 5 (by decide) rfl fl_X_144 rfl d_X_restore_23 ?_
  refine wn_cge_T (tgt := 32) zx zb d_X_restore_26 (by decide) (by omega) (by omega) (by omega) ?_
  refine lv_iload_n zx zb d_X_restore_32 rfl (lv_at zl 3 rfl) ?_
  refine lv_aload_n zx zb d_X_restore_33 rfl (lv_at zl 0 rfl) ?_
  refine wv_get zx zb zg hin_Bk rfl zo zK zP 2 rfl 3 (by decide) rfl fl_X_141 rfl d_X_restore_34 ?_
  refine wn_cle_T (tgt := 58) zx zb d_X_restore_37 (by decide) (by omega) (by omega) (by omega) ?_
  refine lv_iload_n zx zb d_X_restore_58 rfl (lv_at zl 3 rfl) ?_
  refine lv_aload_n zx zb d_X_restore_59 rfl (lv_at zl 0 rfl) ?_
  refine wv_get zx zb zg hin_Bk rfl zo zK zP 2 rfl 3 (by decide) rfl fl_X_141 rfl d_X_restore_60 ?_
  refine wn_ceq_T (tgt := 80) zx zb d_X_restore_63 (by decide) (by omega) (by omega) (by omega) ?_
  refine lv_aload_n zx zb d_X_restore_80 rfl (lv_at zl 1 rfl) ?_
  refine wv_get zx zb zg hin_X rfl zo zK zP 0 rfl 5 (by decide) rfl fl_X_40 rfl d_X_restore_81 ?_
  refine lv_aload_n zx zb d_X_restore_84 rfl (lv_at zl 0 rfl) ?_
  refine lv_aload_n zx zb d_X_restore_85 rfl (lv_at zl 1 rfl) ?_
  refine wv_get zx zb zg hin_X rfl zo zK zP 0 rfl 0 (by decide) rfl fl_X_12 rfl d_X_restore_86 ?_
  refine lv_iload_n zx zb d_X_restore_89 rfl (lv_at zl 3 rfl) ?_
  refine ct_V (ws' := wX g x l0 t0 p0 ba h0 r0 un ++ wBA g ba b ++ wBk g (b j) b1 bv pr fi st cp en pg ++ wLog g l0 l1 l2 l3 l4 k o ke va n sy ++ wRs g r0 r1 s0 ((rpF k o ke va cp st (va_cpy bv rv 0 0 32, va_up (va_up (va_up cR 0 0) 1 0) 2 0, fR, tkR, tvR) (ps - st)).1) (ps - st) ++ wTr g s0 s1 s2 s3 s4 ((rpF k o ke va cp st (va_cpy bv rv 0 0 32, va_up (va_up (va_up cR 0 0) 1 0) 2 0, fR, tkR, tvR) (ps - st)).2.1) ((rpF k o ke va cp st (va_cpy bv rv 0 0 32, va_up (va_up (va_up cR 0 0) 1 0) 2 0, fR, tkR, tvR) (ps - st)).2.2.1) ((rpF k o ke va cp st (va_cpy bv rv 0 0 32, va_up (va_up (va_up cR 0 0) 1 0) 2 0, fR, tkR, tvR) (ps - st)).2.2.2.1) ((rpF k o ke va cp st (va_cpy bv rv 0 0 32, va_up (va_up (va_up cR 0 0) 1 0) 2 0, fR, tkR, tvR) (ps - st)).2.2.2.2)) (rest := []) (st1 := []) zx zb zm zo zg zK zP zD zS zA zl.1 (c_Rs_rebuild lL g r0 r1 s0 rv rr s1 s2 s3 s4 cR fR tkR tvR (b j) b1 bv pr fi st cp en pg l0 l1 l2 l3 l4 k o ke va n sy ps (by omega) (by omega) (by omega) hv) ok_Rs_rebuild ov_Rs_rebuild ml_X_164 (by decide) 9 6 rfl rfl rfl [9, 10, 11, 12, 13, 14, 15, 2, 3, 4, 5, 6, 7, 8] [0, 1] 16 (by decide) rfl rfl rfl rfl (by decide) rfl rfl rfl (Nat.le_of_ble_eq_true rfl) d_X_restore_90 (fun HX oX zP zD zS => ?_)
  refine lv_iconst (v := (nI 0)) zx zb d_X_restore_93 (by decide) ?_
  exact ct_iret zQ zx zb zr zk zP zD zS d_X_restore_94 rfl (⟨rfl, rfl⟩)
set_option maxRecDepth 20000 in
theorem c_X_reach_n (lL : Launch) (g : Gt) (x : Nat) (l0 : Nat) (t0 : Nat) (p0 : Nat) (ba : Nat) (h0 : Nat) (r0 : Nat) (un : Int32) (j : Int32) (hj : j < 0) : Ct lL g y_X_reach (.code y_X_reach b_X_reach 5 (some .int)) 6 200 [.ref x, .int j] (wX g x l0 t0 p0 ba h0 r0 un) (exP (some (.int (-1))) (wX g x l0 t0 p0 ba h0 r0 un)) := by
  refine Ct.ofW (by decide) (Nat.le_of_ble_eq_true rfl) ?_
  intro pX eX sX mX aX bX tX cX AX lsX HX oX QX zx zb zr zk zm zo zg zK zP zD zA zS zQ zl
  have zo : sX.vm.findClass R_X = some mX.cls := zo
  have zl : lv_has lsX 5 [(0, .ref x), (1, .int j)] := zl
  refine lv_aload_n zx zb d_X_reach_0 rfl (lv_at zl 0 rfl) ?_
  refine lv_iload_n zx zb d_X_reach_1 rfl (lv_at zl 1 rfl) ?_
  refine ct_V (ws' := wX g x l0 t0 p0 ba h0 r0 un) (rest := []) (st1 := [.int (nI 0)]) zx zb zm zo zg zK zP zD zS zA zl.1 (c_X_isFin_n lL g x l0 t0 p0 ba h0 r0 un j hj) ok_X_isFinishedBackup ov_X_isFinishedBackup ml_X_138 (by decide) 0 0 rfl rfl rfl [0] [] 1 (by decide) rfl rfl rfl rfl (by decide) rfl rfl rfl (Nat.le_of_ble_eq_true rfl) d_X_reach_2 (fun HX oX zP zD zS => ?_)
  refine wn_ine_F (tgt := 10) zx zb d_X_reach_5 (by decide) (by omega) (by omega) ?_
  refine lv_iconst (v := (-1)) zx zb d_X_reach_8 (by decide) ?_
  exact ct_iret zQ zx zb zr zk zP zD zS d_X_reach_9 rfl (⟨rfl, rfl⟩)
set_option maxRecDepth 20000 in
theorem c_X_reach_g (lL : Launch) (g : Gt) (x : Nat) (l0 : Nat) (t0 : Nat) (p0 : Nat) (ba : Nat) (h0 : Nat) (r0 : Nat) (un : Int32) (j : Nat) (hj : 3 ≤ j) (hj2 : j < 2147483648) : Ct lL g y_X_reach (.code y_X_reach b_X_reach 5 (some .int)) 6 200 [.ref x, .int (nI j)] (wX g x l0 t0 p0 ba h0 r0 un) (exP (some (.int (-1))) (wX g x l0 t0 p0 ba h0 r0 un)) := by
  refine Ct.ofW (by decide) (Nat.le_of_ble_eq_true rfl) ?_
  intro pX eX sX mX aX bX tX cX AX lsX HX oX QX zx zb zr zk zm zo zg zK zP zD zA zS zQ zl
  have zo : sX.vm.findClass R_X = some mX.cls := zo
  have zl : lv_has lsX 5 [(0, .ref x), (1, .int (nI j))] := zl
  refine lv_aload_n zx zb d_X_reach_0 rfl (lv_at zl 0 rfl) ?_
  refine lv_iload_n zx zb d_X_reach_1 rfl (lv_at zl 1 rfl) ?_
  refine ct_V (ws' := wX g x l0 t0 p0 ba h0 r0 un) (rest := []) (st1 := [.int (nI 0)]) zx zb zm zo zg zK zP zD zS zA zl.1 (c_X_isFin_g lL g x l0 t0 p0 ba h0 r0 un j (by omega) (by omega)) ok_X_isFinishedBackup ov_X_isFinishedBackup ml_X_138 (by decide) 0 0 rfl rfl rfl [0] [] 1 (by decide) rfl rfl rfl rfl (by decide) rfl rfl rfl (Nat.le_of_ble_eq_true rfl) d_X_reach_2 (fun HX oX zP zD zS => ?_)
  refine wn_ine_F (tgt := 10) zx zb d_X_reach_5 (by decide) (by omega) (by omega) ?_
  refine lv_iconst (v := (-1)) zx zb d_X_reach_8 (by decide) ?_
  exact ct_iret zQ zx zb zr zk zP zD zS d_X_reach_9 rfl (⟨rfl, rfl⟩)
set_option maxRecDepth 20000 in
theorem c_X_reach_f (lL : Launch) (g : Gt) (x : Nat) (l0 : Nat) (t0 : Nat) (p0 : Nat) (ba : Nat) (h0 : Nat) (r0 : Nat) (un : Int32) (b : Nat → Nat) (b1 : Nat) (bv : Nat → Int32) (pr : Nat) (fi : Nat) (st : Nat) (cp : Nat) (en : Nat) (pg : Nat) (j : Nat) (hj : j < 3) (hfi : fi = 0) : Ct lL g y_X_reach (.code y_X_reach b_X_reach 5 (some .int)) 6 200 [.ref x, .int (nI j)] (wX g x l0 t0 p0 ba h0 r0 un ++ wBA g ba b ++ wBk g (b j) b1 bv pr fi st cp en pg) (exP (some (.int (-1))) (wX g x l0 t0 p0 ba h0 r0 un ++ wBA g ba b ++ wBk g (b j) b1 bv pr fi st cp en pg)) := by
  refine Ct.ofW (by decide) (Nat.le_of_ble_eq_true rfl) ?_
  intro pX eX sX mX aX bX tX cX AX lsX HX oX QX zx zb zr zk zm zo zg zK zP zD zA zS zQ zl
  have zo : sX.vm.findClass R_X = some mX.cls := zo
  have zl : lv_has lsX 5 [(0, .ref x), (1, .int (nI j))] := zl
  refine lv_aload_n zx zb d_X_reach_0 rfl (lv_at zl 0 rfl) ?_
  refine lv_iload_n zx zb d_X_reach_1 rfl (lv_at zl 1 rfl) ?_
  refine ct_V (ws' := wX g x l0 t0 p0 ba h0 r0 un ++ wBA g ba b ++ wBk g (b j) b1 bv pr fi st cp en pg) (rest := []) (st1 := [.int (nI 0)]) zx zb zm zo zg zK zP zD zS zA zl.1 (c_X_isFin_f lL g x l0 t0 p0 ba h0 r0 un b b1 bv pr fi st cp en pg j (by omega) (by omega)) ok_X_isFinishedBackup ov_X_isFinishedBackup ml_X_138 (by decide) 0 0 rfl rfl rfl [0, 1, 2, 3] [] 4 (by decide) rfl rfl rfl rfl (by decide) rfl rfl rfl (Nat.le_of_ble_eq_true rfl) d_X_reach_2 (fun HX oX zP zD zS => ?_)
  refine wn_ine_F (tgt := 10) zx zb d_X_reach_5 (by decide) (by omega) (by omega) ?_
  refine lv_iconst (v := (-1)) zx zb d_X_reach_8 (by decide) ?_
  exact ct_iret zQ zx zb zr zk zP zD zS d_X_reach_9 rfl (⟨rfl, rfl⟩)
/-- the latest commit from p down that a restore reaches -/
def rcR (k : Nat → Nat) (st en : Nat) : Nat → Int32
  | 0 => if st = en then nI st else -1
  | p + 1 => if st < p + 1 ∧ en ≤ p + 1 then (if k p = 1 then nI (p + 1) else rcR k st en p) else (if st = en then nI st else -1)
theorem rcR_out {k : Nat → Nat} {st en p : Nat} (h : ¬ (st < p ∧ en ≤ p)) : rcR k st en p = if st = en then nI st else -1 := by
  cases p with
  | zero => rfl
  | succ p => exact if_neg h
theorem rcR_in {k : Nat → Nat} {st en p : Nat} (h1 : st < p) (h2 : en ≤ p) : rcR k st en p = if k (p - 1) = 1 then nI p else rcR k st en (p - 1) := by
  cases p with
  | zero => omega
  | succ p => exact if_pos ⟨h1, h2⟩
set_option maxRecDepth 20000 in
theorem c_X_reach_t (lL : Launch) (g : Gt) (x : Nat) (l0 : Nat) (t0 : Nat) (p0 : Nat) (ba : Nat) (h0 : Nat) (r0 : Nat) (un : Int32) (b : Nat → Nat) (b1 : Nat) (bv : Nat → Int32) (pr : Nat) (fi : Nat) (st : Nat) (cp : Nat) (en : Nat) (pg : Nat) (h1 : Nat) (hd : Nat → Nat) (hc : Nat) (nx : Nat) (l1 : Nat) (l2 : Nat) (l3 : Nat) (l4 : Nat) (k : Nat → Nat) (o : Nat → Nat) (ke : Nat → Nat) (va : Nat → Int32) (n : Nat) (sy : Nat) (j : Nat) (hj : j < 3) (hfi : fi = 1) (hen : en ≤ 512) (hst : st ≤ 512) (hnx : nx ≤ 64) (hh : ∀ j, j < 64 → hd j = 0 ∨ hd j = 1) (hn : n ≤ 512) (hk4 : ∀ i, i < n → k i < 4) (hgn : ∀ i, st < i → i ≤ hgS hd nx (st / 8) (64 - st / 8) * 8 → i ≤ n) : Ct lL g y_X_reach (.code y_X_reach b_X_reach 5 (some .int)) 6 200 [.ref x, .int (nI j)] (wX g x l0 t0 p0 ba h0 r0 un ++ wBA g ba b ++ wBk g (b j) b1 bv pr fi st cp en pg ++ wAr g h0 h1 hd hc nx ++ wLog g l0 l1 l2 l3 l4 k o ke va n sy) (exP (some (.int (rcR k st en (hgS hd nx (st / 8) (64 - st / 8) * 8)))) (wX g x l0 t0 p0 ba h0 r0 un ++ wBA g ba b ++ wBk g (b j) b1 bv pr fi st cp en pg ++ wAr g h0 h1 hd hc nx ++ wLog g l0 l1 l2 l3 l4 k o ke va n sy)) := by
  refine Ct.ofW (by decide) (Nat.le_of_ble_eq_true rfl) ?_
  intro pX eX sX mX aX bX tX cX AX lsX HX oX QX zx zb zr zk zm zo zg zK zP zD zA zS zQ zl
  have zo : sX.vm.findClass R_X = some mX.cls := zo
  have zl : lv_has lsX 5 [(0, .ref x), (1, .int (nI j))] := zl
  refine lv_aload_n zx zb d_X_reach_0 rfl (lv_at zl 0 rfl) ?_
  refine lv_iload_n zx zb d_X_reach_1 rfl (lv_at zl 1 rfl) ?_
  refine ct_V (ws' := wX g x l0 t0 p0 ba h0 r0 un ++ wBA g ba b ++ wBk g (b j) b1 bv pr fi st cp en pg ++ wAr g h0 h1 hd hc nx ++ wLog g l0 l1 l2 l3 l4 k o ke va n sy) (rest := []) (st1 := [.int (nI 1)]) zx zb zm zo zg zK zP zD zS zA zl.1 (c_X_isFin_t lL g x l0 t0 p0 ba h0 r0 un b b1 bv pr fi st cp en pg j (by omega) (by omega)) ok_X_isFinishedBackup ov_X_isFinishedBackup ml_X_138 (by decide) 0 0 rfl rfl rfl [0, 1, 2, 3] [4, 5, 6, 7, 8, 9, 10] 11 (by decide) rfl rfl rfl rfl (by decide) rfl rfl rfl (Nat.le_of_ble_eq_true rfl) d_X_reach_2 (fun HX oX zP zD zS => ?_)
  refine wn_ine_T (tgt := 10) zx zb d_X_reach_5 (by decide) (by omega) (by omega) ?_
  refine lv_aload_n zx zb d_X_reach_10 rfl (lv_at zl 0 rfl) ?_
  refine wv_get zx zb zg hin_X rfl zo zK zP 0 rfl 3 (by decide) rfl fl_X_46 rfl d_X_reach_11 ?_
  refine lv_iload_n zx zb d_X_reach_14 rfl (lv_at zl 1 rfl) ?_
  refine wv_aald (v := b j) zx zb zK zP 1 rfl rfl (by omega) (by decide) d_X_reach_15 ?_
  refine lv_astore_n (lv' := [(2, .ref (b j)), (0, .ref x), (1, .int (nI j))]) zx zb d_X_reach_16 rfl zl (by decide) rfl (fun lsX zl => ?_)
  have hle := hgS_le hd nx (64 - st / 8) (st / 8)
  refine lv_aload_n zx zb d_X_reach_17 rfl (lv_at zl 1 rfl) ?_
  refine wv_get zx zb zg hin_X rfl zo zK zP 0 rfl 4 (by decide) rfl fl_X_33 rfl d_X_reach_18 ?_
  refine lv_aload_n zx zb d_X_reach_21 rfl (lv_at zl 0 rfl) ?_
  refine wv_get zx zb zg hin_Bk rfl zo zK zP 2 rfl 3 (by decide) rfl fl_X_141 rfl d_X_reach_22 ?_
  refine ct_V (ws' := wX g x l0 t0 p0 ba h0 r0 un ++ wBA g ba b ++ wBk g (b j) b1 bv pr fi st cp en pg ++ wAr g h0 h1 hd hc nx ++ wLog g l0 l1 l2 l3 l4 k o ke va n sy) (rest := []) (st1 := [.int (nI (hgS hd nx (st / 8) (64 - st / 8) * 8))]) zx zb zm zo zg zK zP zD zS zA zl.1 (c_Ar_heldFrom lL g h0 h1 hd hc nx st (by omega) hh (by omega)) ok_Ar_heldWithoutGapFrom ov_Ar_heldWithoutGapFrom ml_X_174 (by decide) 4 5 rfl rfl rfl [4, 5] [0, 1, 2, 3, 6, 7, 8, 9, 10] 11 (by decide) rfl rfl rfl rfl (by decide) rfl rfl rfl (Nat.le_of_ble_eq_true rfl) d_X_reach_25 (fun HX oX zP zD zS => ?_)
  refine lv_istore_n (lv' := [(3, .int (nI (hgS hd nx (st / 8) (64 - st / 8) * 8))), (2, .ref (b j)), (0, .ref x), (1, .int (nI j))]) zx zb d_X_reach_28 rfl zl (by decide) rfl (fun lsX zl => ?_)
  refine lv_iload_n zx zb d_X_reach_29 rfl (lv_at zl 0 rfl) ?_
  refine lv_istore (lv' := [(4, .int (nI (hgS hd nx (st / 8) (64 - st / 8) * 8))), (3, .int (nI (hgS hd nx (st / 8) (64 - st / 8) * 8))), (2, .ref (b j)), (0, .ref x), (1, .int (nI j))]) zx zb d_X_reach_30 zl (by decide) rfl (fun lsX zl => ?_)
  have loop32 : ∀ (kk : Nat) (ps : Nat), kk = ps → (ps ≤ hgS hd nx (st / 8) (64 - st / 8) * 8) → (ps ≤ 512) → (rcR k st en ps = rcR k st en (hgS hd nx (st / 8) (64 - st / 8) * 8)) → ∀ (lsX : Array Slot) (HX : Heap) (oX : List Loc), lv_has lsX 5 [(0, .ref x), (1, .int (nI j)), (2, .ref (b j)), (4, .int (nI ps))] → va_P g.1 cls (wX g x l0 t0 p0 ba h0 r0 un ++ wBA g ba b ++ wBk g (b j) b1 bv pr fi st cp en pg ++ wAr g h0 h1 hd hc nx ++ wLog g l0 l1 l2 l3 l4 k o ke va n sy) HX → va_D AX (wX g x l0 t0 p0 ba h0 r0 un ++ wBA g ba b ++ wBk g (b j) b1 bv pr fi st cp en pg ++ wAr g h0 h1 hd hc nx ++ wLog g l0 l1 l2 l3 l4 k o ke va n sy) → va_S AX sX.heap HX oX → W pX lL eX (rmL 6 200) sX mX aX bX tX cX HX oX 0 0 QX (F0 mX 32 lsX []) := by
    intro kk
    induction kk using Nat.strongRecOn with
    | ind kk ih_loop32 =>
      intro ps hkk hpg hp5 hi lsX HX oX zl zP zD zS
      rcases Nat.lt_or_ge st ps with hsp | hsp
      · have hpn := hgn ps hsp hpg
        have hkp := hk4 (ps - 1) (by omega)
        refine lv_iload zx zb d_X_reach_32 (lv_at zl 3 rfl) ?_
        refine lv_aload_n zx zb d_X_reach_34 rfl (lv_at zl 2 rfl) ?_
        refine wv_get zx zb zg hin_Bk rfl zo zK zP 2 rfl 3 (by decide) rfl fl_X_141 rfl d_X_reach_35 ?_
        refine wn_cle_F (tgt := 71) zx zb d_X_reach_38 (by decide) (by omega) (by omega) (by omega) ?_
        rcases Nat.lt_or_ge ps en with hpe | hpe
        · have hi : (if st = en then nI st else -1) = rcR k st en (hgS hd nx (st / 8) (64 - st / 8) * 8) := (rcR_out (by omega)).symm.trans hi
          refine lv_iload zx zb d_X_reach_41 (lv_at zl 3 rfl) ?_
          refine lv_aload_n zx zb d_X_reach_43 rfl (lv_at zl 2 rfl) ?_
          refine wv_get zx zb zg hin_Bk rfl zo zK zP 2 rfl 5 (by decide) rfl fl_X_144 rfl d_X_reach_44 ?_
          refine wn_clt_T (tgt := 71) zx zb d_X_reach_47 (by decide) (by omega) (by omega) (by omega) ?_
          rcases Nat.lt_or_ge st en with hse | hse
          · rw [if_neg (by omega)] at hi
            refine lv_aload_n zx zb d_X_reach_71 rfl (lv_at zl 2 rfl) ?_
            refine wv_get zx zb zg hin_Bk rfl zo zK zP 2 rfl 3 (by decide) rfl fl_X_141 rfl d_X_reach_72 ?_
            refine lv_aload_n zx zb d_X_reach_75 rfl (lv_at zl 2 rfl) ?_
            refine wv_get zx zb zg hin_Bk rfl zo zK zP 2 rfl 5 (by decide) rfl fl_X_144 rfl d_X_reach_76 ?_
            refine wn_cne_T (tgt := 89) zx zb d_X_reach_79 (by decide) (by omega) (by omega) (by omega) ?_
            refine lv_iconst (v := (-1)) zx zb d_X_reach_89 (by decide) ?_
            exact ct_iret zQ zx zb zr zk zP zD zS d_X_reach_90 rfl (⟨by rw [hi], rfl⟩)
          · have hse2 := hse
            refine lv_aload_n zx zb d_X_reach_71 rfl (lv_at zl 2 rfl) ?_
            rcases Nat.lt_or_ge en st with hes | hes
            · rw [if_neg (by omega)] at hi
              refine wv_get zx zb zg hin_Bk rfl zo zK zP 2 rfl 3 (by decide) rfl fl_X_141 rfl d_X_reach_72 ?_
              refine lv_aload_n zx zb d_X_reach_75 rfl (lv_at zl 2 rfl) ?_
              refine wv_get zx zb zg hin_Bk rfl zo zK zP 2 rfl 5 (by decide) rfl fl_X_144 rfl d_X_reach_76 ?_
              refine wn_cne_T (tgt := 89) zx zb d_X_reach_79 (by decide) (by omega) (by omega) (by omega) ?_
              refine lv_iconst (v := (-1)) zx zb d_X_reach_89 (by decide) ?_
              exact ct_iret zQ zx zb zr zk zP zD zS d_X_reach_90 rfl (⟨by rw [hi], rfl⟩)
            · rw [if_pos (by omega)] at hi
              refine wv_get zx zb zg hin_Bk rfl zo zK zP 2 rfl 3 (by decide) rfl fl_X_141 rfl d_X_reach_72 ?_
              refine lv_aload_n zx zb d_X_reach_75 rfl (lv_at zl 2 rfl) ?_
              refine wv_get zx zb zg hin_Bk rfl zo zK zP 2 rfl 5 (by decide) rfl fl_X_144 rfl d_X_reach_76 ?_
              refine wn_cne_F (tgt := 89) zx zb d_X_reach_79 (by decide) (by omega) (by omega) (by omega) ?_
              refine lv_aload_n zx zb d_X_reach_82 rfl (lv_at zl 2 rfl) ?_
              refine wv_get zx zb zg hin_Bk rfl zo zK zP 2 rfl 3 (by decide) rfl fl_X_141 rfl d_X_reach_83 ?_
              refine lv_goto (tgt := 90) zx zb d_X_reach_86 (by decide) ?_
              exact ct_iret zQ zx zb zr zk zP zD zS d_X_reach_90 rfl (⟨by rw [hi], rfl⟩)
        · have hi : (if k (ps - 1) = 1 then nI ps else rcR k st en (ps - 1)) = rcR k st en (hgS hd nx (st / 8) (64 - st / 8) * 8) := (rcR_in hsp hpe).symm.trans hi
          refine lv_iload zx zb d_X_reach_41 (lv_at zl 3 rfl) ?_
          refine lv_aload_n zx zb d_X_reach_43 rfl (lv_at zl 2 rfl) ?_
          refine wv_get zx zb zg hin_Bk rfl zo zK zP 2 rfl 5 (by decide) rfl fl_X_144 rfl d_X_reach_44 ?_
          refine wn_clt_F (tgt := 71) zx zb d_X_reach_47 (by decide) (by omega) (by omega) (by omega) ?_
          by_cases hkc : k (ps - 1) = 1
          · rw [if_pos hkc] at hi
            refine lv_aload_n zx zb d_X_reach_50 rfl (lv_at zl 0 rfl) ?_
            refine wv_get zx zb zg hin_X rfl zo zK zP 0 rfl 0 (by decide) rfl fl_X_12 rfl d_X_reach_51 ?_
            refine lv_iload zx zb d_X_reach_54 (lv_at zl 3 rfl) ?_
            refine ct_V (ws' := wX g x l0 t0 p0 ba h0 r0 un ++ wBA g ba b ++ wBk g (b j) b1 bv pr fi st cp en pg ++ wAr g h0 h1 hd hc nx ++ wLog g l0 l1 l2 l3 l4 k o ke va n sy) (rest := []) (st1 := [.int (nI 1)]) zx zb zm zo zg zK zP zD zS zA zl.1 (c_Log_hasCommit_t lL g l0 l1 l2 l3 l4 k o ke va n sy ps (by omega) (by omega) (by omega) (by omega)) ok_Log_hasCommitDoneAt ov_Log_hasCommitDoneAt ml_X_161 (by decide) 6 1 rfl rfl rfl [6, 7, 8, 9, 10] [0, 1, 2, 3, 4, 5] 11 (by decide) rfl rfl rfl rfl (by decide) rfl rfl rfl (Nat.le_of_ble_eq_true rfl) d_X_reach_56 (fun HX oX zP zD zS => ?_)
            refine wn_ieq_F (tgt := 65) zx zb d_X_reach_59 (by decide) (by omega) (by omega) ?_
            refine lv_iload zx zb d_X_reach_62 (lv_at zl 3 rfl) ?_
            exact ct_iret zQ zx zb zr zk zP zD zS d_X_reach_64 rfl (⟨by rw [hi], rfl⟩)
          · rw [if_neg hkc] at hi
            refine lv_aload_n zx zb d_X_reach_50 rfl (lv_at zl 0 rfl) ?_
            refine wv_get zx zb zg hin_X rfl zo zK zP 0 rfl 0 (by decide) rfl fl_X_12 rfl d_X_reach_51 ?_
            refine lv_iload zx zb d_X_reach_54 (lv_at zl 3 rfl) ?_
            refine ct_V (ws' := wX g x l0 t0 p0 ba h0 r0 un ++ wBA g ba b ++ wBk g (b j) b1 bv pr fi st cp en pg ++ wAr g h0 h1 hd hc nx ++ wLog g l0 l1 l2 l3 l4 k o ke va n sy) (rest := []) (st1 := [.int (nI 0)]) zx zb zm zo zg zK zP zD zS zA zl.1 (c_Log_hasCommit_f lL g l0 l1 l2 l3 l4 k o ke va n sy ps (by omega) (by omega) (by omega) (by omega) (by omega)) ok_Log_hasCommitDoneAt ov_Log_hasCommitDoneAt ml_X_161 (by decide) 6 1 rfl rfl rfl [6, 7, 8, 9, 10] [0, 1, 2, 3, 4, 5] 11 (by decide) rfl rfl rfl rfl (by decide) rfl rfl rfl (Nat.le_of_ble_eq_true rfl) d_X_reach_56 (fun HX oX zP zD zS => ?_)
            refine wn_ieq_T (tgt := 65) zx zb d_X_reach_59 (by decide) (by omega) (by omega) ?_
            refine lv_iinc (k := 3) (lv' := [(4, .int (nI (ps - 1))), (0, .ref x), (1, .int (nI j)), (2, .ref (b j))]) zx zb d_X_reach_65 zl rfl (ni_dec1 (by omega)) (by decide) rfl (fun lsX zl => ?_)
            refine lv_goto (tgt := 32) zx zb d_X_reach_68 (by decide) ?_
            exact ih_loop32 _ (by omega) (ps - 1) rfl (by omega) (by omega) hi lsX HX oX (lv_sub zl [1, 2, 3, 0] rfl) zP zD zS
      · have hi : (if st = en then nI st else -1) = rcR k st en (hgS hd nx (st / 8) (64 - st / 8) * 8) := (rcR_out (by omega)).symm.trans hi
        refine lv_iload zx zb d_X_reach_32 (lv_at zl 3 rfl) ?_
        refine lv_aload_n zx zb d_X_reach_34 rfl (lv_at zl 2 rfl) ?_
        refine wv_get zx zb zg hin_Bk rfl zo zK zP 2 rfl 3 (by decide) rfl fl_X_141 rfl d_X_reach_35 ?_
        refine wn_cle_T (tgt := 71) zx zb d_X_reach_38 (by decide) (by omega) (by omega) (by omega) ?_
        rcases Nat.lt_or_ge st en with hse | hse
        · rw [if_neg (by omega)] at hi
          refine lv_aload_n zx zb d_X_reach_71 rfl (lv_at zl 2 rfl) ?_
          refine wv_get zx zb zg hin_Bk rfl zo zK zP 2 rfl 3 (by decide) rfl fl_X_141 rfl d_X_reach_72 ?_
          refine lv_aload_n zx zb d_X_reach_75 rfl (lv_at zl 2 rfl) ?_
          refine wv_get zx zb zg hin_Bk rfl zo zK zP 2 rfl 5 (by decide) rfl fl_X_144 rfl d_X_reach_76 ?_
          refine wn_cne_T (tgt := 89) zx zb d_X_reach_79 (by decide) (by omega) (by omega) (by omega) ?_
          refine lv_iconst (v := (-1)) zx zb d_X_reach_89 (by decide) ?_
          exact ct_iret zQ zx zb zr zk zP zD zS d_X_reach_90 rfl (⟨by rw [hi], rfl⟩)
        · have hse2 := hse
          refine lv_aload_n zx zb d_X_reach_71 rfl (lv_at zl 2 rfl) ?_
          rcases Nat.lt_or_ge en st with hes | hes
          · rw [if_neg (by omega)] at hi
            refine wv_get zx zb zg hin_Bk rfl zo zK zP 2 rfl 3 (by decide) rfl fl_X_141 rfl d_X_reach_72 ?_
            refine lv_aload_n zx zb d_X_reach_75 rfl (lv_at zl 2 rfl) ?_
            refine wv_get zx zb zg hin_Bk rfl zo zK zP 2 rfl 5 (by decide) rfl fl_X_144 rfl d_X_reach_76 ?_
            refine wn_cne_T (tgt := 89) zx zb d_X_reach_79 (by decide) (by omega) (by omega) (by omega) ?_
            refine lv_iconst (v := (-1)) zx zb d_X_reach_89 (by decide) ?_
            exact ct_iret zQ zx zb zr zk zP zD zS d_X_reach_90 rfl (⟨by rw [hi], rfl⟩)
          · rw [if_pos (by omega)] at hi
            refine wv_get zx zb zg hin_Bk rfl zo zK zP 2 rfl 3 (by decide) rfl fl_X_141 rfl d_X_reach_72 ?_
            refine lv_aload_n zx zb d_X_reach_75 rfl (lv_at zl 2 rfl) ?_
            refine wv_get zx zb zg hin_Bk rfl zo zK zP 2 rfl 5 (by decide) rfl fl_X_144 rfl d_X_reach_76 ?_
            refine wn_cne_F (tgt := 89) zx zb d_X_reach_79 (by decide) (by omega) (by omega) (by omega) ?_
            refine lv_aload_n zx zb d_X_reach_82 rfl (lv_at zl 2 rfl) ?_
            refine wv_get zx zb zg hin_Bk rfl zo zK zP 2 rfl 3 (by decide) rfl fl_X_141 rfl d_X_reach_83 ?_
            refine lv_goto (tgt := 90) zx zb d_X_reach_86 (by decide) ?_
            exact ct_iret zQ zx zb zr zk zP zD zS d_X_reach_90 rfl (⟨by rw [hi], rfl⟩)
  exact loop32 _ (hgS hd nx (st / 8) (64 - st / 8) * 8) rfl (Nat.le_refl _) (by omega) rfl lsX HX oX (lv_sub zl [3, 4, 2, 0] rfl) zP zD zS
