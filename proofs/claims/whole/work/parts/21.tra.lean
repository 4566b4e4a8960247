set_option maxRecDepth 20000 in
theorem c_Tr_isOpen_t (lL : Launch) (g : Gt) (t0 : Nat) (t1 : Nat) (t2 : Nat) (t3 : Nat) (t4 : Nat) (c : Nat → Nat) (f : Nat → Nat) (tk : Nat → Nat) (tv : Nat → Int32) (t : Nat) (ht : t < 3) (hc : 0 < c t) (hb : c t ≤ 4) : Ct lL g y_Tr_isOpen (.code y_Tr_isOpen b_Tr_isOpen 2 (some .boolean)) 0 0 [.ref t0, .int (nI t)] (wTr g t0 t1 t2 t3 t4 c f tk tv) (exP (some (.int (nI 1))) (wTr g t0 t1 t2 t3 t4 c f tk tv)) := by
  refine Ct.ofW (by decide) (Nat.le_of_ble_eq_true rfl) ?_
  intro pX eX sX mX aX bX tX cX AX lsX HX oX QX zx zb zr zk zm zo zg zK zP zD zA zS zQ zl
  have zo : sX.vm.findClass R_Tr = some mX.cls := zo
  have zl : lv_has lsX 2 [(0, .ref t0), (1, .int (nI t))] := zl
  refine lv_aload_n zx zb d_Tr_isOpen_0 rfl (lv_at zl 0 rfl) ?_
  refine wv_get zx zb zg hin_Tr rfl zo zK zP 0 rfl 0 (by decide) rfl fl_Tr_9 rfl d_Tr_isOpen_1 ?_
  refine lv_iload_n zx zb d_Tr_isOpen_4 rfl (lv_at zl 1 rfl) ?_
  refine wv_ialdN zx zb zK zP 1 rfl (by omega) (by decide) d_Tr_isOpen_5 ?_
  refine wn_ile_F (tgt := 13) zx zb d_Tr_isOpen_6 (by decide) (by omega) (by omega) ?_
  refine lv_iconst (v := (nI 1)) zx zb d_Tr_isOpen_9 (by decide) ?_
  refine lv_goto (tgt := 14) zx zb d_Tr_isOpen_10 (by decide) ?_
  exact ct_zret zQ zx zb zr zk zP zD zS d_Tr_isOpen_14 rfl (by decide) (⟨rfl, rfl⟩)
set_option maxRecDepth 20000 in
theorem c_Tr_isOpen_f (lL : Launch) (g : Gt) (t0 : Nat) (t1 : Nat) (t2 : Nat) (t3 : Nat) (t4 : Nat) (c : Nat → Nat) (f : Nat → Nat) (tk : Nat → Nat) (tv : Nat → Int32) (t : Nat) (ht : t < 3) (hc : c t = 0) : Ct lL g y_Tr_isOpen (.code y_Tr_isOpen b_Tr_isOpen 2 (some .boolean)) 0 0 [.ref t0, .int (nI t)] (wTr g t0 t1 t2 t3 t4 c f tk tv) (exP (some (.int (nI 0))) (wTr g t0 t1 t2 t3 t4 c f tk tv)) := by
  refine Ct.ofW (by decide) (Nat.le_of_ble_eq_true rfl) ?_
  intro pX eX sX mX aX bX tX cX AX lsX HX oX QX zx zb zr zk zm zo zg zK zP zD zA zS zQ zl
  have zo : sX.vm.findClass R_Tr = some mX.cls := zo
  have zl : lv_has lsX 2 [(0, .ref t0), (1, .int (nI t))] := zl
  refine lv_aload_n zx zb d_Tr_isOpen_0 rfl (lv_at zl 0 rfl) ?_
  refine wv_get zx zb zg hin_Tr rfl zo zK zP 0 rfl 0 (by decide) rfl fl_Tr_9 rfl d_Tr_isOpen_1 ?_
  refine lv_iload_n zx zb d_Tr_isOpen_4 rfl (lv_at zl 1 rfl) ?_
  refine wv_ialdN zx zb zK zP 1 rfl (by omega) (by decide) d_Tr_isOpen_5 ?_
  refine wn_ile_T (tgt := 13) zx zb d_Tr_isOpen_6 (by decide) (by omega) (by omega) ?_
  refine lv_iconst (v := (nI 0)) zx zb d_Tr_isOpen_13 (by decide) ?_
  exact ct_zret zQ zx zb zr zk zP zD zS d_Tr_isOpen_14 rfl (by decide) (⟨rfl, rfl⟩)
set_option maxRecDepth 20000 in
theorem c_Tr_hasAll_t (lL : Launch) (g : Gt) (t0 : Nat) (t1 : Nat) (t2 : Nat) (t3 : Nat) (t4 : Nat) (c : Nat → Nat) (f : Nat → Nat) (tk : Nat → Nat) (tv : Nat → Int32) (t : Nat) (ht : t < 3) (hc : c t = 4) : Ct lL g y_Tr_hasAllSets (.code y_Tr_hasAllSets b_Tr_hasAllSets 2 (some .boolean)) 0 0 [.ref t0, .int (nI t)] (wTr g t0 t1 t2 t3 t4 c f tk tv) (exP (some (.int (nI 1))) (wTr g t0 t1 t2 t3 t4 c f tk tv)) := by
  refine Ct.ofW (by decide) (Nat.le_of_ble_eq_true rfl) ?_
  intro pX eX sX mX aX bX tX cX AX lsX HX oX QX zx zb zr zk zm zo zg zK zP zD zA zS zQ zl
  have zo : sX.vm.findClass R_Tr = some mX.cls := zo
  have zl : lv_has lsX 2 [(0, .ref t0), (1, .int (nI t))] := zl
  refine lv_aload_n zx zb d_Tr_hasAllSets_0 rfl (lv_at zl 0 rfl) ?_
  refine wv_get zx zb zg hin_Tr rfl zo zK zP 0 rfl 0 (by decide) rfl fl_Tr_9 rfl d_Tr_hasAllSets_1 ?_
  refine lv_iload_n zx zb d_Tr_hasAllSets_4 rfl (lv_at zl 1 rfl) ?_
  refine wv_ialdN zx zb zK zP 1 rfl (by omega) (by decide) d_Tr_hasAllSets_5 ?_
  refine lv_iconst (v := (nI 4)) zx zb d_Tr_hasAllSets_6 (by decide) ?_
  refine wn_clt_F (tgt := 14) zx zb d_Tr_hasAllSets_7 (by decide) (by omega) (by omega) (by omega) ?_
  refine lv_iconst (v := (nI 1)) zx zb d_Tr_hasAllSets_10 (by decide) ?_
  refine lv_goto (tgt := 15) zx zb d_Tr_hasAllSets_11 (by decide) ?_
  exact ct_zret zQ zx zb zr zk zP zD zS d_Tr_hasAllSets_15 rfl (by decide) (⟨rfl, rfl⟩)
set_option maxRecDepth 20000 in
theorem c_Tr_hasAll_f (lL : Launch) (g : Gt) (t0 : Nat) (t1 : Nat) (t2 : Nat) (t3 : Nat) (t4 : Nat) (c : Nat → Nat) (f : Nat → Nat) (tk : Nat → Nat) (tv : Nat → Int32) (t : Nat) (ht : t < 3) (hc : c t < 4) : Ct lL g y_Tr_hasAllSets (.code y_Tr_hasAllSets b_Tr_hasAllSets 2 (some .boolean)) 0 0 [.ref t0, .int (nI t)] (wTr g t0 t1 t2 t3 t4 c f tk tv) (exP (some (.int (nI 0))) (wTr g t0 t1 t2 t3 t4 c f tk tv)) := by
  refine Ct.ofW (by decide) (Nat.le_of_ble_eq_true rfl) ?_
  intro pX eX sX mX aX bX tX cX AX lsX HX oX QX zx zb zr zk zm zo zg zK zP zD zA zS zQ zl
  have zo : sX.vm.findClass R_Tr = some mX.cls := zo
  have zl : lv_has lsX 2 [(0, .ref t0), (1, .int (nI t))] := zl
  refine lv_aload_n zx zb d_Tr_hasAllSets_0 rfl (lv_at zl 0 rfl) ?_
  refine wv_get zx zb zg hin_Tr rfl zo zK zP 0 rfl 0 (by decide) rfl fl_Tr_9 rfl d_Tr_hasAllSets_1 ?_
  refine lv_iload_n zx zb d_Tr_hasAllSets_4 rfl (lv_at zl 1 rfl) ?_
  refine wv_ialdN zx zb zK zP 1 rfl (by omega) (by decide) d_Tr_hasAllSets_5 ?_
  refine lv_iconst (v := (nI 4)) zx zb d_Tr_hasAllSets_6 (by decide) ?_
  refine wn_clt_T (tgt := 14) zx zb d_Tr_hasAllSets_7 (by decide) (by omega) (by omega) (by omega) ?_
  refine lv_iconst (v := (nI 0)) zx zb d_Tr_hasAllSets_14 (by decide) ?_
  exact ct_zret zQ zx zb zr zk zP zD zS d_Tr_hasAllSets_15 rfl (by decide) (⟨rfl, rfl⟩)
set_option maxRecDepth 20000 in
theorem c_Tr_firstSlot (lL : Launch) (g : Gt) (t0 : Nat) (t1 : Nat) (t2 : Nat) (t3 : Nat) (t4 : Nat) (c : Nat → Nat) (f : Nat → Nat) (tk : Nat → Nat) (tv : Nat → Int32) (t : Nat) (ht : t < 3) : Ct lL g y_Tr_firstSlot (.code y_Tr_firstSlot b_Tr_firstSlot 2 (some .int)) 0 0 [.ref t0, .int (nI t)] (wTr g t0 t1 t2 t3 t4 c f tk tv) (exP (some (.int (nI (t * 4)))) (wTr g t0 t1 t2 t3 t4 c f tk tv)) := by
  refine Ct.ofW (by decide) (Nat.le_of_ble_eq_true rfl) ?_
  intro pX eX sX mX aX bX tX cX AX lsX HX oX QX zx zb zr zk zm zo zg zK zP zD zA zS zQ zl
  have zo : sX.vm.findClass R_Tr = some mX.cls := zo
  have zl : lv_has lsX 2 [(0, .ref t0), (1, .int (nI t))] := zl
  refine lv_iload_n zx zb d_Tr_firstSlot_0 rfl (lv_at zl 1 rfl) ?_
  refine lv_iconst (v := (nI 4)) zx zb d_Tr_firstSlot_1 (by decide) ?_
  refine wv_imul zx zb d_Tr_firstSlot_2 (pk_mul _ _) ?_
  exact ct_iret zQ zx zb zr zk zP zD zS d_Tr_firstSlot_3 rfl (⟨rfl, rfl⟩)
set_option maxRecDepth 20000 in
theorem c_Tr_slotsEnd (lL : Launch) (g : Gt) (t0 : Nat) (t1 : Nat) (t2 : Nat) (t3 : Nat) (t4 : Nat) (c : Nat → Nat) (f : Nat → Nat) (tk : Nat → Nat) (tv : Nat → Int32) (t : Nat) (ht : t < 3) : Ct lL g y_Tr_slotsEnd (.code y_Tr_slotsEnd b_Tr_slotsEnd 2 (some .int)) 1 21 [.ref t0, .int (nI t)] (wTr g t0 t1 t2 t3 t4 c f tk tv) (exP (some (.int (nI ((t * 4) + (c t))))) (wTr g t0 t1 t2 t3 t4 c f tk tv)) := by
  refine Ct.ofW (by decide) (Nat.le_of_ble_eq_true rfl) ?_
  intro pX eX sX mX aX bX tX cX AX lsX HX oX QX zx zb zr zk zm zo zg zK zP zD zA zS zQ zl
  have zo : sX.vm.findClass R_Tr = some mX.cls := zo
  have zl : lv_has lsX 2 [(0, .ref t0), (1, .int (nI t))] := zl
  refine lv_aload_n zx zb d_Tr_slotsEnd_0 rfl (lv_at zl 0 rfl) ?_
  refine lv_iload_n zx zb d_Tr_slotsEnd_1 rfl (lv_at zl 1 rfl) ?_
  refine ct_V (ws' := wTr g t0 t1 t2 t3 t4 c f tk tv) (rest := []) (st1 := [.int (nI (t * 4))]) zx zb zm zo zg zK zP zD zS zA zl.1 (c_Tr_firstSlot lL g t0 t1 t2 t3 t4 c f tk tv t (by omega)) ok_Tr_firstSlot ov_Tr_firstSlot ml_Tr_28 (by decide) 0 2 rfl rfl rfl [0, 1, 2, 3, 4] [] 5 (by decide) rfl rfl rfl rfl (by decide) rfl rfl rfl (Nat.le_of_ble_eq_true rfl) d_Tr_slotsEnd_2 (fun HX oX zP zD zS => ?_)
  refine lv_aload_n zx zb d_Tr_slotsEnd_5 rfl (lv_at zl 0 rfl) ?_
  refine wv_get zx zb zg hin_Tr rfl zo zK zP 0 rfl 0 (by decide) rfl fl_Tr_9 rfl d_Tr_slotsEnd_6 ?_
  refine lv_iload_n zx zb d_Tr_slotsEnd_9 rfl (lv_at zl 1 rfl) ?_
  refine wv_ialdN zx zb zK zP 1 rfl (by omega) (by decide) d_Tr_slotsEnd_10 ?_
  refine wv_iadd zx zb d_Tr_slotsEnd_11 (nI_add _ _) ?_
  exact ct_iret zQ zx zb zr zk zP zD zS d_Tr_slotsEnd_12 rfl (⟨rfl, rfl⟩)
set_option maxRecDepth 20000 in
theorem c_Tr_close (lL : Launch) (g : Gt) (t0 : Nat) (t1 : Nat) (t2 : Nat) (t3 : Nat) (t4 : Nat) (c : Nat → Nat) (f : Nat → Nat) (tk : Nat → Nat) (tv : Nat → Int32) (t : Nat) (ht : t < 3) : Ct lL g y_Tr_close (.code y_Tr_close b_Tr_close 2 (none)) 0 0 [.ref t0, .int (nI t)] (wTr g t0 t1 t2 t3 t4 c f tk tv) (exP (none) (wTr g t0 t1 t2 t3 t4 (va_up c t 0) f tk tv)) := by
  refine Ct.ofW (by decide) (Nat.le_of_ble_eq_true rfl) ?_
  intro pX eX sX mX aX bX tX cX AX lsX HX oX QX zx zb zr zk zm zo zg zK zP zD zA zS zQ zl
  have zo : sX.vm.findClass R_Tr = some mX.cls := zo
  have zl : lv_has lsX 2 [(0, .ref t0), (1, .int (nI t))] := zl
  refine lv_aload_n zx zb d_Tr_close_0 rfl (lv_at zl 0 rfl) ?_
  refine wv_get zx zb zg hin_Tr rfl zo zK zP 0 rfl 0 (by decide) rfl fl_Tr_9 rfl d_Tr_close_1 ?_
  refine lv_iload_n zx zb d_Tr_close_4 rfl (lv_at zl 1 rfl) ?_
  refine lv_iconst (v := (nI 0)) zx zb d_Tr_close_5 (by decide) ?_
  refine wv_iastN zx zb zK zP zD zS 1 rfl (by omega) (by decide) d_Tr_close_6 (fun HX oX zP zD zS => ?_)
  have zP : va_P g.1 cls (wTr g t0 t1 t2 t3 t4 (va_up c t 0) f tk tv) HX := zP
  have zD : va_D AX (wTr g t0 t1 t2 t3 t4 (va_up c t 0) f tk tv) := zD
  exact ct_vret zQ zx zb zr zk zP zD zS d_Tr_close_7 rfl (⟨rfl, rfl⟩)
set_option maxRecDepth 20000 in
theorem c_Tr_closeAll (lL : Launch) (g : Gt) (t0 : Nat) (t1 : Nat) (t2 : Nat) (t3 : Nat) (t4 : Nat) (c : Nat → Nat) (f : Nat → Nat) (tk : Nat → Nat) (tv : Nat → Int32)  : Ct lL g y_Tr_closeAll (.code y_Tr_closeAll b_Tr_closeAll 2 (none)) 1 21 [.ref t0] (wTr g t0 t1 t2 t3 t4 c f tk tv) (exP (none) (wTr g t0 t1 t2 t3 t4 (va_up (va_up (va_up c 0 0) 1 0) 2 0) f tk tv)) := by
  refine Ct.ofW (by decide) (Nat.le_of_ble_eq_true rfl) ?_
  intro pX eX sX mX aX bX tX cX AX lsX HX oX QX zx zb zr zk zm zo zg zK zP zD zA zS zQ zl
  have zo : sX.vm.findClass R_Tr = some mX.cls := zo
  have zl : lv_has lsX 2 [(0, .ref t0)] := zl
  refine lv_iconst (v := (nI 0)) zx zb d_Tr_closeAll_0 (by decide) ?_
  refine lv_istore_n (lv' := [(1, .int (nI 0)), (0, .ref t0)]) zx zb d_Tr_closeAll_1 rfl zl (by decide) rfl (fun lsX zl => ?_)
  refine lv_iload_n zx zb d_Tr_closeAll_2 rfl (lv_at zl 0 rfl) ?_
  refine lv_iconst (v := (nI 3)) zx zb d_Tr_closeAll_3 (by decide) ?_
  refine wn_cge_F (tgt := 18) zx zb d_Tr_closeAll_4 (by decide) (by omega) (by omega) (by omega) ?_
  refine lv_aload_n zx zb d_Tr_closeAll_7 rfl (lv_at zl 1 rfl) ?_
  refine lv_iload_n zx zb d_Tr_closeAll_8 rfl (lv_at zl 0 rfl) ?_
  refine ct_V (ws' := wTr g t0 t1 t2 t3 t4 (va_up c 0 0) f tk tv) (rest := []) (st1 := []) zx zb zm zo zg zK zP zD zS zA zl.1 (c_Tr_close lL g t0 t1 t2 t3 t4 c f tk tv 0 (by omega)) ok_Tr_close ov_Tr_close ml_Tr_32 (by decide) 0 2 rfl rfl rfl [0, 1, 2, 3, 4] [] 5 (by decide) rfl rfl rfl rfl (by decide) rfl rfl rfl (Nat.le_of_ble_eq_true rfl) d_Tr_closeAll_9 (fun HX oX zP zD zS => ?_)
  refine lv_iinc (k := 0) (lv' := [(1, .int (nI 1)), (0, .ref t0)]) zx zb d_Tr_closeAll_12 zl rfl (ni_inc _) (by decide) rfl (fun lsX zl => ?_)
  refine lv_goto (tgt := 2) zx zb d_Tr_closeAll_15 (by decide) ?_
  refine lv_iload_n zx zb d_Tr_closeAll_2 rfl (lv_at zl 0 rfl) ?_
  refine lv_iconst (v := (nI 3)) zx zb d_Tr_closeAll_3 (by decide) ?_
  refine wn_cge_F (tgt := 18) zx zb d_Tr_closeAll_4 (by decide) (by omega) (by omega) (by omega) ?_
  refine lv_aload_n zx zb d_Tr_closeAll_7 rfl (lv_at zl 1 rfl) ?_
  refine lv_iload_n zx zb d_Tr_closeAll_8 rfl (lv_at zl 0 rfl) ?_
  refine ct_V (ws' := wTr g t0 t1 t2 t3 t4 (va_up (va_up c 0 0) 1 0) f tk tv) (rest := []) (st1 := []) zx zb zm zo zg zK zP zD zS zA zl.1 (c_Tr_close lL g t0 t1 t2 t3 t4 (va_up c 0 0) f tk tv 1 (by omega)) ok_Tr_close ov_Tr_close ml_Tr_32 (by decide) 0 2 rfl rfl rfl [0, 1, 2, 3, 4] [] 5 (by decide) rfl rfl rfl rfl (by decide) rfl rfl rfl (Nat.le_of_ble_eq_true rfl) d_Tr_closeAll_9 (fun HX oX zP zD zS => ?_)
  refine lv_iinc (k := 0) (lv' := [(1, .int (nI 2)), (0, .ref t0)]) zx zb d_Tr_closeAll_12 zl rfl (ni_inc _) (by decide) rfl (fun lsX zl => ?_)
  refine lv_goto (tgt := 2) zx zb d_Tr_closeAll_15 (by decide) ?_
  refine lv_iload_n zx zb d_Tr_closeAll_2 rfl (lv_at zl 0 rfl) ?_
  refine lv_iconst (v := (nI 3)) zx zb d_Tr_closeAll_3 (by decide) ?_
  refine wn_cge_F (tgt := 18) zx zb d_Tr_closeAll_4 (by decide) (by omega) (by omega) (by omega) ?_
  refine lv_aload_n zx zb d_Tr_closeAll_7 rfl (lv_at zl 1 rfl) ?_
  refine lv_iload_n zx zb d_Tr_closeAll_8 rfl (lv_at zl 0 rfl) ?_
  refine ct_V (ws' := wTr g t0 t1 t2 t3 t4 (va_up (va_up (va_up c 0 0) 1 0) 2 0) f tk tv) (rest := []) (st1 := []) zx zb zm zo zg zK zP zD zS zA zl.1 (c_Tr_close lL g t0 t1 t2 t3 t4 (va_up (va_up c 0 0) 1 0) f tk tv 2 (by omega)) ok_Tr_close ov_Tr_close ml_Tr_32 (by decide) 0 2 rfl rfl rfl [0, 1, 2, 3, 4] [] 5 (by decide) rfl rfl rfl rfl (by decide) rfl rfl rfl (Nat.le_of_ble_eq_true rfl) d_Tr_closeAll_9 (fun HX oX zP zD zS => ?_)
  refine lv_iinc (k := 0) (lv' := [(1, .int (nI 3)), (0, .ref t0)]) zx zb d_Tr_closeAll_12 zl rfl (ni_inc _) (by decide) rfl (fun lsX zl => ?_)
  refine lv_goto (tgt := 2) zx zb d_Tr_closeAll_15 (by decide) ?_
  refine lv_iload_n zx zb d_Tr_closeAll_2 rfl (lv_at zl 0 rfl) ?_
  refine lv_iconst (v := (nI 3)) zx zb d_Tr_closeAll_3 (by decide) ?_
  refine wn_cge_T (tgt := 18) zx zb d_Tr_closeAll_4 (by decide) (by omega) (by omega) (by omega) ?_
  exact ct_vret zQ zx zb zr zk zP zD zS d_Tr_closeAll_18 rfl (⟨rfl, rfl⟩)
set_option maxRecDepth 20000 in
theorem c_Tr_addSet_o (lL : Launch) (g : Gt) (t0 : Nat) (t1 : Nat) (t2 : Nat) (t3 : Nat) (t4 : Nat) (c : Nat → Nat) (f : Nat → Nat) (tk : Nat → Nat) (tv : Nat → Int32) (t : Nat) (ky : Nat) (vl : Int32) (rc : Nat) (ht : t < 3) (hc : 0 < c t) (hb : c t < 4) : Ct lL g y_Tr_addSet (.code y_Tr_addSet b_Tr_addSet 6 (none)) 1 21 [.ref t0, .int (nI t), .int (nI ky), .int vl, .int (nI rc)] (wTr g t0 t1 t2 t3 t4 c f tk tv) (exP (none) (wTr g t0 t1 t2 t3 t4 (va_up c t ((c t) + 1)) f (va_up tk ((t * 4) + (c t)) ky) (upd tv ((t * 4) + (c t)) vl))) := by
  refine Ct.ofW (by decide) (Nat.le_of_ble_eq_true rfl) ?_
  intro pX eX sX mX aX bX tX cX AX lsX HX oX QX zx zb zr zk zm zo zg zK zP zD zA zS zQ zl
  have zo : sX.vm.findClass R_Tr = some mX.cls := zo
  have zl : lv_has lsX 6 [(0, .ref t0), (1, .int (nI t)), (2, .int (nI ky)), (3, .int vl), (4, .int (nI rc))] := zl
  refine lv_aload_n zx zb d_Tr_addSet_0 rfl (lv_at zl 0 rfl) ?_
  refine lv_iload_n zx zb d_Tr_addSet_1 rfl (lv_at zl 1 rfl) ?_
  refine ct_V (ws' := wTr g t0 t1 t2 t3 t4 c f tk tv) (rest := []) (st1 := [.int (nI 1)]) zx zb zm zo zg zK zP zD zS zA zl.1 (c_Tr_isOpen_t lL g t0 t1 t2 t3 t4 c f tk tv t (by omega) (by omega) (by omega)) ok_Tr_isOpen ov_Tr_isOpen ml_Tr_24 (by decide) 0 2 rfl rfl rfl [0, 1, 2, 3, 4] [] 5 (by decide) rfl rfl rfl rfl (by decide) rfl rfl rfl (Nat.le_of_ble_eq_true rfl) d_Tr_addSet_2 (fun HX oX zP zD zS => ?_)
  refine wn_ine_T (tgt := 16) zx zb d_Tr_addSet_5 (by decide) (by omega) (by omega) ?_
  refine lv_aload_n zx zb d_Tr_addSet_16 rfl (lv_at zl 0 rfl) ?_
  refine lv_iload_n zx zb d_Tr_addSet_17 rfl (lv_at zl 1 rfl) ?_
  refine ct_V (ws' := wTr g t0 t1 t2 t3 t4 c f tk tv) (rest := []) (st1 := [.int (nI (t * 4))]) zx zb zm zo zg zK zP zD zS zA zl.1 (c_Tr_firstSlot lL g t0 t1 t2 t3 t4 c f tk tv t (by omega)) ok_Tr_firstSlot ov_Tr_firstSlot ml_Tr_28 (by decide) 0 2 rfl rfl rfl [0, 1, 2, 3, 4] [] 5 (by decide) rfl rfl rfl rfl (by decide) rfl rfl rfl (Nat.le_of_ble_eq_true rfl) d_Tr_addSet_18 (fun HX oX zP zD zS => ?_)
  refine lv_aload_n zx zb d_Tr_addSet_21 rfl (lv_at zl 0 rfl) ?_
  refine wv_get zx zb zg hin_Tr rfl zo zK zP 0 rfl 0 (by decide) rfl fl_Tr_9 rfl d_Tr_addSet_22 ?_
  refine lv_iload_n zx zb d_Tr_addSet_25 rfl (lv_at zl 1 rfl) ?_
  refine wv_ialdN zx zb zK zP 1 rfl (by omega) (by decide) d_Tr_addSet_26 ?_
  refine wv_iadd zx zb d_Tr_addSet_27 (nI_add _ _) ?_
  refine lv_istore (lv' := [(5, .int (nI ((t * 4) + (c t)))), (0, .ref t0), (1, .int (nI t)), (2, .int (nI ky)), (3, .int vl), (4, .int (nI rc))]) zx zb d_Tr_addSet_28 zl (by decide) rfl (fun lsX zl => ?_)
  refine lv_aload_n zx zb d_Tr_addSet_30 rfl (lv_at zl 1 rfl) ?_
  refine wv_get zx zb zg hin_Tr rfl zo zK zP 0 rfl 2 (by decide) rfl fl_Tr_18 rfl d_Tr_addSet_31 ?_
  refine lv_iload zx zb d_Tr_addSet_34 (lv_at zl 0 rfl) ?_
  refine lv_iload_n zx zb d_Tr_addSet_36 rfl (lv_at zl 3 rfl) ?_
  refine wv_iastN zx zb zK zP zD zS 3 rfl (by omega) (by decide) d_Tr_addSet_37 (fun HX oX zP zD zS => ?_)
  have zP : va_P g.1 cls (wTr g t0 t1 t2 t3 t4 c f (va_up tk ((t * 4) + (c t)) ky) tv) HX := zP
  have zD : va_D AX (wTr g t0 t1 t2 t3 t4 c f (va_up tk ((t * 4) + (c t)) ky) tv) := zD
  refine lv_aload_n zx zb d_Tr_addSet_38 rfl (lv_at zl 1 rfl) ?_
  refine wv_get zx zb zg hin_Tr rfl zo zK zP 0 rfl 3 (by decide) rfl fl_Tr_21 rfl d_Tr_addSet_39 ?_
  refine lv_iload zx zb d_Tr_addSet_42 (lv_at zl 0 rfl) ?_
  refine lv_iload_n zx zb d_Tr_addSet_44 rfl (lv_at zl 4 rfl) ?_
  refine wv_iast zx zb zK zP zD zS 4 rfl (by omega) (by decide) d_Tr_addSet_45 (fun HX oX zP zD zS => ?_)
  have zP : va_P g.1 cls (wTr g t0 t1 t2 t3 t4 c f (va_up tk ((t * 4) + (c t)) ky) (upd tv ((t * 4) + (c t)) vl)) HX := zP
  have zD : va_D AX (wTr g t0 t1 t2 t3 t4 c f (va_up tk ((t * 4) + (c t)) ky) (upd tv ((t * 4) + (c t)) vl)) := zD
  refine lv_aload_n zx zb d_Tr_addSet_46 rfl (lv_at zl 1 rfl) ?_
  refine wv_get zx zb zg hin_Tr rfl zo zK zP 0 rfl 0 (by decide) rfl fl_Tr_9 rfl d_Tr_addSet_47 ?_
  refine lv_iload_n zx zb d_Tr_addSet_50 rfl (lv_at zl 2 rfl) ?_
  refine lv_dup2_11 zx zb d_Tr_addSet_51 rfl rfl ?_
  refine wv_ialdN zx zb zK zP 1 rfl (by omega) (by decide) d_Tr_addSet_52 ?_
  refine lv_iconst (v := (nI 1)) zx zb d_Tr_addSet_53 (by decide) ?_
  refine wv_iadd zx zb d_Tr_addSet_54 (nI_add _ _) ?_
  refine wv_iastN zx zb zK zP zD zS 1 rfl (by omega) (by decide) d_Tr_addSet_55 (fun HX oX zP zD zS => ?_)
  have zP : va_P g.1 cls (wTr g t0 t1 t2 t3 t4 (va_up c t ((c t) + 1)) f (va_up tk ((t * 4) + (c t)) ky) (upd tv ((t * 4) + (c t)) vl)) HX := zP
  have zD : va_D AX (wTr g t0 t1 t2 t3 t4 (va_up c t ((c t) + 1)) f (va_up tk ((t * 4) + (c t)) ky) (upd tv ((t * 4) + (c t)) vl)) := zD
  exact ct_vret zQ zx zb zr zk zP zD zS d_Tr_addSet_56 rfl (⟨rfl, rfl⟩)
set_option maxRecDepth 20000 in
theorem c_Tr_addSet_n (lL : Launch) (g : Gt) (t0 : Nat) (t1 : Nat) (t2 : Nat) (t3 : Nat) (t4 : Nat) (c : Nat → Nat) (f : Nat → Nat) (tk : Nat → Nat) (tv : Nat → Int32) (t : Nat) (ky : Nat) (vl : Int32) (rc : Nat) (ht : t < 3) (hc : c t = 0) : Ct lL g y_Tr_addSet (.code y_Tr_addSet b_Tr_addSet 6 (none)) 1 21 [.ref t0, .int (nI t), .int (nI ky), .int vl, .int (nI rc)] (wTr g t0 t1 t2 t3 t4 c f tk tv) (exP (none) (wTr g t0 t1 t2 t3 t4 (va_up c t ((c t) + 1)) (va_up f t rc) (va_up tk ((t * 4) + (c t)) ky) (upd tv ((t * 4) + (c t)) vl))) := by
  refine Ct.ofW (by decide) (Nat.le_of_ble_eq_true rfl) ?_
  intro pX eX sX mX aX bX tX cX AX lsX HX oX QX zx zb zr zk zm zo zg zK zP zD zA zS zQ zl
  have zo : sX.vm.findClass R_Tr = some mX.cls := zo
  have zl : lv_has lsX 6 [(0, .ref t0), (1, .int (nI t)), (2, .int (nI ky)), (3, .int vl), (4, .int (nI rc))] := zl
  refine lv_aload_n zx zb d_Tr_addSet_0 rfl (lv_at zl 0 rfl) ?_
  refine lv_iload_n zx zb d_Tr_addSet_1 rfl (lv_at zl 1 rfl) ?_
  refine ct_V (ws' := wTr g t0 t1 t2 t3 t4 c f tk tv) (rest := []) (st1 := [.int (nI 0)]) zx zb zm zo zg zK zP zD zS zA zl.1 (c_Tr_isOpen_f lL g t0 t1 t2 t3 t4 c f tk tv t (by omega) (by omega)) ok_Tr_isOpen ov_Tr_isOpen ml_Tr_24 (by decide) 0 2 rfl rfl rfl [0, 1, 2, 3, 4] [] 5 (by decide) rfl rfl rfl rfl (by decide) rfl rfl rfl (Nat.le_of_ble_eq_true rfl) d_Tr_addSet_2 (fun HX oX zP zD zS => ?_)
  refine wn_ine_F (tgt := 16) zx zb d_Tr_addSet_5 (by decide) (by omega) (by omega) ?_
  refine lv_aload_n zx zb d_Tr_addSet_8 rfl (lv_at zl 0 rfl) ?_
  refine wv_get zx zb zg hin_Tr rfl zo zK zP 0 rfl 1 (by decide) rfl fl_Tr_15 rfl d_Tr_addSet_9 ?_
  refine lv_iload_n zx zb d_Tr_addSet_12 rfl (lv_at zl 1 rfl) ?_
  refine lv_iload zx zb d_Tr_addSet_13 (lv_at zl 4 rfl) ?_
  refine wv_iastN zx zb zK zP zD zS 2 rfl (by omega) (by decide) d_Tr_addSet_15 (fun HX oX zP zD zS => ?_)
  have zP : va_P g.1 cls (wTr g t0 t1 t2 t3 t4 c (va_up f t rc) tk tv) HX := zP
  have zD : va_D AX (wTr g t0 t1 t2 t3 t4 c (va_up f t rc) tk tv) := zD
  refine lv_aload_n zx zb d_Tr_addSet_16 rfl (lv_at zl 0 rfl) ?_
  refine lv_iload_n zx zb d_Tr_addSet_17 rfl (lv_at zl 1 rfl) ?_
  refine ct_V (ws' := wTr g t0 t1 t2 t3 t4 c (va_up f t rc) tk tv) (rest := []) (st1 := [.int (nI (t * 4))]) zx zb zm zo zg zK zP zD zS zA zl.1 (c_Tr_firstSlot lL g t0 t1 t2 t3 t4 c (va_up f t rc) tk tv t (by omega)) ok_Tr_firstSlot ov_Tr_firstSlot ml_Tr_28 (by decide) 0 2 rfl rfl rfl [0, 1, 2, 3, 4] [] 5 (by decide) rfl rfl rfl rfl (by decide) rfl rfl rfl (Nat.le_of_ble_eq_true rfl) d_Tr_addSet_18 (fun HX oX zP zD zS => ?_)
  refine lv_aload_n zx zb d_Tr_addSet_21 rfl (lv_at zl 0 rfl) ?_
  refine wv_get zx zb zg hin_Tr rfl zo zK zP 0 rfl 0 (by decide) rfl fl_Tr_9 rfl d_Tr_addSet_22 ?_
  refine lv_iload_n zx zb d_Tr_addSet_25 rfl (lv_at zl 1 rfl) ?_
  refine wv_ialdN zx zb zK zP 1 rfl (by omega) (by decide) d_Tr_addSet_26 ?_
  refine wv_iadd zx zb d_Tr_addSet_27 (nI_add _ _) ?_
  refine lv_istore (lv' := [(5, .int (nI ((t * 4) + (c t)))), (0, .ref t0), (1, .int (nI t)), (2, .int (nI ky)), (3, .int vl), (4, .int (nI rc))]) zx zb d_Tr_addSet_28 zl (by decide) rfl (fun lsX zl => ?_)
  refine lv_aload_n zx zb d_Tr_addSet_30 rfl (lv_at zl 1 rfl) ?_
  refine wv_get zx zb zg hin_Tr rfl zo zK zP 0 rfl 2 (by decide) rfl fl_Tr_18 rfl d_Tr_addSet_31 ?_
  refine lv_iload zx zb d_Tr_addSet_34 (lv_at zl 0 rfl) ?_
  refine lv_iload_n zx zb d_Tr_addSet_36 rfl (lv_at zl 3 rfl) ?_
  refine wv_iastN zx zb zK zP zD zS 3 rfl (by omega) (by decide) d_Tr_addSet_37 (fun HX oX zP zD zS => ?_)
  have zP : va_P g.1 cls (wTr g t0 t1 t2 t3 t4 c (va_up f t rc) (va_up tk ((t * 4) + (c t)) ky) tv) HX := zP
  have zD : va_D AX (wTr g t0 t1 t2 t3 t4 c (va_up f t rc) (va_up tk ((t * 4) + (c t)) ky) tv) := zD
  refine lv_aload_n zx zb d_Tr_addSet_38 rfl (lv_at zl 1 rfl) ?_
  refine wv_get zx zb zg hin_Tr rfl zo zK zP 0 rfl 3 (by decide) rfl fl_Tr_21 rfl d_Tr_addSet_39 ?_
  refine lv_iload zx zb d_Tr_addSet_42 (lv_at zl 0 rfl) ?_
  refine lv_iload_n zx zb d_Tr_addSet_44 rfl (lv_at zl 4 rfl) ?_
  refine wv_iast zx zb zK zP zD zS 4 rfl (by omega) (by decide) d_Tr_addSet_45 (fun HX oX zP zD zS => ?_)
  have zP : va_P g.1 cls (wTr g t0 t1 t2 t3 t4 c (va_up f t rc) (va_up tk ((t * 4) + (c t)) ky) (upd tv ((t * 4) + (c t)) vl)) HX := zP
  have zD : va_D AX (wTr g t0 t1 t2 t3 t4 c (va_up f t rc) (va_up tk ((t * 4) + (c t)) ky) (upd tv ((t * 4) + (c t)) vl)) := zD
  refine lv_aload_n zx zb d_Tr_addSet_46 rfl (lv_at zl 1 rfl) ?_
  refine wv_get zx zb zg hin_Tr rfl zo zK zP 0 rfl 0 (by decide) rfl fl_Tr_9 rfl d_Tr_addSet_47 ?_
  refine lv_iload_n zx zb d_Tr_addSet_50 rfl (lv_at zl 2 rfl) ?_
  refine lv_dup2_11 zx zb d_Tr_addSet_51 rfl rfl ?_
  refine wv_ialdN zx zb zK zP 1 rfl (by omega) (by decide) d_Tr_addSet_52 ?_
  refine lv_iconst (v := (nI 1)) zx zb d_Tr_addSet_53 (by decide) ?_
  refine wv_iadd zx zb d_Tr_addSet_54 (nI_add _ _) ?_
  refine wv_iastN zx zb zK zP zD zS 1 rfl (by omega) (by decide) d_Tr_addSet_55 (fun HX oX zP zD zS => ?_)
  have zP : va_P g.1 cls (wTr g t0 t1 t2 t3 t4 (va_up c t ((c t) + 1)) (va_up f t rc) (va_up tk ((t * 4) + (c t)) ky) (upd tv ((t * 4) + (c t)) vl)) HX := zP
  have zD : va_D AX (wTr g t0 t1 t2 t3 t4 (va_up c t ((c t) + 1)) (va_up f t rc) (va_up tk ((t * 4) + (c t)) ky) (upd tv ((t * 4) + (c t)) vl)) := zD
  exact ct_vret zQ zx zb zr zk zP zD zS d_Tr_addSet_56 rfl (⟨rfl, rfl⟩)
def lfs (c f : Nat → Nat) : Nat → Nat → Nat → Nat
  | _, 0, b => b
  | t, n + 1, b => lfs c f (t + 1) n (if 0 < c t then min b (f t) else b)
set_option maxRecDepth 20000 in
theorem c_Tr_leastFirstSet (lL : Launch) (g : Gt) (t0 : Nat) (t1 : Nat) (t2 : Nat) (t3 : Nat) (t4 : Nat) (c : Nat → Nat) (f : Nat → Nat) (tk : Nat → Nat) (tv : Nat → Int32) (dn : Nat) (hc : ∀ t, t < 3 → c t ≤ 4) (hf : ∀ t, t < 3 → f t ≤ 512) (hd : dn ≤ 512) : Ct lL g y_Tr_leastFirstSet (.code y_Tr_leastFirstSet b_Tr_leastFirstSet 4 (some .int)) 1 24 [.ref t0, .int (nI dn)] (wTr g t0 t1 t2 t3 t4 c f tk tv) (exP (some (.int (nI (lfs c f 0 3 dn)))) (wTr g t0 t1 t2 t3 t4 c f tk tv)) := by
  refine Ct.ofW (by decide) (Nat.le_of_ble_eq_true rfl) ?_
  intro pX eX sX mX aX bX tX cX AX lsX HX oX QX zx zb zr zk zm zo zg zK zP zD zA zS zQ zl
  have zo : sX.vm.findClass R_Tr = some mX.cls := zo
  have zl : lv_has lsX 4 [(0, .ref t0), (1, .int (nI dn))] := zl
  refine lv_iload_n zx zb d_Tr_leastFirstSet_0 rfl (lv_at zl 1 rfl) ?_
  refine lv_istore_n (lv' := [(2, .int (nI dn)), (0, .ref t0), (1, .int (nI dn))]) zx zb d_Tr_leastFirstSet_1 rfl zl (by decide) rfl (fun lsX zl => ?_)
  refine lv_iconst (v := (nI 0)) zx zb d_Tr_leastFirstSet_2 (by decide) ?_
  refine lv_istore_n (lv' := [(3, .int (nI 0)), (2, .int (nI dn)), (0, .ref t0), (1, .int (nI dn))]) zx zb d_Tr_leastFirstSet_3 rfl zl (by decide) rfl (fun lsX zl => ?_)
  have loop4 : ∀ (kk : Nat) (b : Nat) (t : Nat), kk = 3 - t → (b ≤ 512) → (t ≤ 3) → (lfs c f t (3 - t) b = lfs c f 0 3 dn) → ∀ (lsX : Array Slot) (HX : Heap) (oX : List Loc), lv_has lsX 4 [(0, .ref t0), (1, .int (nI dn)), (2, .int (nI b)), (3, .int (nI t))] → va_P g.1 cls (wTr g t0 t1 t2 t3 t4 c f tk tv) HX → va_D AX (wTr g t0 t1 t2 t3 t4 c f tk tv) → va_S AX sX.heap HX oX → W pX lL eX (rmL 1 24) sX mX aX bX tX cX HX oX 0 0 QX (F0 mX 4 lsX []) := by
    intro kk
    induction kk using Nat.strongRecOn with
    | ind kk ih_loop4 =>
      intro b t hkk hb ht hi lsX HX oX zl zP zD zS
      rcases Nat.lt_or_ge t 3 with h3 | h3
      · have hct := hc t h3
        have hft := hf t h3
        have e3 : 3 - t = (3 - (t + 1)) + 1 := by omega
        rw [e3] at hi
        have hi : lfs c f (t + 1) (3 - (t + 1)) (if 0 < c t then min b (f t) else b) = lfs c f 0 3 dn := hi
        refine lv_iload_n zx zb d_Tr_leastFirstSet_4 rfl (lv_at zl 3 rfl) ?_
        refine lv_iconst (v := (nI 3)) zx zb d_Tr_leastFirstSet_5 (by decide) ?_
        refine wn_cge_F (tgt := 34) zx zb d_Tr_leastFirstSet_6 (by decide) (by omega) (by omega) (by omega) ?_
        rcases Nat.eq_zero_or_pos (c t) with hz | hz
        · rw [if_neg (by omega)] at hi
          refine lv_aload_n zx zb d_Tr_leastFirstSet_9 rfl (lv_at zl 0 rfl) ?_
          refine lv_iload_n zx zb d_Tr_leastFirstSet_10 rfl (lv_at zl 3 rfl) ?_
          refine ct_V (ws' := wTr g t0 t1 t2 t3 t4 c f tk tv) (rest := []) (st1 := [.int (nI 0)]) zx zb zm zo zg zK zP zD zS zA zl.1 (c_Tr_isOpen_f lL g t0 t1 t2 t3 t4 c f tk tv t (by omega) (by omega)) ok_Tr_isOpen ov_Tr_isOpen ml_Tr_24 (by decide) 0 2 rfl rfl rfl [0, 1, 2, 3, 4] [] 5 (by decide) rfl rfl rfl rfl (by decide) rfl rfl rfl (Nat.le_of_ble_eq_true rfl) d_Tr_leastFirstSet_11 (fun HX oX zP zD zS => ?_)
          refine wn_ieq_T (tgt := 28) zx zb d_Tr_leastFirstSet_14 (by decide) (by omega) (by omega) ?_
          refine lv_iinc (k := 3) (lv' := [(3, .int (nI (t + 1))), (0, .ref t0), (1, .int (nI dn)), (2, .int (nI b))]) zx zb d_Tr_leastFirstSet_28 zl rfl (ni_inc _) (by decide) rfl (fun lsX zl => ?_)
          refine lv_goto (tgt := 4) zx zb d_Tr_leastFirstSet_31 (by decide) ?_
          exact ih_loop4 _ (by omega) b (t + 1) rfl (by omega) (by omega) hi lsX HX oX (lv_sub zl [1, 2, 3, 0] rfl) zP zD zS
        · rw [if_pos hz] at hi
          have hmin : min b (f t) ≤ 512 := Nat.le_trans (Nat.min_le_left _ _) hb
          refine lv_aload_n zx zb d_Tr_leastFirstSet_9 rfl (lv_at zl 0 rfl) ?_
          refine lv_iload_n zx zb d_Tr_leastFirstSet_10 rfl (lv_at zl 3 rfl) ?_
          refine ct_V (ws' := wTr g t0 t1 t2 t3 t4 c f tk tv) (rest := []) (st1 := [.int (nI 1)]) zx zb zm zo zg zK zP zD zS zA zl.1 (c_Tr_isOpen_t lL g t0 t1 t2 t3 t4 c f tk tv t (by omega) (by omega) (by omega)) ok_Tr_isOpen ov_Tr_isOpen ml_Tr_24 (by decide) 0 2 rfl rfl rfl [0, 1, 2, 3, 4] [] 5 (by decide) rfl rfl rfl rfl (by decide) rfl rfl rfl (Nat.le_of_ble_eq_true rfl) d_Tr_leastFirstSet_11 (fun HX oX zP zD zS => ?_)
          refine wn_ieq_F (tgt := 28) zx zb d_Tr_leastFirstSet_14 (by decide) (by omega) (by omega) ?_
          refine lv_iload_n zx zb d_Tr_leastFirstSet_17 rfl (lv_at zl 2 rfl) ?_
          refine lv_aload_n zx zb d_Tr_leastFirstSet_18 rfl (lv_at zl 0 rfl) ?_
          refine wv_get zx zb zg hin_Tr rfl zo zK zP 0 rfl 1 (by decide) rfl fl_Tr_15 rfl d_Tr_leastFirstSet_19 ?_
          refine lv_iload_n zx zb d_Tr_leastFirstSet_22 rfl (lv_at zl 3 rfl) ?_
          refine wv_ialdN zx zb zK zP 2 rfl (by omega) (by decide) d_Tr_leastFirstSet_23 ?_
          refine wv_min zx zb (zm.trans zl.1.symm) zg zo ml_Tr_36 wd_mins wd_mini wd_minc (by decide) (Nat.le_of_ble_eq_true rfl) (by omega) (by omega) d_Tr_leastFirstSet_24 ?_
          refine lv_istore_n (lv' := [(2, .int (nI (min b (f t)))), (0, .ref t0), (1, .int (nI dn)), (3, .int (nI t))]) zx zb d_Tr_leastFirstSet_27 rfl zl (by decide) rfl (fun lsX zl => ?_)
          refine lv_iinc (k := 3) (lv' := [(3, .int (nI (t + 1))), (2, .int (nI (min b (f t)))), (0, .ref t0), (1, .int (nI dn))]) zx zb d_Tr_leastFirstSet_28 zl rfl (ni_inc _) (by decide) rfl (fun lsX zl => ?_)
          refine lv_goto (tgt := 4) zx zb d_Tr_leastFirstSet_31 (by decide) ?_
          exact ih_loop4 _ (by omega) (min b (f t)) (t + 1) rfl hmin (by omega) hi lsX HX oX (lv_sub zl [2, 3, 1, 0] rfl) zP zD zS
      · have e3 : t = 3 := by omega
        subst e3
        have hi : b = lfs c f 0 3 dn := hi
        refine lv_iload_n zx zb d_Tr_leastFirstSet_4 rfl (lv_at zl 3 rfl) ?_
        refine lv_iconst (v := (nI 3)) zx zb d_Tr_leastFirstSet_5 (by decide) ?_
        refine wn_cge_T (tgt := 34) zx zb d_Tr_leastFirstSet_6 (by decide) (by omega) (by omega) (by omega) ?_
        refine lv_iload_n zx zb d_Tr_leastFirstSet_34 rfl (lv_at zl 2 rfl) ?_
        exact ct_iret zQ zx zb zr zk zP zD zS d_Tr_leastFirstSet_35 rfl (⟨by rw [hi], rfl⟩)
  exact loop4 _ dn 0 rfl hd (by omega) rfl lsX HX oX (lv_sub zl [2, 3, 1, 0] rfl) zP zD zS
def wrS (tk : Nat → Nat) (tv : Nat → Int32) : (Nat → Int32) → Nat → Nat → (Nat → Int32)
  | tg, _, 0 => tg
  | tg, s, n + 1 => wrS tk tv (upd tg (tk s) (tv s)) (s + 1) n
set_option maxRecDepth 20000 in
theorem c_Tr_writeSetsTo (lL : Launch) (g : Gt) (t0 : Nat) (t1 : Nat) (t2 : Nat) (t3 : Nat) (t4 : Nat) (c : Nat → Nat) (f : Nat → Nat) (tk : Nat → Nat) (tv : Nat → Int32) (q0 : Nat) (tg : Nat → Int32) (t : Nat) (ht : t < 3) (hc : c t ≤ 4) (hk : ∀ j, j < 12 → tk j < 32) : Ct lL g y_Tr_writeSetsTo (.code y_Tr_writeSetsTo b_Tr_writeSetsTo 5 (none)) 2 42 [.ref t0, .ref q0, .int (nI t)] (wTr g t0 t1 t2 t3 t4 c f tk tv ++ wAI g q0 tg) (exP (none) (wTr g t0 t1 t2 t3 t4 c f tk tv ++ wAI g q0 (wrS tk tv tg (t * 4) (c t)))) := by
  refine Ct.ofW (by decide) (Nat.le_of_ble_eq_true rfl) ?_
  intro pX eX sX mX aX bX tX cX AX lsX HX oX QX zx zb zr zk zm zo zg zK zP zD zA zS zQ zl
  have zo : sX.vm.findClass R_Tr = some mX.cls := zo
  have zl : lv_has lsX 5 [(0, .ref t0), (1, .ref q0), (2, .int (nI t))] := zl
  refine lv_aload_n zx zb d_Tr_writeSetsTo_0 rfl (lv_at zl 0 rfl) ?_
  refine lv_iload_n zx zb d_Tr_writeSetsTo_1 rfl (lv_at zl 2 rfl) ?_
  refine ct_V (ws' := wTr g t0 t1 t2 t3 t4 c f tk tv ++ wAI g q0 tg) (rest := []) (st1 := [.int (nI ((t * 4) + (c t)))]) zx zb zm zo zg zK zP zD zS zA zl.1 (c_Tr_slotsEnd lL g t0 t1 t2 t3 t4 c f tk tv t (by omega)) ok_Tr_slotsEnd ov_Tr_slotsEnd ml_Tr_42 (by decide) 0 2 rfl rfl rfl [0, 1, 2, 3, 4] [5] 6 (by decide) rfl rfl rfl rfl (by decide) rfl rfl rfl (Nat.le_of_ble_eq_true rfl) d_Tr_writeSetsTo_2 (fun HX oX zP zD zS => ?_)
  refine lv_istore_n (lv' := [(3, .int (nI ((t * 4) + (c t)))), (0, .ref t0), (1, .ref q0), (2, .int (nI t))]) zx zb d_Tr_writeSetsTo_5 rfl zl (by decide) rfl (fun lsX zl => ?_)
  refine lv_aload_n zx zb d_Tr_writeSetsTo_6 rfl (lv_at zl 1 rfl) ?_
  refine lv_iload_n zx zb d_Tr_writeSetsTo_7 rfl (lv_at zl 3 rfl) ?_
  refine ct_V (ws' := wTr g t0 t1 t2 t3 t4 c f tk tv ++ wAI g q0 tg) (rest := []) (st1 := [.int (nI (t * 4))]) zx zb zm zo zg zK zP zD zS zA zl.1 (c_Tr_firstSlot lL g t0 t1 t2 t3 t4 c f tk tv t (by omega)) ok_Tr_firstSlot ov_Tr_firstSlot ml_Tr_28 (by decide) 0 2 rfl rfl rfl [0, 1, 2, 3, 4] [5] 6 (by decide) rfl rfl rfl rfl (by decide) rfl rfl rfl (Nat.le_of_ble_eq_true rfl) d_Tr_writeSetsTo_8 (fun HX oX zP zD zS => ?_)
  refine lv_istore (lv' := [(4, .int (nI (t * 4))), (3, .int (nI ((t * 4) + (c t)))), (0, .ref t0), (1, .ref q0), (2, .int (nI t))]) zx zb d_Tr_writeSetsTo_11 zl (by decide) rfl (fun lsX zl => ?_)
  have loop13 : ∀ (kk : Nat) (sl : Nat) (tq : Nat → Int32), kk = t * 4 + c t - sl → (sl ≤ t * 4 + c t) → (wrS tk tv tq sl (t * 4 + c t - sl) = wrS tk tv tg (t * 4) (c t)) → ∀ (lsX : Array Slot) (HX : Heap) (oX : List Loc), lv_has lsX 5 [(0, .ref t0), (1, .ref q0), (3, .int (nI ((t * 4) + (c t)))), (4, .int (nI sl))] → va_P g.1 cls (wTr g t0 t1 t2 t3 t4 c f tk tv ++ wAI g q0 tq) HX → va_D AX (wTr g t0 t1 t2 t3 t4 c f tk tv ++ wAI g q0 tq) → va_S AX sX.heap HX oX → W pX lL eX (rmL 2 42) sX mX aX bX tX cX HX oX 0 0 QX (F0 mX 13 lsX []) := by
    intro kk
    induction kk using Nat.strongRecOn with
    | ind kk ih_loop13 =>
      intro sl tq hkk hb hi lsX HX oX zl zP zD zS
      rcases Nat.lt_or_ge sl (t * 4 + c t) with h3 | h3
      · have e3 : t * 4 + c t - sl = (t * 4 + c t - (sl + 1)) + 1 := by omega
        rw [e3] at hi
        have hi : wrS tk tv (upd tq (tk sl) (tv sl)) (sl + 1) (t * 4 + c t - (sl + 1)) = wrS tk tv tg (t * 4) (c t) := hi
        have hsl := hk sl (by omega)
        refine lv_iload zx zb d_Tr_writeSetsTo_13 (lv_at zl 3 rfl) ?_
        refine lv_iload_n zx zb d_Tr_writeSetsTo_15 rfl (lv_at zl 2 rfl) ?_
        refine wn_cge_F (tgt := 41) zx zb d_Tr_writeSetsTo_16 (by decide) (by omega) (by omega) (by omega) ?_
        refine lv_aload_n zx zb d_Tr_writeSetsTo_19 rfl (lv_at zl 1 rfl) ?_
        refine lv_aload_n zx zb d_Tr_writeSetsTo_20 rfl (lv_at zl 0 rfl) ?_
        refine wv_get zx zb zg hin_Tr rfl zo zK zP 0 rfl 2 (by decide) rfl fl_Tr_18 rfl d_Tr_writeSetsTo_21 ?_
        refine lv_iload zx zb d_Tr_writeSetsTo_24 (lv_at zl 3 rfl) ?_
        refine wv_ialdN zx zb zK zP 3 rfl (by omega) (by decide) d_Tr_writeSetsTo_26 ?_
        refine lv_aload_n zx zb d_Tr_writeSetsTo_27 rfl (lv_at zl 0 rfl) ?_
        refine wv_get zx zb zg hin_Tr rfl zo zK zP 0 rfl 3 (by decide) rfl fl_Tr_21 rfl d_Tr_writeSetsTo_28 ?_
        refine lv_iload zx zb d_Tr_writeSetsTo_31 (lv_at zl 3 rfl) ?_
        refine wv_iald zx zb zK zP 4 rfl (by omega) (by decide) d_Tr_writeSetsTo_33 ?_
        refine wv_iast zx zb zK zP zD zS 5 rfl (by omega) (by decide) d_Tr_writeSetsTo_34 (fun HX oX zP zD zS => ?_)
        have zP : va_P g.1 cls (wTr g t0 t1 t2 t3 t4 c f tk tv ++ wAI g q0 (upd tq (tk sl) (tv sl))) HX := zP
        have zD : va_D AX (wTr g t0 t1 t2 t3 t4 c f tk tv ++ wAI g q0 (upd tq (tk sl) (tv sl))) := zD
        refine lv_iinc (k := 3) (lv' := [(4, .int (nI (sl + 1))), (0, .ref t0), (1, .ref q0), (3, .int (nI ((t * 4) + (c t))))]) zx zb d_Tr_writeSetsTo_35 zl rfl (ni_inc _) (by decide) rfl (fun lsX zl => ?_)
        refine lv_goto (tgt := 13) zx zb d_Tr_writeSetsTo_38 (by decide) ?_
        exact ih_loop13 _ (by omega) (sl + 1) (upd tq (tk sl) (tv sl)) rfl (by omega) hi lsX HX oX (lv_sub zl [1, 2, 3, 0] rfl) zP zD zS
      · have e3 : t * 4 + c t - sl = 0 := by omega
        rw [e3] at hi
        have hi : tq = wrS tk tv tg (t * 4) (c t) := hi
        refine lv_iload zx zb d_Tr_writeSetsTo_13 (lv_at zl 3 rfl) ?_
        refine lv_iload_n zx zb d_Tr_writeSetsTo_15 rfl (lv_at zl 2 rfl) ?_
        refine wn_cge_T (tgt := 41) zx zb d_Tr_writeSetsTo_16 (by decide) (by omega) (by omega) (by omega) ?_
        exact ct_vret zQ zx zb zr zk zP zD zS d_Tr_writeSetsTo_41 rfl (⟨rfl, by rw [hi]⟩)
  exact loop13 _ (t * 4) tg rfl (by omega) (by rw [Nat.add_sub_cancel_left]) lsX HX oX (lv_sub zl [2, 3, 1, 0] rfl) zP zD zS
