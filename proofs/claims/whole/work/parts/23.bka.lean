set_option maxRecDepth 20000 in
theorem c_Bk_begin (lL : Launch) (g : Gt) (b0 : Nat) (b1 : Nat) (bv : Nat → Int32) (pr : Nat) (fi : Nat) (st : Nat) (cp : Nat) (en : Nat) (pg : Nat) (rd : Nat) (ps : Nat)  : Ct lL g y_Bk_begin (.code y_Bk_begin b_Bk_begin 3 (none)) 0 0 [.ref b0, .int (nI rd), .int (nI ps)] (wBk g b0 b1 bv pr fi st cp en pg) (exP (none) (wBk g b0 b1 bv 1 0 rd ps en 0)) := by
  refine Ct.ofW (by decide) (Nat.le_of_ble_eq_true rfl) ?_
  intro pX eX sX mX aX bX tX cX AX lsX HX oX QX zx zb zr zk zm zo zg zK zP zD zA zS zQ zl
  have zo : sX.vm.findClass R_Bk = some mX.cls := zo
  have zl : lv_has lsX 3 [(0, .ref b0), (1, .int (nI rd)), (2, .int (nI ps))] := zl
  refine lv_aload_n zx zb d_Bk_begin_0 rfl (lv_at zl 0 rfl) ?_
  refine lv_iconst (v := (nI 1)) zx zb d_Bk_begin_1 (by decide) ?_
  refine wv_put zx zb zg hin_Bk rfl t_Bk t_Bk_ok n_Bk zo zK zP zD zS 0 rfl 1 (by decide) rfl fl_Bk_15 rfl (by decide) rfl (Nat.le_of_ble_eq_true rfl) d_Bk_begin_2 (fun HX oX zP zD zS => ?_)
  have zP : va_P g.1 cls (wBk g b0 b1 bv 1 fi st cp en pg) HX := zP
  have zD : va_D AX (wBk g b0 b1 bv 1 fi st cp en pg) := zD
  refine lv_aload_n zx zb d_Bk_begin_5 rfl (lv_at zl 0 rfl) ?_
  refine lv_iconst (v := (nI 0)) zx zb d_Bk_begin_6 (by decide) ?_
  refine wv_put zx zb zg hin_Bk rfl t_Bk t_Bk_ok n_Bk zo zK zP zD zS 0 rfl 2 (by decide) rfl fl_Bk_19 rfl (by decide) rfl (Nat.le_of_ble_eq_true rfl) d_Bk_begin_7 (fun HX oX zP zD zS => ?_)
  have zP : va_P g.1 cls (wBk g b0 b1 bv 1 0 st cp en pg) HX := zP
  have zD : va_D AX (wBk g b0 b1 bv 1 0 st cp en pg) := zD
  refine lv_aload_n zx zb d_Bk_begin_10 rfl (lv_at zl 0 rfl) ?_
  refine lv_iload_n zx zb d_Bk_begin_11 rfl (lv_at zl 1 rfl) ?_
  refine wv_put zx zb zg hin_Bk rfl t_Bk t_Bk_ok n_Bk zo zK zP zD zS 0 rfl 3 (by decide) rfl fl_Bk_22 rfl rfl rfl (Nat.le_of_ble_eq_true rfl) d_Bk_begin_12 (fun HX oX zP zD zS => ?_)
  have zP : va_P g.1 cls (wBk g b0 b1 bv 1 0 rd cp en pg) HX := zP
  have zD : va_D AX (wBk g b0 b1 bv 1 0 rd cp en pg) := zD
  refine lv_aload_n zx zb d_Bk_begin_15 rfl (lv_at zl 0 rfl) ?_
  refine lv_iload_n zx zb d_Bk_begin_16 rfl (lv_at zl 2 rfl) ?_
  refine wv_put zx zb zg hin_Bk rfl t_Bk t_Bk_ok n_Bk zo zK zP zD zS 0 rfl 4 (by decide) rfl fl_Bk_26 rfl rfl rfl (Nat.le_of_ble_eq_true rfl) d_Bk_begin_17 (fun HX oX zP zD zS => ?_)
  have zP : va_P g.1 cls (wBk g b0 b1 bv 1 0 rd ps en pg) HX := zP
  have zD : va_D AX (wBk g b0 b1 bv 1 0 rd ps en pg) := zD
  refine lv_aload_n zx zb d_Bk_begin_20 rfl (lv_at zl 0 rfl) ?_
  refine lv_iconst (v := (nI 0)) zx zb d_Bk_begin_21 (by decide) ?_
  refine wv_put zx zb zg hin_Bk rfl t_Bk t_Bk_ok n_Bk zo zK zP zD zS 0 rfl 6 (by decide) rfl fl_Bk_29 rfl rfl rfl (Nat.le_of_ble_eq_true rfl) d_Bk_begin_22 (fun HX oX zP zD zS => ?_)
  have zP : va_P g.1 cls (wBk g b0 b1 bv 1 0 rd ps en 0) HX := zP
  have zD : va_D AX (wBk g b0 b1 bv 1 0 rd ps en 0) := zD
  exact ct_vret zQ zx zb zr zk zP zD zS d_Bk_begin_25 rfl (⟨rfl, rfl⟩)
set_option maxRecDepth 20000 in
theorem c_Bk_finish (lL : Launch) (g : Gt) (b0 : Nat) (b1 : Nat) (bv : Nat → Int32) (pr : Nat) (fi : Nat) (st : Nat) (cp : Nat) (en : Nat) (pg : Nat) (sy : Nat)  : Ct lL g y_Bk_finish (.code y_Bk_finish b_Bk_finish 2 (none)) 0 0 [.ref b0, .int (nI sy)] (wBk g b0 b1 bv pr fi st cp en pg) (exP (none) (wBk g b0 b1 bv pr 1 st cp sy pg)) := by
  refine Ct.ofW (by decide) (Nat.le_of_ble_eq_true rfl) ?_
  intro pX eX sX mX aX bX tX cX AX lsX HX oX QX zx zb zr zk zm zo zg zK zP zD zA zS zQ zl
  have zo : sX.vm.findClass R_Bk = some mX.cls := zo
  have zl : lv_has lsX 2 [(0, .ref b0), (1, .int (nI sy))] := zl
  refine lv_aload_n zx zb d_Bk_finish_0 rfl (lv_at zl 0 rfl) ?_
  refine lv_iconst (v := (nI 1)) zx zb d_Bk_finish_1 (by decide) ?_
  refine wv_put zx zb zg hin_Bk rfl t_Bk t_Bk_ok n_Bk zo zK zP zD zS 0 rfl 2 (by decide) rfl fl_Bk_19 rfl (by decide) rfl (Nat.le_of_ble_eq_true rfl) d_Bk_finish_2 (fun HX oX zP zD zS => ?_)
  have zP : va_P g.1 cls (wBk g b0 b1 bv pr 1 st cp en pg) HX := zP
  have zD : va_D AX (wBk g b0 b1 bv pr 1 st cp en pg) := zD
  refine lv_aload_n zx zb d_Bk_finish_5 rfl (lv_at zl 0 rfl) ?_
  refine lv_iload_n zx zb d_Bk_finish_6 rfl (lv_at zl 1 rfl) ?_
  refine wv_put zx zb zg hin_Bk rfl t_Bk t_Bk_ok n_Bk zo zK zP zD zS 0 rfl 5 (by decide) rfl fl_Bk_38 rfl rfl rfl (Nat.le_of_ble_eq_true rfl) d_Bk_finish_7 (fun HX oX zP zD zS => ?_)
  have zP : va_P g.1 cls (wBk g b0 b1 bv pr 1 st cp sy pg) HX := zP
  have zD : va_D AX (wBk g b0 b1 bv pr 1 st cp sy pg) := zD
  exact ct_vret zQ zx zb zr zk zP zD zS d_Bk_finish_10 rfl (⟨rfl, rfl⟩)
set_option maxRecDepth 20000 in
theorem c_Bk_remove (lL : Launch) (g : Gt) (b0 : Nat) (b1 : Nat) (bv : Nat → Int32) (pr : Nat) (fi : Nat) (st : Nat) (cp : Nat) (en : Nat) (pg : Nat)  : Ct lL g y_Bk_remove (.code y_Bk_remove b_Bk_remove 1 (none)) 0 0 [.ref b0] (wBk g b0 b1 bv pr fi st cp en pg) (exP (none) (wBk g b0 b1 bv 0 0 st cp en pg)) := by
  refine Ct.ofW (by decide) (Nat.le_of_ble_eq_true rfl) ?_
  intro pX eX sX mX aX bX tX cX AX lsX HX oX QX zx zb zr zk zm zo zg zK zP zD zA zS zQ zl
  have zo : sX.vm.findClass R_Bk = some mX.cls := zo
  have zl : lv_has lsX 1 [(0, .ref b0)] := zl
  refine lv_aload_n zx zb d_Bk_remove_0 rfl (lv_at zl 0 rfl) ?_
  refine lv_iconst (v := (nI 0)) zx zb d_Bk_remove_1 (by decide) ?_
  refine wv_put zx zb zg hin_Bk rfl t_Bk t_Bk_ok n_Bk zo zK zP zD zS 0 rfl 1 (by decide) rfl fl_Bk_15 rfl (by decide) rfl (Nat.le_of_ble_eq_true rfl) d_Bk_remove_2 (fun HX oX zP zD zS => ?_)
  have zP : va_P g.1 cls (wBk g b0 b1 bv 0 fi st cp en pg) HX := zP
  have zD : va_D AX (wBk g b0 b1 bv 0 fi st cp en pg) := zD
  refine lv_aload_n zx zb d_Bk_remove_5 rfl (lv_at zl 0 rfl) ?_
  refine lv_iconst (v := (nI 0)) zx zb d_Bk_remove_6 (by decide) ?_
  refine wv_put zx zb zg hin_Bk rfl t_Bk t_Bk_ok n_Bk zo zK zP zD zS 0 rfl 2 (by decide) rfl fl_Bk_19 rfl (by decide) rfl (Nat.le_of_ble_eq_true rfl) d_Bk_remove_7 (fun HX oX zP zD zS => ?_)
  have zP : va_P g.1 cls (wBk g b0 b1 bv 0 0 st cp en pg) HX := zP
  have zD : va_D AX (wBk g b0 b1 bv 0 0 st cp en pg) := zD
  exact ct_vret zQ zx zb zr zk zP zD zS d_Bk_remove_10 rfl (⟨rfl, rfl⟩)
set_option maxRecDepth 20000 in
theorem c_Bk_take (lL : Launch) (g : Gt) (b0 : Nat) (b1 : Nat) (bv : Nat → Int32) (pr : Nat) (fi : Nat) (st : Nat) (cp : Nat) (en : Nat) (pg : Nat) (q0 : Nat) (tg : Nat → Int32) (hg8 : pg < 8) : Ct lL g y_Bk_takeNextPage (.code y_Bk_takeNextPage b_Bk_takeNextPage 3 (some .int)) 1 24 [.ref b0, .ref q0] (wBk g b0 b1 bv pr fi st cp en pg ++ wAI g q0 tg) (exP (some (.int (nI (8 - (pg + 1))))) (wBk g b0 b1 (va_cpy tg bv (pg * 4) (pg * 4) 4) pr fi st cp en (pg + 1) ++ wAI g q0 tg)) := by
  refine Ct.ofW (by decide) (Nat.le_of_ble_eq_true rfl) ?_
  intro pX eX sX mX aX bX tX cX AX lsX HX oX QX zx zb zr zk zm zo zg zK zP zD zA zS zQ zl
  have zo : sX.vm.findClass R_Bk = some mX.cls := zo
  have zl : lv_has lsX 3 [(0, .ref b0), (1, .ref q0)] := zl
  refine lv_aload_n zx zb d_Bk_takeNextPage_0 rfl (lv_at zl 0 rfl) ?_
  refine wv_get zx zb zg hin_Bk rfl zo zK zP 0 rfl 6 (by decide) rfl fl_Bk_29 rfl d_Bk_takeNextPage_1 ?_
  refine lv_iconst (v := (nI 4)) zx zb d_Bk_takeNextPage_4 (by decide) ?_
  refine wv_imul zx zb d_Bk_takeNextPage_5 (pk_mul _ _) ?_
  refine lv_istore_n (lv' := [(2, .int (nI (pg * 4))), (0, .ref b0), (1, .ref q0)]) zx zb d_Bk_takeNextPage_6 rfl zl (by decide) rfl (fun lsX zl => ?_)
  refine lv_aload_n zx zb d_Bk_takeNextPage_7 rfl (lv_at zl 2 rfl) ?_
  refine lv_iload_n zx zb d_Bk_takeNextPage_8 rfl (lv_at zl 0 rfl) ?_
  refine lv_aload_n zx zb d_Bk_takeNextPage_9 rfl (lv_at zl 1 rfl) ?_
  refine wv_get zx zb zg hin_Bk rfl zo zK zP 0 rfl 0 (by decide) rfl fl_Bk_9 rfl d_Bk_takeNextPage_10 ?_
  refine lv_iload_n zx zb d_Bk_takeNextPage_13 rfl (lv_at zl 0 rfl) ?_
  refine lv_iconst (v := (nI 4)) zx zb d_Bk_takeNextPage_14 (by decide) ?_
  refine wv_copy zx zb (zm.trans zl.1.symm) zg zo ml_Bk_32 wd_nat wd_stat wd_ini zK zP zD zS 2 1 rfl rfl (by omega) (by omega) (by decide) (by decide) (by decide) (Nat.le_of_ble_eq_true rfl) d_Bk_takeNextPage_15 (fun HX oX zP zD zS => ?_)
  have zP : va_P g.1 cls (wBk g b0 b1 (va_cpy tg bv (pg * 4) (pg * 4) 4) pr fi st cp en pg ++ wAI g q0 tg) HX := zP
  have zD : va_D AX (wBk g b0 b1 (va_cpy tg bv (pg * 4) (pg * 4) 4) pr fi st cp en pg ++ wAI g q0 tg) := zD
  refine lv_aload_n zx zb d_Bk_takeNextPage_18 rfl (lv_at zl 1 rfl) ?_
  refine lv_dup zx zb d_Bk_takeNextPage_19 rfl ?_
  refine wv_get zx zb zg hin_Bk rfl zo zK zP 0 rfl 6 (by decide) rfl fl_Bk_29 rfl d_Bk_takeNextPage_20 ?_
  refine lv_iconst (v := (nI 1)) zx zb d_Bk_takeNextPage_23 (by decide) ?_
  refine wv_iadd zx zb d_Bk_takeNextPage_24 (nI_add _ _) ?_
  refine wv_put zx zb zg hin_Bk rfl t_Bk t_Bk_ok n_Bk zo zK zP zD zS 0 rfl 6 (by decide) rfl fl_Bk_29 rfl rfl rfl (Nat.le_of_ble_eq_true rfl) d_Bk_takeNextPage_25 (fun HX oX zP zD zS => ?_)
  have zP : va_P g.1 cls (wBk g b0 b1 (va_cpy tg bv (pg * 4) (pg * 4) 4) pr fi st cp en (pg + 1) ++ wAI g q0 tg) HX := zP
  have zD : va_D AX (wBk g b0 b1 (va_cpy tg bv (pg * 4) (pg * 4) 4) pr fi st cp en (pg + 1) ++ wAI g q0 tg) := zD
  refine lv_bipush (v := (nI 8)) zx zb d_Bk_takeNextPage_28 (by decide) ?_
  refine lv_aload_n zx zb d_Bk_takeNextPage_30 rfl (lv_at zl 1 rfl) ?_
  refine wv_get zx zb zg hin_Bk rfl zo zK zP 0 rfl 6 (by decide) rfl fl_Bk_29 rfl d_Bk_takeNextPage_31 ?_
  refine wv_isub zx zb d_Bk_takeNextPage_34 (pk_sub (by omega)) ?_
  exact ct_iret zQ zx zb zr zk zP zD zS d_Bk_takeNextPage_35 rfl (⟨rfl, rfl⟩)
