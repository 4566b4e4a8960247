theorem wd_oi : Cond.instanceMethod Lib.objectInit ∈ GW := gm 35 (by decide +kernel) rfl
theorem wd_oc : Cond.code Lib.objectInit ⟨#[0xb1]⟩ 1 none ∈ GW := gm 36 (by decide +kernel) rfl
theorem ii_X : Cond.initialized R_X ∈ GW := gm 19 (by decide +kernel) rfl
theorem ii_Log : Cond.initialized R_Log ∈ GW := gm 20 (by decide +kernel) rfl
theorem ii_Tr : Cond.initialized R_Tr ∈ GW := gm 21 (by decide +kernel) rfl
theorem ii_Pg : Cond.initialized R_Pg ∈ GW := gm 22 (by decide +kernel) rfl
theorem ii_Ar : Cond.initialized R_Ar ∈ GW := gm 23 (by decide +kernel) rfl
theorem ii_Rs : Cond.initialized R_Rs ∈ GW := gm 24 (by decide +kernel) rfl
theorem ii_Bk : Cond.initialized R_Bk ∈ GW := gm 25 (by decide +kernel) rfl
theorem ii_M : Cond.initialized R_M ∈ GW := gm 26 (by decide +kernel) rfl
theorem cl_Law_7 : Cond.classLink "TornBackupsLaw" 7 R_X ∈ GW := gm 29 (by decide +kernel) rfl
theorem in_X : Cond.instantiable R_X 7 ∈ GW := gm 30 (by decide +kernel) rfl
theorem ml_Law_9 : Cond.methodLink "TornBackupsLaw" 9 y_X_init ∈ GW := gm 31 (by decide +kernel) rfl
theorem mo_X : Cond.methodLink R_X 3 Lib.objectInit ∈ GW := gm 34 (by decide +kernel) rfl
theorem cl_X_9 : Cond.classLink R_X 9 R_Log ∈ GW := gm 37 (by decide +kernel) rfl
theorem in_Log : Cond.instantiable R_Log 6 ∈ GW := gm 38 (by decide +kernel) rfl
theorem mo_Log : Cond.methodLink R_Log 3 Lib.objectInit ∈ GW := gm 42 (by decide +kernel) rfl
theorem wd_ai : Cond.arrayClass .int ∈ GW := gm 68 (by decide +kernel) rfl
theorem cl_X_16 : Cond.classLink R_X 16 R_Tr ∈ GW := gm 69 (by decide +kernel) rfl
theorem in_Tr : Cond.instantiable R_Tr 4 ∈ GW := gm 70 (by decide +kernel) rfl
theorem mo_Tr : Cond.methodLink R_Tr 3 Lib.objectInit ∈ GW := gm 74 (by decide +kernel) rfl
theorem cl_X_23 : Cond.classLink R_X 23 R_Pg ∈ GW := gm 89 (by decide +kernel) rfl
theorem in_Pg : Cond.instantiable R_Pg 5 ∈ GW := gm 90 (by decide +kernel) rfl
theorem mo_Pg : Cond.methodLink R_Pg 3 Lib.objectInit ∈ GW := gm 94 (by decide +kernel) rfl
theorem cl_X_30 : Cond.classLink R_X 30 R_Ar ∈ GW := gm 114 (by decide +kernel) rfl
theorem in_Ar : Cond.instantiable R_Ar 3 ∈ GW := gm 115 (by decide +kernel) rfl
theorem mo_Ar : Cond.methodLink R_Ar 3 Lib.objectInit ∈ GW := gm 119 (by decide +kernel) rfl
theorem wd_az : Cond.arrayClass .boolean ∈ GW := gm 130 (by decide +kernel) rfl
theorem cl_X_37 : Cond.classLink R_X 37 R_Rs ∈ GW := gm 131 (by decide +kernel) rfl
theorem in_Rs : Cond.instantiable R_Rs 3 ∈ GW := gm 132 (by decide +kernel) rfl
theorem mo_Rs : Cond.methodLink R_Rs 3 Lib.objectInit ∈ GW := gm 136 (by decide +kernel) rfl
theorem cl_Rs_15 : Cond.classLink R_Rs 15 R_Tr ∈ GW := gm 137 (by decide +kernel) rfl
theorem cl_X_44 : Cond.classLink R_X 44 R_Bk ∈ GW := gm 151 (by decide +kernel) rfl
theorem in_Bk : Cond.instantiable R_Bk 7 ∈ GW := gm 153 (by decide +kernel) rfl
theorem mo_Bk : Cond.methodLink R_Bk 3 Lib.objectInit ∈ GW := gm 157 (by decide +kernel) rfl
theorem ml_Law_13 : Cond.methodLink "TornBackupsLaw" 13 y_X_set ∈ GW := gm 209 (by decide +kernel) rfl
theorem ml_Law_18 : Cond.methodLink "TornBackupsLaw" 18 y_X_commit ∈ GW := gm 243 (by decide +kernel) rfl
theorem ml_Law_23 : Cond.methodLink "TornBackupsLaw" 23 y_X_abort ∈ GW := gm 278 (by decide +kernel) rfl
theorem ml_Law_27 : Cond.methodLink "TornBackupsLaw" 27 y_X_get ∈ GW := gm 282 (by decide +kernel) rfl
theorem ml_Law_31 : Cond.methodLink "TornBackupsLaw" 31 y_X_sync ∈ GW := gm 286 (by decide +kernel) rfl
theorem ml_Law_36 : Cond.methodLink "TornBackupsLaw" 36 y_X_flush ∈ GW := gm 305 (by decide +kernel) rfl
theorem ml_Law_40 : Cond.methodLink "TornBackupsLaw" 40 y_X_checkpoint ∈ GW := gm 322 (by decide +kernel) rfl
theorem ml_Law_44 : Cond.methodLink "TornBackupsLaw" 44 y_X_crash ∈ GW := gm 337 (by decide +kernel) rfl
theorem ml_Law_48 : Cond.methodLink "TornBackupsLaw" 48 y_X_backup ∈ GW := gm 359 (by decide +kernel) rfl
theorem ml_Law_52 : Cond.methodLink "TornBackupsLaw" 52 y_X_copy ∈ GW := gm 371 (by decide +kernel) rfl
theorem ml_Law_56 : Cond.methodLink "TornBackupsLaw" 56 y_X_forget ∈ GW := gm 384 (by decide +kernel) rfl
theorem ml_Law_61 : Cond.methodLink "TornBackupsLaw" 61 y_X_bound ∈ GW := gm 392 (by decide +kernel) rfl
theorem ml_Law_66 : Cond.methodLink "TornBackupsLaw" 66 y_X_archive ∈ GW := gm 396 (by decide +kernel) rfl
theorem ml_Law_70 : Cond.methodLink "TornBackupsLaw" 70 y_X_drop ∈ GW := gm 412 (by decide +kernel) rfl
theorem ml_Law_74 : Cond.methodLink "TornBackupsLaw" 74 y_X_restore ∈ GW := gm 424 (by decide +kernel) rfl
theorem ml_Law_78 : Cond.methodLink "TornBackupsLaw" 78 y_X_restored ∈ GW := gm 454 (by decide +kernel) rfl
theorem ml_Law_82 : Cond.methodLink "TornBackupsLaw" 82 y_X_replayed ∈ GW := gm 458 (by decide +kernel) rfl
theorem ml_Law_86 : Cond.methodLink "TornBackupsLaw" 86 y_X_reach ∈ GW := gm 462 (by decide +kernel) rfl
theorem ml_Law_90 : Cond.methodLink "TornBackupsLaw" 90 y_X_position ∈ GW := gm 467 (by decide +kernel) rfl
theorem ml_Law_94 : Cond.methodLink "TornBackupsLaw" 94 y_X_dirty ∈ GW := gm 471 (by decide +kernel) rfl
theorem cl_Law_10 : Cond.classLink "TornBackupsLaw" 10 R_M ∈ GW := gm 479 (by decide +kernel) rfl
theorem in_M : Cond.instantiable R_M 16 ∈ GW := gm 480 (by decide +kernel) rfl
theorem ml_Law_12 : Cond.methodLink "TornBackupsLaw" 12 y_M_init ∈ GW := gm 481 (by decide +kernel) rfl
theorem mo_M : Cond.methodLink R_M 1 Lib.objectInit ∈ GW := gm 484 (by decide +kernel) rfl
theorem ml_Law_17 : Cond.methodLink "TornBackupsLaw" 17 y_M_set ∈ GW := gm 534 (by decide +kernel) rfl
theorem ml_Law_22 : Cond.methodLink "TornBackupsLaw" 22 y_M_commit ∈ GW := gm 553 (by decide +kernel) rfl
theorem ml_Law_26 : Cond.methodLink "TornBackupsLaw" 26 y_M_abort ∈ GW := gm 565 (by decide +kernel) rfl
theorem ml_Law_30 : Cond.methodLink "TornBackupsLaw" 30 y_M_get ∈ GW := gm 569 (by decide +kernel) rfl
theorem ml_Law_35 : Cond.methodLink "TornBackupsLaw" 35 y_M_sync ∈ GW := gm 581 (by decide +kernel) rfl
theorem ml_Law_39 : Cond.methodLink "TornBackupsLaw" 39 y_M_flush ∈ GW := gm 585 (by decide +kernel) rfl
theorem ml_Law_43 : Cond.methodLink "TornBackupsLaw" 43 y_M_checkpoint ∈ GW := gm 593 (by decide +kernel) rfl
theorem ml_Law_47 : Cond.methodLink "TornBackupsLaw" 47 y_M_crash ∈ GW := gm 597 (by decide +kernel) rfl
theorem ml_Law_51 : Cond.methodLink "TornBackupsLaw" 51 y_M_backup ∈ GW := gm 601 (by decide +kernel) rfl
theorem ml_Law_55 : Cond.methodLink "TornBackupsLaw" 55 y_M_copy ∈ GW := gm 610 (by decide +kernel) rfl
theorem ml_Law_60 : Cond.methodLink "TornBackupsLaw" 60 y_M_forget ∈ GW := gm 614 (by decide +kernel) rfl
theorem ml_Law_65 : Cond.methodLink "TornBackupsLaw" 65 y_M_bound ∈ GW := gm 622 (by decide +kernel) rfl
theorem ml_Law_69 : Cond.methodLink "TornBackupsLaw" 69 y_M_archive ∈ GW := gm 626 (by decide +kernel) rfl
theorem ml_Law_73 : Cond.methodLink "TornBackupsLaw" 73 y_M_drop ∈ GW := gm 634 (by decide +kernel) rfl
theorem ml_Law_77 : Cond.methodLink "TornBackupsLaw" 77 y_M_restore ∈ GW := gm 638 (by decide +kernel) rfl
theorem ml_Law_81 : Cond.methodLink "TornBackupsLaw" 81 y_M_restored ∈ GW := gm 646 (by decide +kernel) rfl
theorem ml_Law_85 : Cond.methodLink "TornBackupsLaw" 85 y_M_replayed ∈ GW := gm 650 (by decide +kernel) rfl
theorem ml_Law_89 : Cond.methodLink "TornBackupsLaw" 89 y_M_reach ∈ GW := gm 654 (by decide +kernel) rfl
theorem ml_Law_93 : Cond.methodLink "TornBackupsLaw" 93 y_M_position ∈ GW := gm 658 (by decide +kernel) rfl
theorem ml_Law_97 : Cond.methodLink "TornBackupsLaw" 97 y_M_dirty ∈ GW := gm 662 (by decide +kernel) rfl
theorem oi_X : Cond.instanceMethod y_X_init ∈ GW := gm 32 (by decide +kernel) rfl
theorem oi_Log : Cond.instanceMethod y_Log_init ∈ GW := gm 40 (by decide +kernel) rfl
theorem oi_Tr : Cond.instanceMethod y_Tr_init ∈ GW := gm 72 (by decide +kernel) rfl
theorem oi_Pg : Cond.instanceMethod y_Pg_init ∈ GW := gm 92 (by decide +kernel) rfl
theorem oi_Bk : Cond.instanceMethod y_Bk_init ∈ GW := gm 155 (by decide +kernel) rfl
theorem oi_Ar : Cond.instanceMethod y_Ar_init ∈ GW := gm 117 (by decide +kernel) rfl
theorem oi_Rs : Cond.instanceMethod y_Rs_init ∈ GW := gm 134 (by decide +kernel) rfl
theorem oi_M : Cond.instanceMethod y_M_init ∈ GW := gm 482 (by decide +kernel) rfl
set_option maxRecDepth 20000 in
theorem ctn_Log (lL : Launch) (g : Gt) (a0 : Nat) : Cn lL g y_Log_init (.code y_Log_init b_Log_init 1 none) 1 4 2048 12 [.ref a0] [(a0, .inr (1, [.null, .null, .null, .null, .int (nI 0), .int (nI 0)]))] (fun u => ∃ a1 a2 a3 a4 : Nat, u = wLog g a0 a1 a2 a3 a4 (fun _ => 0) (fun _ => 0) (fun _ => 0) (fun _ => nI 0) 0 0) := by
  refine Cn.ofW (by decide) rfl (Nat.le_of_ble_eq_true rfl) ?_
  intro pX eX sX mX aX bX tX cX AX lsX HX oX QX zx zb zr zk zi zm zo zg zK zP zD zA zS zQ zl
  have zo : sX.vm.findClass R_Log = some mX.cls := zo
  have zl : lv_has lsX 1 [(0, .ref a0)] := zl
  refine lv_aload_n zx zb d_Log_init_0 rfl (lv_at zl 0 rfl) ?_
  refine wv_obj zx zb zg zo mo_Log wd_oi wd_oc (zm.trans zl.1.symm) d_Log_init_1 (by decide) (by decide) ?_
  refine lv_aload_n zx zb d_Log_init_4 rfl (lv_at zl 0 rfl) ?_
  refine lv_sipush (v := nI 512) zx zb d_Log_init_5 (by decide) ?_
  refine wv_newi (k := 1) (j := 512) zx zb zg wd_ai zK zP zD zS zA (by decide) (by decide) (by decide) rfl rfl d_Log_init_8 (fun a1 HX zP zD zS => ?_)
  have zP : va_P g.1 cls [(a0, .inr (1, [.null, .null, .null, .null, .int (nI 0), .int (nI 0)])), (a1, .inl (g.2.1, 512, .inl (fun _ => nI 0)))] HX := zP
  have zD : va_D AX [(a0, .inr (1, [.null, .null, .null, .null, .int (nI 0), .int (nI 0)])), (a1, .inl (g.2.1, 512, .inl (fun _ => nI 0)))] := zD
  refine wv_putF zx zb zg hin_Log rfl t_Log t_Log_ok n_Log zo zi zK zP zD zS 0 rfl 0 (by decide) rfl fl_Log_9 rfl rfl rfl (Nat.le_of_ble_eq_true rfl) d_Log_init_10 (fun HX oX zP zD zS => ?_)
  have zP : va_P g.1 cls [(a0, .inr (1, [.ref a1, .null, .null, .null, .int (nI 0), .int (nI 0)])), (a1, .inl (g.2.1, 512, .inl (fun _ => nI 0)))] HX := zP
  have zD : va_D AX [(a0, .inr (1, [.ref a1, .null, .null, .null, .int (nI 0), .int (nI 0)])), (a1, .inl (g.2.1, 512, .inl (fun _ => nI 0)))] := zD
  refine lv_aload_n zx zb d_Log_init_13 rfl (lv_at zl 0 rfl) ?_
  refine lv_sipush (v := nI 512) zx zb d_Log_init_14 (by decide) ?_
  refine wv_newi (k := 2) (j := 1024) zx zb zg wd_ai zK zP zD zS zA (by decide) (by decide) (by decide) rfl rfl d_Log_init_17 (fun a2 HX zP zD zS => ?_)
  have zP : va_P g.1 cls [(a0, .inr (1, [.ref a1, .null, .null, .null, .int (nI 0), .int (nI 0)])), (a1, .inl (g.2.1, 512, .inl (fun _ => nI 0))), (a2, .inl (g.2.1, 512, .inl (fun _ => nI 0)))] HX := zP
  have zD : va_D AX [(a0, .inr (1, [.ref a1, .null, .null, .null, .int (nI 0), .int (nI 0)])), (a1, .inl (g.2.1, 512, .inl (fun _ => nI 0))), (a2, .inl (g.2.1, 512, .inl (fun _ => nI 0)))] := zD
  refine wv_putF zx zb zg hin_Log rfl t_Log t_Log_ok n_Log zo zi zK zP zD zS 0 rfl 1 (by decide) rfl fl_Log_15 rfl rfl rfl (Nat.le_of_ble_eq_true rfl) d_Log_init_19 (fun HX oX zP zD zS => ?_)
  have zP : va_P g.1 cls [(a0, .inr (1, [.ref a1, .ref a2, .null, .null, .int (nI 0), .int (nI 0)])), (a1, .inl (g.2.1, 512, .inl (fun _ => nI 0))), (a2, .inl (g.2.1, 512, .inl (fun _ => nI 0)))] HX := zP
  have zD : va_D AX [(a0, .inr (1, [.ref a1, .ref a2, .null, .null, .int (nI 0), .int (nI 0)])), (a1, .inl (g.2.1, 512, .inl (fun _ => nI 0))), (a2, .inl (g.2.1, 512, .inl (fun _ => nI 0)))] := zD
  refine lv_aload_n zx zb d_Log_init_22 rfl (lv_at zl 0 rfl) ?_
  refine lv_sipush (v := nI 512) zx zb d_Log_init_23 (by decide) ?_
  refine wv_newi (k := 3) (j := 1536) zx zb zg wd_ai zK zP zD zS zA (by decide) (by decide) (by decide) rfl rfl d_Log_init_26 (fun a3 HX zP zD zS => ?_)
  have zP : va_P g.1 cls [(a0, .inr (1, [.ref a1, .ref a2, .null, .null, .int (nI 0), .int (nI 0)])), (a1, .inl (g.2.1, 512, .inl (fun _ => nI 0))), (a2, .inl (g.2.1, 512, .inl (fun _ => nI 0))), (a3, .inl (g.2.1, 512, .inl (fun _ => nI 0)))] HX := zP
  have zD : va_D AX [(a0, .inr (1, [.ref a1, .ref a2, .null, .null, .int (nI 0), .int (nI 0)])), (a1, .inl (g.2.1, 512, .inl (fun _ => nI 0))), (a2, .inl (g.2.1, 512, .inl (fun _ => nI 0))), (a3, .inl (g.2.1, 512, .inl (fun _ => nI 0)))] := zD
  refine wv_putF zx zb zg hin_Log rfl t_Log t_Log_ok n_Log zo zi zK zP zD zS 0 rfl 2 (by decide) rfl fl_Log_18 rfl rfl rfl (Nat.le_of_ble_eq_true rfl) d_Log_init_28 (fun HX oX zP zD zS => ?_)
  have zP : va_P g.1 cls [(a0, .inr (1, [.ref a1, .ref a2, .ref a3, .null, .int (nI 0), .int (nI 0)])), (a1, .inl (g.2.1, 512, .inl (fun _ => nI 0))), (a2, .inl (g.2.1, 512, .inl (fun _ => nI 0))), (a3, .inl (g.2.1, 512, .inl (fun _ => nI 0)))] HX := zP
  have zD : va_D AX [(a0, .inr (1, [.ref a1, .ref a2, .ref a3, .null, .int (nI 0), .int (nI 0)])), (a1, .inl (g.2.1, 512, .inl (fun _ => nI 0))), (a2, .inl (g.2.1, 512, .inl (fun _ => nI 0))), (a3, .inl (g.2.1, 512, .inl (fun _ => nI 0)))] := zD
  refine lv_aload_n zx zb d_Log_init_31 rfl (lv_at zl 0 rfl) ?_
  refine lv_sipush (v := nI 512) zx zb d_Log_init_32 (by decide) ?_
  refine wv_newi (k := 4) (j := 2048) zx zb zg wd_ai zK zP zD zS zA (by decide) (by decide) (by decide) rfl rfl d_Log_init_35 (fun a4 HX zP zD zS => ?_)
  have zP : va_P g.1 cls [(a0, .inr (1, [.ref a1, .ref a2, .ref a3, .null, .int (nI 0), .int (nI 0)])), (a1, .inl (g.2.1, 512, .inl (fun _ => nI 0))), (a2, .inl (g.2.1, 512, .inl (fun _ => nI 0))), (a3, .inl (g.2.1, 512, .inl (fun _ => nI 0))), (a4, .inl (g.2.1, 512, .inl (fun _ => nI 0)))] HX := zP
  have zD : va_D AX [(a0, .inr (1, [.ref a1, .ref a2, .ref a3, .null, .int (nI 0), .int (nI 0)])), (a1, .inl (g.2.1, 512, .inl (fun _ => nI 0))), (a2, .inl (g.2.1, 512, .inl (fun _ => nI 0))), (a3, .inl (g.2.1, 512, .inl (fun _ => nI 0))), (a4, .inl (g.2.1, 512, .inl (fun _ => nI 0)))] := zD
  refine wv_putF zx zb zg hin_Log rfl t_Log t_Log_ok n_Log zo zi zK zP zD zS 0 rfl 3 (by decide) rfl fl_Log_21 rfl rfl rfl (Nat.le_of_ble_eq_true rfl) d_Log_init_37 (fun HX oX zP zD zS => ?_)
  have zP : va_P g.1 cls [(a0, .inr (1, [.ref a1, .ref a2, .ref a3, .ref a4, .int (nI 0), .int (nI 0)])), (a1, .inl (g.2.1, 512, .inl (fun _ => nI 0))), (a2, .inl (g.2.1, 512, .inl (fun _ => nI 0))), (a3, .inl (g.2.1, 512, .inl (fun _ => nI 0))), (a4, .inl (g.2.1, 512, .inl (fun _ => nI 0)))] HX := zP
  have zD : va_D AX [(a0, .inr (1, [.ref a1, .ref a2, .ref a3, .ref a4, .int (nI 0), .int (nI 0)])), (a1, .inl (g.2.1, 512, .inl (fun _ => nI 0))), (a2, .inl (g.2.1, 512, .inl (fun _ => nI 0))), (a3, .inl (g.2.1, 512, .inl (fun _ => nI 0))), (a4, .inl (g.2.1, 512, .inl (fun _ => nI 0)))] := zD
  exact cn_ret zQ zx zb zr zk zP zD zS d_Log_init_40 ⟨a1, a2, a3, a4, rfl⟩
set_option maxRecDepth 20000 in
theorem ctn_Tr (lL : Launch) (g : Gt) (a0 : Nat) : Cn lL g y_Tr_init (.code y_Tr_init b_Tr_init 1 none) 1 4 30 12 [.ref a0] [(a0, .inr (2, [.null, .null, .null, .null]))] (fun u => ∃ a1 a2 a3 a4 : Nat, u = wTr g a0 a1 a2 a3 a4 (fun _ => 0) (fun _ => 0) (fun _ => 0) (fun _ => nI 0)) := by
  refine Cn.ofW (by decide) rfl (Nat.le_of_ble_eq_true rfl) ?_
  intro pX eX sX mX aX bX tX cX AX lsX HX oX QX zx zb zr zk zi zm zo zg zK zP zD zA zS zQ zl
  have zo : sX.vm.findClass R_Tr = some mX.cls := zo
  have zl : lv_has lsX 1 [(0, .ref a0)] := zl
  refine lv_aload_n zx zb d_Tr_init_0 rfl (lv_at zl 0 rfl) ?_
  refine wv_obj zx zb zg zo mo_Tr wd_oi wd_oc (zm.trans zl.1.symm) d_Tr_init_1 (by decide) (by decide) ?_
  refine lv_aload_n zx zb d_Tr_init_4 rfl (lv_at zl 0 rfl) ?_
  refine lv_iconst (v := nI 3) zx zb d_Tr_init_5 (by decide) ?_
  refine wv_newi (k := 1) (j := 3) zx zb zg wd_ai zK zP zD zS zA (by decide) (by decide) (by decide) rfl rfl d_Tr_init_6 (fun a1 HX zP zD zS => ?_)
  have zP : va_P g.1 cls [(a0, .inr (2, [.null, .null, .null, .null])), (a1, .inl (g.2.1, 3, .inl (fun _ => nI 0)))] HX := zP
  have zD : va_D AX [(a0, .inr (2, [.null, .null, .null, .null])), (a1, .inl (g.2.1, 3, .inl (fun _ => nI 0)))] := zD
  refine wv_putF zx zb zg hin_Tr rfl t_Tr t_Tr_ok n_Tr zo zi zK zP zD zS 0 rfl 0 (by decide) rfl fl_Tr_9 rfl rfl rfl (Nat.le_of_ble_eq_true rfl) d_Tr_init_8 (fun HX oX zP zD zS => ?_)
  have zP : va_P g.1 cls [(a0, .inr (2, [.ref a1, .null, .null, .null])), (a1, .inl (g.2.1, 3, .inl (fun _ => nI 0)))] HX := zP
  have zD : va_D AX [(a0, .inr (2, [.ref a1, .null, .null, .null])), (a1, .inl (g.2.1, 3, .inl (fun _ => nI 0)))] := zD
  refine lv_aload_n zx zb d_Tr_init_11 rfl (lv_at zl 0 rfl) ?_
  refine lv_iconst (v := nI 3) zx zb d_Tr_init_12 (by decide) ?_
  refine wv_newi (k := 2) (j := 6) zx zb zg wd_ai zK zP zD zS zA (by decide) (by decide) (by decide) rfl rfl d_Tr_init_13 (fun a2 HX zP zD zS => ?_)
  have zP : va_P g.1 cls [(a0, .inr (2, [.ref a1, .null, .null, .null])), (a1, .inl (g.2.1, 3, .inl (fun _ => nI 0))), (a2, .inl (g.2.1, 3, .inl (fun _ => nI 0)))] HX := zP
  have zD : va_D AX [(a0, .inr (2, [.ref a1, .null, .null, .null])), (a1, .inl (g.2.1, 3, .inl (fun _ => nI 0))), (a2, .inl (g.2.1, 3, .inl (fun _ => nI 0)))] := zD
  refine wv_putF zx zb zg hin_Tr rfl t_Tr t_Tr_ok n_Tr zo zi zK zP zD zS 0 rfl 1 (by decide) rfl fl_Tr_15 rfl rfl rfl (Nat.le_of_ble_eq_true rfl) d_Tr_init_15 (fun HX oX zP zD zS => ?_)
  have zP : va_P g.1 cls [(a0, .inr (2, [.ref a1, .ref a2, .null, .null])), (a1, .inl (g.2.1, 3, .inl (fun _ => nI 0))), (a2, .inl (g.2.1, 3, .inl (fun _ => nI 0)))] HX := zP
  have zD : va_D AX [(a0, .inr (2, [.ref a1, .ref a2, .null, .null])), (a1, .inl (g.2.1, 3, .inl (fun _ => nI 0))), (a2, .inl (g.2.1, 3, .inl (fun _ => nI 0)))] := zD
  refine lv_aload_n zx zb d_Tr_init_18 rfl (lv_at zl 0 rfl) ?_
  refine lv_bipush (v := nI 12) zx zb d_Tr_init_19 (by decide) ?_
  refine wv_newi (k := 3) (j := 18) zx zb zg wd_ai zK zP zD zS zA (by decide) (by decide) (by decide) rfl rfl d_Tr_init_21 (fun a3 HX zP zD zS => ?_)
  have zP : va_P g.1 cls [(a0, .inr (2, [.ref a1, .ref a2, .null, .null])), (a1, .inl (g.2.1, 3, .inl (fun _ => nI 0))), (a2, .inl (g.2.1, 3, .inl (fun _ => nI 0))), (a3, .inl (g.2.1, 12, .inl (fun _ => nI 0)))] HX := zP
  have zD : va_D AX [(a0, .inr (2, [.ref a1, .ref a2, .null, .null])), (a1, .inl (g.2.1, 3, .inl (fun _ => nI 0))), (a2, .inl (g.2.1, 3, .inl (fun _ => nI 0))), (a3, .inl (g.2.1, 12, .inl (fun _ => nI 0)))] := zD
  refine wv_putF zx zb zg hin_Tr rfl t_Tr t_Tr_ok n_Tr zo zi zK zP zD zS 0 rfl 2 (by decide) rfl fl_Tr_18 rfl rfl rfl (Nat.le_of_ble_eq_true rfl) d_Tr_init_23 (fun HX oX zP zD zS => ?_)
  have zP : va_P g.1 cls [(a0, .inr (2, [.ref a1, .ref a2, .ref a3, .null])), (a1, .inl (g.2.1, 3, .inl (fun _ => nI 0))), (a2, .inl (g.2.1, 3, .inl (fun _ => nI 0))), (a3, .inl (g.2.1, 12, .inl (fun _ => nI 0)))] HX := zP
  have zD : va_D AX [(a0, .inr (2, [.ref a1, .ref a2, .ref a3, .null])), (a1, .inl (g.2.1, 3, .inl (fun _ => nI 0))), (a2, .inl (g.2.1, 3, .inl (fun _ => nI 0))), (a3, .inl (g.2.1, 12, .inl (fun _ => nI 0)))] := zD
  refine lv_aload_n zx zb d_Tr_init_26 rfl (lv_at zl 0 rfl) ?_
  refine lv_bipush (v := nI 12) zx zb d_Tr_init_27 (by decide) ?_
  refine wv_newi (k := 4) (j := 30) zx zb zg wd_ai zK zP zD zS zA (by decide) (by decide) (by decide) rfl rfl d_Tr_init_29 (fun a4 HX zP zD zS => ?_)
  have zP : va_P g.1 cls [(a0, .inr (2, [.ref a1, .ref a2, .ref a3, .null])), (a1, .inl (g.2.1, 3, .inl (fun _ => nI 0))), (a2, .inl (g.2.1, 3, .inl (fun _ => nI 0))), (a3, .inl (g.2.1, 12, .inl (fun _ => nI 0))), (a4, .inl (g.2.1, 12, .inl (fun _ => nI 0)))] HX := zP
  have zD : va_D AX [(a0, .inr (2, [.ref a1, .ref a2, .ref a3, .null])), (a1, .inl (g.2.1, 3, .inl (fun _ => nI 0))), (a2, .inl (g.2.1, 3, .inl (fun _ => nI 0))), (a3, .inl (g.2.1, 12, .inl (fun _ => nI 0))), (a4, .inl (g.2.1, 12, .inl (fun _ => nI 0)))] := zD
  refine wv_putF zx zb zg hin_Tr rfl t_Tr t_Tr_ok n_Tr zo zi zK zP zD zS 0 rfl 3 (by decide) rfl fl_Tr_21 rfl rfl rfl (Nat.le_of_ble_eq_true rfl) d_Tr_init_31 (fun HX oX zP zD zS => ?_)
  have zP : va_P g.1 cls [(a0, .inr (2, [.ref a1, .ref a2, .ref a3, .ref a4])), (a1, .inl (g.2.1, 3, .inl (fun _ => nI 0))), (a2, .inl (g.2.1, 3, .inl (fun _ => nI 0))), (a3, .inl (g.2.1, 12, .inl (fun _ => nI 0))), (a4, .inl (g.2.1, 12, .inl (fun _ => nI 0)))] HX := zP
  have zD : va_D AX [(a0, .inr (2, [.ref a1, .ref a2, .ref a3, .ref a4])), (a1, .inl (g.2.1, 3, .inl (fun _ => nI 0))), (a2, .inl (g.2.1, 3, .inl (fun _ => nI 0))), (a3, .inl (g.2.1, 12, .inl (fun _ => nI 0))), (a4, .inl (g.2.1, 12, .inl (fun _ => nI 0)))] := zD
  exact cn_ret zQ zx zb zr zk zP zD zS d_Tr_init_34 ⟨a1, a2, a3, a4, rfl⟩
set_option maxRecDepth 20000 in
theorem ctn_Pg (lL : Launch) (g : Gt) (a0 : Nat) : Cn lL g y_Pg_init (.code y_Pg_init b_Pg_init 1 none) 1 5 112 12 [.ref a0] [(a0, .inr (3, [.null, .null, .null, .null, .null]))] (fun u => ∃ a1 a2 a3 a4 a5 : Nat, u = wPg g a0 a1 a2 a3 a4 a5 (fun _ => nI 0) (fun _ => nI 0) (fun _ => nI 0) (fun _ => 0) (fun _ => 0)) := by
  refine Cn.ofW (by decide) rfl (Nat.le_of_ble_eq_true rfl) ?_
  intro pX eX sX mX aX bX tX cX AX lsX HX oX QX zx zb zr zk zi zm zo zg zK zP zD zA zS zQ zl
  have zo : sX.vm.findClass R_Pg = some mX.cls := zo
  have zl : lv_has lsX 1 [(0, .ref a0)] := zl
  refine lv_aload_n zx zb d_Pg_init_0 rfl (lv_at zl 0 rfl) ?_
  refine wv_obj zx zb zg zo mo_Pg wd_oi wd_oc (zm.trans zl.1.symm) d_Pg_init_1 (by decide) (by decide) ?_
  refine lv_aload_n zx zb d_Pg_init_4 rfl (lv_at zl 0 rfl) ?_
  refine lv_bipush (v := nI 32) zx zb d_Pg_init_5 (by decide) ?_
  refine wv_newi (k := 1) (j := 32) zx zb zg wd_ai zK zP zD zS zA (by decide) (by decide) (by decide) rfl rfl d_Pg_init_7 (fun a1 HX zP zD zS => ?_)
  have zP : va_P g.1 cls [(a0, .inr (3, [.null, .null, .null, .null, .null])), (a1, .inl (g.2.1, 32, .inl (fun _ => nI 0)))] HX := zP
  have zD : va_D AX [(a0, .inr (3, [.null, .null, .null, .null, .null])), (a1, .inl (g.2.1, 32, .inl (fun _ => nI 0)))] := zD
  refine wv_putF zx zb zg hin_Pg rfl t_Pg t_Pg_ok n_Pg zo zi zK zP zD zS 0 rfl 0 (by decide) rfl fl_Pg_9 rfl rfl rfl (Nat.le_of_ble_eq_true rfl) d_Pg_init_9 (fun HX oX zP zD zS => ?_)
  have zP : va_P g.1 cls [(a0, .inr (3, [.ref a1, .null, .null, .null, .null])), (a1, .inl (g.2.1, 32, .inl (fun _ => nI 0)))] HX := zP
  have zD : va_D AX [(a0, .inr (3, [.ref a1, .null, .null, .null, .null])), (a1, .inl (g.2.1, 32, .inl (fun _ => nI 0)))] := zD
  refine lv_aload_n zx zb d_Pg_init_12 rfl (lv_at zl 0 rfl) ?_
  refine lv_bipush (v := nI 32) zx zb d_Pg_init_13 (by decide) ?_
  refine wv_newi (k := 2) (j := 64) zx zb zg wd_ai zK zP zD zS zA (by decide) (by decide) (by decide) rfl rfl d_Pg_init_15 (fun a2 HX zP zD zS => ?_)
  have zP : va_P g.1 cls [(a0, .inr (3, [.ref a1, .null, .null, .null, .null])), (a1, .inl (g.2.1, 32, .inl (fun _ => nI 0))), (a2, .inl (g.2.1, 32, .inl (fun _ => nI 0)))] HX := zP
  have zD : va_D AX [(a0, .inr (3, [.ref a1, .null, .null, .null, .null])), (a1, .inl (g.2.1, 32, .inl (fun _ => nI 0))), (a2, .inl (g.2.1, 32, .inl (fun _ => nI 0)))] := zD
  refine wv_putF zx zb zg hin_Pg rfl t_Pg t_Pg_ok n_Pg zo zi zK zP zD zS 0 rfl 1 (by decide) rfl fl_Pg_15 rfl rfl rfl (Nat.le_of_ble_eq_true rfl) d_Pg_init_17 (fun HX oX zP zD zS => ?_)
  have zP : va_P g.1 cls [(a0, .inr (3, [.ref a1, .ref a2, .null, .null, .null])), (a1, .inl (g.2.1, 32, .inl (fun _ => nI 0))), (a2, .inl (g.2.1, 32, .inl (fun _ => nI 0)))] HX := zP
  have zD : va_D AX [(a0, .inr (3, [.ref a1, .ref a2, .null, .null, .null])), (a1, .inl (g.2.1, 32, .inl (fun _ => nI 0))), (a2, .inl (g.2.1, 32, .inl (fun _ => nI 0)))] := zD
  refine lv_aload_n zx zb d_Pg_init_20 rfl (lv_at zl 0 rfl) ?_
  refine lv_bipush (v := nI 32) zx zb d_Pg_init_21 (by decide) ?_
  refine wv_newi (k := 3) (j := 96) zx zb zg wd_ai zK zP zD zS zA (by decide) (by decide) (by decide) rfl rfl d_Pg_init_23 (fun a3 HX zP zD zS => ?_)
  have zP : va_P g.1 cls [(a0, .inr (3, [.ref a1, .ref a2, .null, .null, .null])), (a1, .inl (g.2.1, 32, .inl (fun _ => nI 0))), (a2, .inl (g.2.1, 32, .inl (fun _ => nI 0))), (a3, .inl (g.2.1, 32, .inl (fun _ => nI 0)))] HX := zP
  have zD : va_D AX [(a0, .inr (3, [.ref a1, .ref a2, .null, .null, .null])), (a1, .inl (g.2.1, 32, .inl (fun _ => nI 0))), (a2, .inl (g.2.1, 32, .inl (fun _ => nI 0))), (a3, .inl (g.2.1, 32, .inl (fun _ => nI 0)))] := zD
  refine wv_putF zx zb zg hin_Pg rfl t_Pg t_Pg_ok n_Pg zo zi zK zP zD zS 0 rfl 2 (by decide) rfl fl_Pg_18 rfl rfl rfl (Nat.le_of_ble_eq_true rfl) d_Pg_init_25 (fun HX oX zP zD zS => ?_)
  have zP : va_P g.1 cls [(a0, .inr (3, [.ref a1, .ref a2, .ref a3, .null, .null])), (a1, .inl (g.2.1, 32, .inl (fun _ => nI 0))), (a2, .inl (g.2.1, 32, .inl (fun _ => nI 0))), (a3, .inl (g.2.1, 32, .inl (fun _ => nI 0)))] HX := zP
  have zD : va_D AX [(a0, .inr (3, [.ref a1, .ref a2, .ref a3, .null, .null])), (a1, .inl (g.2.1, 32, .inl (fun _ => nI 0))), (a2, .inl (g.2.1, 32, .inl (fun _ => nI 0))), (a3, .inl (g.2.1, 32, .inl (fun _ => nI 0)))] := zD
  refine lv_aload_n zx zb d_Pg_init_28 rfl (lv_at zl 0 rfl) ?_
  refine lv_bipush (v := nI 8) zx zb d_Pg_init_29 (by decide) ?_
  refine wv_newi (k := 4) (j := 104) zx zb zg wd_ai zK zP zD zS zA (by decide) (by decide) (by decide) rfl rfl d_Pg_init_31 (fun a4 HX zP zD zS => ?_)
  have zP : va_P g.1 cls [(a0, .inr (3, [.ref a1, .ref a2, .ref a3, .null, .null])), (a1, .inl (g.2.1, 32, .inl (fun _ => nI 0))), (a2, .inl (g.2.1, 32, .inl (fun _ => nI 0))), (a3, .inl (g.2.1, 32, .inl (fun _ => nI 0))), (a4, .inl (g.2.1, 8, .inl (fun _ => nI 0)))] HX := zP
  have zD : va_D AX [(a0, .inr (3, [.ref a1, .ref a2, .ref a3, .null, .null])), (a1, .inl (g.2.1, 32, .inl (fun _ => nI 0))), (a2, .inl (g.2.1, 32, .inl (fun _ => nI 0))), (a3, .inl (g.2.1, 32, .inl (fun _ => nI 0))), (a4, .inl (g.2.1, 8, .inl (fun _ => nI 0)))] := zD
  refine wv_putF zx zb zg hin_Pg rfl t_Pg t_Pg_ok n_Pg zo zi zK zP zD zS 0 rfl 3 (by decide) rfl fl_Pg_21 rfl rfl rfl (Nat.le_of_ble_eq_true rfl) d_Pg_init_33 (fun HX oX zP zD zS => ?_)
  have zP : va_P g.1 cls [(a0, .inr (3, [.ref a1, .ref a2, .ref a3, .ref a4, .null])), (a1, .inl (g.2.1, 32, .inl (fun _ => nI 0))), (a2, .inl (g.2.1, 32, .inl (fun _ => nI 0))), (a3, .inl (g.2.1, 32, .inl (fun _ => nI 0))), (a4, .inl (g.2.1, 8, .inl (fun _ => nI 0)))] HX := zP
  have zD : va_D AX [(a0, .inr (3, [.ref a1, .ref a2, .ref a3, .ref a4, .null])), (a1, .inl (g.2.1, 32, .inl (fun _ => nI 0))), (a2, .inl (g.2.1, 32, .inl (fun _ => nI 0))), (a3, .inl (g.2.1, 32, .inl (fun _ => nI 0))), (a4, .inl (g.2.1, 8, .inl (fun _ => nI 0)))] := zD
  refine lv_aload_n zx zb d_Pg_init_36 rfl (lv_at zl 0 rfl) ?_
  refine lv_bipush (v := nI 8) zx zb d_Pg_init_37 (by decide) ?_
  refine wv_newi (k := 5) (j := 112) zx zb zg wd_ai zK zP zD zS zA (by decide) (by decide) (by decide) rfl rfl d_Pg_init_39 (fun a5 HX zP zD zS => ?_)
  have zP : va_P g.1 cls [(a0, .inr (3, [.ref a1, .ref a2, .ref a3, .ref a4, .null])), (a1, .inl (g.2.1, 32, .inl (fun _ => nI 0))), (a2, .inl (g.2.1, 32, .inl (fun _ => nI 0))), (a3, .inl (g.2.1, 32, .inl (fun _ => nI 0))), (a4, .inl (g.2.1, 8, .inl (fun _ => nI 0))), (a5, .inl (g.2.1, 8, .inl (fun _ => nI 0)))] HX := zP
  have zD : va_D AX [(a0, .inr (3, [.ref a1, .ref a2, .ref a3, .ref a4, .null])), (a1, .inl (g.2.1, 32, .inl (fun _ => nI 0))), (a2, .inl (g.2.1, 32, .inl (fun _ => nI 0))), (a3, .inl (g.2.1, 32, .inl (fun _ => nI 0))), (a4, .inl (g.2.1, 8, .inl (fun _ => nI 0))), (a5, .inl (g.2.1, 8, .inl (fun _ => nI 0)))] := zD
  refine wv_putF zx zb zg hin_Pg rfl t_Pg t_Pg_ok n_Pg zo zi zK zP zD zS 0 rfl 4 (by decide) rfl fl_Pg_24 rfl rfl rfl (Nat.le_of_ble_eq_true rfl) d_Pg_init_41 (fun HX oX zP zD zS => ?_)
  have zP : va_P g.1 cls [(a0, .inr (3, [.ref a1, .ref a2, .ref a3, .ref a4, .ref a5])), (a1, .inl (g.2.1, 32, .inl (fun _ => nI 0))), (a2, .inl (g.2.1, 32, .inl (fun _ => nI 0))), (a3, .inl (g.2.1, 32, .inl (fun _ => nI 0))), (a4, .inl (g.2.1, 8, .inl (fun _ => nI 0))), (a5, .inl (g.2.1, 8, .inl (fun _ => nI 0)))] HX := zP
  have zD : va_D AX [(a0, .inr (3, [.ref a1, .ref a2, .ref a3, .ref a4, .ref a5])), (a1, .inl (g.2.1, 32, .inl (fun _ => nI 0))), (a2, .inl (g.2.1, 32, .inl (fun _ => nI 0))), (a3, .inl (g.2.1, 32, .inl (fun _ => nI 0))), (a4, .inl (g.2.1, 8, .inl (fun _ => nI 0))), (a5, .inl (g.2.1, 8, .inl (fun _ => nI 0)))] := zD
  exact cn_ret zQ zx zb zr zk zP zD zS d_Pg_init_44 ⟨a1, a2, a3, a4, a5, rfl⟩
set_option maxRecDepth 20000 in
theorem ctn_Bk (lL : Launch) (g : Gt) (a0 : Nat) : Cn lL g y_Bk_init (.code y_Bk_init b_Bk_init 1 none) 1 1 32 12 [.ref a0] [(a0, .inr (4, [.null, .int (nI 0), .int (nI 0), .int (nI 0), .int (nI 0), .int (nI 0), .int (nI 0)]))] (fun u => ∃ a1 : Nat, u = wBk g a0 a1 (fun _ => nI 0) 0 0 0 0 0 0) := by
  refine Cn.ofW (by decide) rfl (Nat.le_of_ble_eq_true rfl) ?_
  intro pX eX sX mX aX bX tX cX AX lsX HX oX QX zx zb zr zk zi zm zo zg zK zP zD zA zS zQ zl
  have zo : sX.vm.findClass R_Bk = some mX.cls := zo
  have zl : lv_has lsX 1 [(0, .ref a0)] := zl
  refine lv_aload_n zx zb d_Bk_init_0 rfl (lv_at zl 0 rfl) ?_
  refine wv_obj zx zb zg zo mo_Bk wd_oi wd_oc (zm.trans zl.1.symm) d_Bk_init_1 (by decide) (by decide) ?_
  refine lv_aload_n zx zb d_Bk_init_4 rfl (lv_at zl 0 rfl) ?_
  refine lv_bipush (v := nI 32) zx zb d_Bk_init_5 (by decide) ?_
  refine wv_newi (k := 1) (j := 32) zx zb zg wd_ai zK zP zD zS zA (by decide) (by decide) (by decide) rfl rfl d_Bk_init_7 (fun a1 HX zP zD zS => ?_)
  have zP : va_P g.1 cls [(a0, .inr (4, [.null, .int (nI 0), .int (nI 0), .int (nI 0), .int (nI 0), .int (nI 0), .int (nI 0)])), (a1, .inl (g.2.1, 32, .inl (fun _ => nI 0)))] HX := zP
  have zD : va_D AX [(a0, .inr (4, [.null, .int (nI 0), .int (nI 0), .int (nI 0), .int (nI 0), .int (nI 0), .int (nI 0)])), (a1, .inl (g.2.1, 32, .inl (fun _ => nI 0)))] := zD
  refine wv_putF zx zb zg hin_Bk rfl t_Bk t_Bk_ok n_Bk zo zi zK zP zD zS 0 rfl 0 (by decide) rfl fl_Bk_9 rfl rfl rfl (Nat.le_of_ble_eq_true rfl) d_Bk_init_9 (fun HX oX zP zD zS => ?_)
  have zP : va_P g.1 cls [(a0, .inr (4, [.ref a1, .int (nI 0), .int (nI 0), .int (nI 0), .int (nI 0), .int (nI 0), .int (nI 0)])), (a1, .inl (g.2.1, 32, .inl (fun _ => nI 0)))] HX := zP
  have zD : va_D AX [(a0, .inr (4, [.ref a1, .int (nI 0), .int (nI 0), .int (nI 0), .int (nI 0), .int (nI 0), .int (nI 0)])), (a1, .inl (g.2.1, 32, .inl (fun _ => nI 0)))] := zD
  exact cn_ret zQ zx zb zr zk zP zD zS d_Bk_init_12 ⟨a1, rfl⟩
set_option maxRecDepth 20000 in
theorem ctn_Ar (lL : Launch) (g : Gt) (a0 : Nat) : Cn lL g y_Ar_init (.code y_Ar_init b_Ar_init 1 none) 1 1 64 12 [.ref a0] [(a0, .inr (5, [.null, .int (nI 0), .int (nI 0)]))] (fun u => ∃ a1 : Nat, u = wAr g a0 a1 (fun _ => 0) 0 0) := by
  refine Cn.ofW (by decide) rfl (Nat.le_of_ble_eq_true rfl) ?_
  intro pX eX sX mX aX bX tX cX AX lsX HX oX QX zx zb zr zk zi zm zo zg zK zP zD zA zS zQ zl
  have zo : sX.vm.findClass R_Ar = some mX.cls := zo
  have zl : lv_has lsX 1 [(0, .ref a0)] := zl
  refine lv_aload_n zx zb d_Ar_init_0 rfl (lv_at zl 0 rfl) ?_
  refine wv_obj zx zb zg zo mo_Ar wd_oi wd_oc (zm.trans zl.1.symm) d_Ar_init_1 (by decide) (by decide) ?_
  refine lv_aload_n zx zb d_Ar_init_4 rfl (lv_at zl 0 rfl) ?_
  refine lv_bipush (v := nI 64) zx zb d_Ar_init_5 (by decide) ?_
  refine wv_newz (k := 1) (j := 64) zx zb zg wd_az zK zP zD zS zA (by decide) (by decide) (by decide) rfl rfl d_Ar_init_7 (fun a1 HX zP zD zS => ?_)
  have zP : va_P g.1 cls [(a0, .inr (5, [.null, .int (nI 0), .int (nI 0)])), (a1, .inl (g.2.2.1, 64, .inl (fun _ => nI 0)))] HX := zP
  have zD : va_D AX [(a0, .inr (5, [.null, .int (nI 0), .int (nI 0)])), (a1, .inl (g.2.2.1, 64, .inl (fun _ => nI 0)))] := zD
  refine wv_putF zx zb zg hin_Ar rfl t_Ar t_Ar_ok n_Ar zo zi zK zP zD zS 0 rfl 0 (by decide) rfl fl_Ar_9 rfl rfl rfl (Nat.le_of_ble_eq_true rfl) d_Ar_init_9 (fun HX oX zP zD zS => ?_)
  have zP : va_P g.1 cls [(a0, .inr (5, [.ref a1, .int (nI 0), .int (nI 0)])), (a1, .inl (g.2.2.1, 64, .inl (fun _ => nI 0)))] HX := zP
  have zD : va_D AX [(a0, .inr (5, [.ref a1, .int (nI 0), .int (nI 0)])), (a1, .inl (g.2.2.1, 64, .inl (fun _ => nI 0)))] := zD
  exact cn_ret zQ zx zb zr zk zP zD zS d_Ar_init_12 ⟨a1, rfl⟩
set_option maxRecDepth 20000 in
theorem ctn_M (lL : Launch) (g : Gt) (a0 : Nat) : Cn lL g y_M_init (.code y_M_init b_M_init 1 none) 1 10 2166 12 [.ref a0] [(a0, .inr (7, [.int (nI 0), .int (nI 0), .null, .null, .null, .null, .null, .null, .null, .null, .null, .int (nI 0), .null, .int (nI 0), .int (nI 0), .int (nI 0)]))] (fun u => ∃ a1 a2 a3 a4 a5 a6 a7 a8 a9 a10 : Nat, u = wM g a0 a1 a2 a3 a4 a5 a6 a7 a8 a9 a10 0 0 (fun _ => 0) (fun _ => nI 0) (fun _ => 0) (fun _ => nI 0) (fun _ => 0) (fun _ => 0) (fun _ => 0) (fun _ => 0) (fun _ => 0) 0 (fun _ => 0) 0 0 0) := by
  refine Cn.ofW (by decide) rfl (Nat.le_of_ble_eq_true rfl) ?_
  intro pX eX sX mX aX bX tX cX AX lsX HX oX QX zx zb zr zk zi zm zo zg zK zP zD zA zS zQ zl
  have zo : sX.vm.findClass R_M = some mX.cls := zo
  have zl : lv_has lsX 1 [(0, .ref a0)] := zl
  refine lv_aload_n zx zb d_M_init_0 rfl (lv_at zl 0 rfl) ?_
  refine wv_obj zx zb zg zo mo_M wd_oi wd_oc (zm.trans zl.1.symm) d_M_init_1 (by decide) (by decide) ?_
  refine lv_aload_n zx zb d_M_init_4 rfl (lv_at zl 0 rfl) ?_
  refine lv_sipush (v := nI 520) zx zb d_M_init_5 (by decide) ?_
  refine wv_newi (k := 1) (j := 520) zx zb zg wd_ai zK zP zD zS zA (by decide) (by decide) (by decide) rfl rfl d_M_init_8 (fun a1 HX zP zD zS => ?_)
  have zP : va_P g.1 cls [(a0, .inr (7, [.int (nI 0), .int (nI 0), .null, .null, .null, .null, .null, .null, .null, .null, .null, .int (nI 0), .null, .int (nI 0), .int (nI 0), .int (nI 0)])), (a1, .inl (g.2.1, 520, .inl (fun _ => nI 0)))] HX := zP
  have zD : va_D AX [(a0, .inr (7, [.int (nI 0), .int (nI 0), .null, .null, .null, .null, .null, .null, .null, .null, .null, .int (nI 0), .null, .int (nI 0), .int (nI 0), .int (nI 0)])), (a1, .inl (g.2.1, 520, .inl (fun _ => nI 0)))] := zD
  refine wv_putF zx zb zg hin_M rfl t_M t_M_ok n_M zo zi zK zP zD zS 0 rfl 2 (by decide) rfl fl_M_7 rfl rfl rfl (Nat.le_of_ble_eq_true rfl) d_M_init_10 (fun HX oX zP zD zS => ?_)
  have zP : va_P g.1 cls [(a0, .inr (7, [.int (nI 0), .int (nI 0), .ref a1, .null, .null, .null, .null, .null, .null, .null, .null, .int (nI 0), .null, .int (nI 0), .int (nI 0), .int (nI 0)])), (a1, .inl (g.2.1, 520, .inl (fun _ => nI 0)))] HX := zP
  have zD : va_D AX [(a0, .inr (7, [.int (nI 0), .int (nI 0), .ref a1, .null, .null, .null, .null, .null, .null, .null, .null, .int (nI 0), .null, .int (nI 0), .int (nI 0), .int (nI 0)])), (a1, .inl (g.2.1, 520, .inl (fun _ => nI 0)))] := zD
  refine lv_aload_n zx zb d_M_init_13 rfl (lv_at zl 0 rfl) ?_
  refine lv_sipush (v := nI 520) zx zb d_M_init_14 (by decide) ?_
  refine wv_newi (k := 2) (j := 1040) zx zb zg wd_ai zK zP zD zS zA (by decide) (by decide) (by decide) rfl rfl d_M_init_17 (fun a2 HX zP zD zS => ?_)
  have zP : va_P g.1 cls [(a0, .inr (7, [.int (nI 0), .int (nI 0), .ref a1, .null, .null, .null, .null, .null, .null, .null, .null, .int (nI 0), .null, .int (nI 0), .int (nI 0), .int (nI 0)])), (a1, .inl (g.2.1, 520, .inl (fun _ => nI 0))), (a2, .inl (g.2.1, 520, .inl (fun _ => nI 0)))] HX := zP
  have zD : va_D AX [(a0, .inr (7, [.int (nI 0), .int (nI 0), .ref a1, .null, .null, .null, .null, .null, .null, .null, .null, .int (nI 0), .null, .int (nI 0), .int (nI 0), .int (nI 0)])), (a1, .inl (g.2.1, 520, .inl (fun _ => nI 0))), (a2, .inl (g.2.1, 520, .inl (fun _ => nI 0)))] := zD
  refine wv_putF zx zb zg hin_M rfl t_M t_M_ok n_M zo zi zK zP zD zS 0 rfl 3 (by decide) rfl fl_M_13 rfl rfl rfl (Nat.le_of_ble_eq_true rfl) d_M_init_19 (fun HX oX zP zD zS => ?_)
  have zP : va_P g.1 cls [(a0, .inr (7, [.int (nI 0), .int (nI 0), .ref a1, .ref a2, .null, .null, .null, .null, .null, .null, .null, .int (nI 0), .null, .int (nI 0), .int (nI 0), .int (nI 0)])), (a1, .inl (g.2.1, 520, .inl (fun _ => nI 0))), (a2, .inl (g.2.1, 520, .inl (fun _ => nI 0)))] HX := zP
  have zD : va_D AX [(a0, .inr (7, [.int (nI 0), .int (nI 0), .ref a1, .ref a2, .null, .null, .null, .null, .null, .null, .null, .int (nI 0), .null, .int (nI 0), .int (nI 0), .int (nI 0)])), (a1, .inl (g.2.1, 520, .inl (fun _ => nI 0))), (a2, .inl (g.2.1, 520, .inl (fun _ => nI 0)))] := zD
  refine lv_aload_n zx zb d_M_init_22 rfl (lv_at zl 0 rfl) ?_
  refine lv_sipush (v := nI 520) zx zb d_M_init_23 (by decide) ?_
  refine wv_newi (k := 3) (j := 1560) zx zb zg wd_ai zK zP zD zS zA (by decide) (by decide) (by decide) rfl rfl d_M_init_26 (fun a3 HX zP zD zS => ?_)
  have zP : va_P g.1 cls [(a0, .inr (7, [.int (nI 0), .int (nI 0), .ref a1, .ref a2, .null, .null, .null, .null, .null, .null, .null, .int (nI 0), .null, .int (nI 0), .int (nI 0), .int (nI 0)])), (a1, .inl (g.2.1, 520, .inl (fun _ => nI 0))), (a2, .inl (g.2.1, 520, .inl (fun _ => nI 0))), (a3, .inl (g.2.1, 520, .inl (fun _ => nI 0)))] HX := zP
  have zD : va_D AX [(a0, .inr (7, [.int (nI 0), .int (nI 0), .ref a1, .ref a2, .null, .null, .null, .null, .null, .null, .null, .int (nI 0), .null, .int (nI 0), .int (nI 0), .int (nI 0)])), (a1, .inl (g.2.1, 520, .inl (fun _ => nI 0))), (a2, .inl (g.2.1, 520, .inl (fun _ => nI 0))), (a3, .inl (g.2.1, 520, .inl (fun _ => nI 0)))] := zD
  refine wv_putF zx zb zg hin_M rfl t_M t_M_ok n_M zo zi zK zP zD zS 0 rfl 4 (by decide) rfl fl_M_16 rfl rfl rfl (Nat.le_of_ble_eq_true rfl) d_M_init_28 (fun HX oX zP zD zS => ?_)
  have zP : va_P g.1 cls [(a0, .inr (7, [.int (nI 0), .int (nI 0), .ref a1, .ref a2, .ref a3, .null, .null, .null, .null, .null, .null, .int (nI 0), .null, .int (nI 0), .int (nI 0), .int (nI 0)])), (a1, .inl (g.2.1, 520, .inl (fun _ => nI 0))), (a2, .inl (g.2.1, 520, .inl (fun _ => nI 0))), (a3, .inl (g.2.1, 520, .inl (fun _ => nI 0)))] HX := zP
  have zD : va_D AX [(a0, .inr (7, [.int (nI 0), .int (nI 0), .ref a1, .ref a2, .ref a3, .null, .null, .null, .null, .null, .null, .int (nI 0), .null, .int (nI 0), .int (nI 0), .int (nI 0)])), (a1, .inl (g.2.1, 520, .inl (fun _ => nI 0))), (a2, .inl (g.2.1, 520, .inl (fun _ => nI 0))), (a3, .inl (g.2.1, 520, .inl (fun _ => nI 0)))] := zD
  refine lv_aload_n zx zb d_M_init_31 rfl (lv_at zl 0 rfl) ?_
  refine lv_sipush (v := nI 520) zx zb d_M_init_32 (by decide) ?_
  refine wv_newi (k := 4) (j := 2080) zx zb zg wd_ai zK zP zD zS zA (by decide) (by decide) (by decide) rfl rfl d_M_init_35 (fun a4 HX zP zD zS => ?_)
  have zP : va_P g.1 cls [(a0, .inr (7, [.int (nI 0), .int (nI 0), .ref a1, .ref a2, .ref a3, .null, .null, .null, .null, .null, .null, .int (nI 0), .null, .int (nI 0), .int (nI 0), .int (nI 0)])), (a1, .inl (g.2.1, 520, .inl (fun _ => nI 0))), (a2, .inl (g.2.1, 520, .inl (fun _ => nI 0))), (a3, .inl (g.2.1, 520, .inl (fun _ => nI 0))), (a4, .inl (g.2.1, 520, .inl (fun _ => nI 0)))] HX := zP
  have zD : va_D AX [(a0, .inr (7, [.int (nI 0), .int (nI 0), .ref a1, .ref a2, .ref a3, .null, .null, .null, .null, .null, .null, .int (nI 0), .null, .int (nI 0), .int (nI 0), .int (nI 0)])), (a1, .inl (g.2.1, 520, .inl (fun _ => nI 0))), (a2, .inl (g.2.1, 520, .inl (fun _ => nI 0))), (a3, .inl (g.2.1, 520, .inl (fun _ => nI 0))), (a4, .inl (g.2.1, 520, .inl (fun _ => nI 0)))] := zD
  refine wv_putF zx zb zg hin_M rfl t_M t_M_ok n_M zo zi zK zP zD zS 0 rfl 5 (by decide) rfl fl_M_19 rfl rfl rfl (Nat.le_of_ble_eq_true rfl) d_M_init_37 (fun HX oX zP zD zS => ?_)
  have zP : va_P g.1 cls [(a0, .inr (7, [.int (nI 0), .int (nI 0), .ref a1, .ref a2, .ref a3, .ref a4, .null, .null, .null, .null, .null, .int (nI 0), .null, .int (nI 0), .int (nI 0), .int (nI 0)])), (a1, .inl (g.2.1, 520, .inl (fun _ => nI 0))), (a2, .inl (g.2.1, 520, .inl (fun _ => nI 0))), (a3, .inl (g.2.1, 520, .inl (fun _ => nI 0))), (a4, .inl (g.2.1, 520, .inl (fun _ => nI 0)))] HX := zP
  have zD : va_D AX [(a0, .inr (7, [.int (nI 0), .int (nI 0), .ref a1, .ref a2, .ref a3, .ref a4, .null, .null, .null, .null, .null, .int (nI 0), .null, .int (nI 0), .int (nI 0), .int (nI 0)])), (a1, .inl (g.2.1, 520, .inl (fun _ => nI 0))), (a2, .inl (g.2.1, 520, .inl (fun _ => nI 0))), (a3, .inl (g.2.1, 520, .inl (fun _ => nI 0))), (a4, .inl (g.2.1, 520, .inl (fun _ => nI 0)))] := zD
  refine lv_aload_n zx zb d_M_init_40 rfl (lv_at zl 0 rfl) ?_
  refine lv_bipush (v := nI 8) zx zb d_M_init_41 (by decide) ?_
  refine wv_newi (k := 5) (j := 2088) zx zb zg wd_ai zK zP zD zS zA (by decide) (by decide) (by decide) rfl rfl d_M_init_43 (fun a5 HX zP zD zS => ?_)
  have zP : va_P g.1 cls [(a0, .inr (7, [.int (nI 0), .int (nI 0), .ref a1, .ref a2, .ref a3, .ref a4, .null, .null, .null, .null, .null, .int (nI 0), .null, .int (nI 0), .int (nI 0), .int (nI 0)])), (a1, .inl (g.2.1, 520, .inl (fun _ => nI 0))), (a2, .inl (g.2.1, 520, .inl (fun _ => nI 0))), (a3, .inl (g.2.1, 520, .inl (fun _ => nI 0))), (a4, .inl (g.2.1, 520, .inl (fun _ => nI 0))), (a5, .inl (g.2.1, 8, .inl (fun _ => nI 0)))] HX := zP
  have zD : va_D AX [(a0, .inr (7, [.int (nI 0), .int (nI 0), .ref a1, .ref a2, .ref a3, .ref a4, .null, .null, .null, .null, .null, .int (nI 0), .null, .int (nI 0), .int (nI 0), .int (nI 0)])), (a1, .inl (g.2.1, 520, .inl (fun _ => nI 0))), (a2, .inl (g.2.1, 520, .inl (fun _ => nI 0))), (a3, .inl (g.2.1, 520, .inl (fun _ => nI 0))), (a4, .inl (g.2.1, 520, .inl (fun _ => nI 0))), (a5, .inl (g.2.1, 8, .inl (fun _ => nI 0)))] := zD
  refine wv_putF zx zb zg hin_M rfl t_M t_M_ok n_M zo zi zK zP zD zS 0 rfl 6 (by decide) rfl fl_M_22 rfl rfl rfl (Nat.le_of_ble_eq_true rfl) d_M_init_45 (fun HX oX zP zD zS => ?_)
  have zP : va_P g.1 cls [(a0, .inr (7, [.int (nI 0), .int (nI 0), .ref a1, .ref a2, .ref a3, .ref a4, .ref a5, .null, .null, .null, .null, .int (nI 0), .null, .int (nI 0), .int (nI 0), .int (nI 0)])), (a1, .inl (g.2.1, 520, .inl (fun _ => nI 0))), (a2, .inl (g.2.1, 520, .inl (fun _ => nI 0))), (a3, .inl (g.2.1, 520, .inl (fun _ => nI 0))), (a4, .inl (g.2.1, 520, .inl (fun _ => nI 0))), (a5, .inl (g.2.1, 8, .inl (fun _ => nI 0)))] HX := zP
  have zD : va_D AX [(a0, .inr (7, [.int (nI 0), .int (nI 0), .ref a1, .ref a2, .ref a3, .ref a4, .ref a5, .null, .null, .null, .null, .int (nI 0), .null, .int (nI 0), .int (nI 0), .int (nI 0)])), (a1, .inl (g.2.1, 520, .inl (fun _ => nI 0))), (a2, .inl (g.2.1, 520, .inl (fun _ => nI 0))), (a3, .inl (g.2.1, 520, .inl (fun _ => nI 0))), (a4, .inl (g.2.1, 520, .inl (fun _ => nI 0))), (a5, .inl (g.2.1, 8, .inl (fun _ => nI 0)))] := zD
  refine lv_aload_n zx zb d_M_init_48 rfl (lv_at zl 0 rfl) ?_
  refine lv_iconst (v := nI 3) zx zb d_M_init_49 (by decide) ?_
  refine wv_newi (k := 6) (j := 2091) zx zb zg wd_ai zK zP zD zS zA (by decide) (by decide) (by decide) rfl rfl d_M_init_50 (fun a6 HX zP zD zS => ?_)
  have zP : va_P g.1 cls [(a0, .inr (7, [.int (nI 0), .int (nI 0), .ref a1, .ref a2, .ref a3, .ref a4, .ref a5, .null, .null, .null, .null, .int (nI 0), .null, .int (nI 0), .int (nI 0), .int (nI 0)])), (a1, .inl (g.2.1, 520, .inl (fun _ => nI 0))), (a2, .inl (g.2.1, 520, .inl (fun _ => nI 0))), (a3, .inl (g.2.1, 520, .inl (fun _ => nI 0))), (a4, .inl (g.2.1, 520, .inl (fun _ => nI 0))), (a5, .inl (g.2.1, 8, .inl (fun _ => nI 0))), (a6, .inl (g.2.1, 3, .inl (fun _ => nI 0)))] HX := zP
  have zD : va_D AX [(a0, .inr (7, [.int (nI 0), .int (nI 0), .ref a1, .ref a2, .ref a3, .ref a4, .ref a5, .null, .null, .null, .null, .int (nI 0), .null, .int (nI 0), .int (nI 0), .int (nI 0)])), (a1, .inl (g.2.1, 520, .inl (fun _ => nI 0))), (a2, .inl (g.2.1, 520, .inl (fun _ => nI 0))), (a3, .inl (g.2.1, 520, .inl (fun _ => nI 0))), (a4, .inl (g.2.1, 520, .inl (fun _ => nI 0))), (a5, .inl (g.2.1, 8, .inl (fun _ => nI 0))), (a6, .inl (g.2.1, 3, .inl (fun _ => nI 0)))] := zD
  refine wv_putF zx zb zg hin_M rfl t_M t_M_ok n_M zo zi zK zP zD zS 0 rfl 7 (by decide) rfl fl_M_25 rfl rfl rfl (Nat.le_of_ble_eq_true rfl) d_M_init_52 (fun HX oX zP zD zS => ?_)
  have zP : va_P g.1 cls [(a0, .inr (7, [.int (nI 0), .int (nI 0), .ref a1, .ref a2, .ref a3, .ref a4, .ref a5, .ref a6, .null, .null, .null, .int (nI 0), .null, .int (nI 0), .int (nI 0), .int (nI 0)])), (a1, .inl (g.2.1, 520, .inl (fun _ => nI 0))), (a2, .inl (g.2.1, 520, .inl (fun _ => nI 0))), (a3, .inl (g.2.1, 520, .inl (fun _ => nI 0))), (a4, .inl (g.2.1, 520, .inl (fun _ => nI 0))), (a5, .inl (g.2.1, 8, .inl (fun _ => nI 0))), (a6, .inl (g.2.1, 3, .inl (fun _ => nI 0)))] HX := zP
  have zD : va_D AX [(a0, .inr (7, [.int (nI 0), .int (nI 0), .ref a1, .ref a2, .ref a3, .ref a4, .ref a5, .ref a6, .null, .null, .null, .int (nI 0), .null, .int (nI 0), .int (nI 0), .int (nI 0)])), (a1, .inl (g.2.1, 520, .inl (fun _ => nI 0))), (a2, .inl (g.2.1, 520, .inl (fun _ => nI 0))), (a3, .inl (g.2.1, 520, .inl (fun _ => nI 0))), (a4, .inl (g.2.1, 520, .inl (fun _ => nI 0))), (a5, .inl (g.2.1, 8, .inl (fun _ => nI 0))), (a6, .inl (g.2.1, 3, .inl (fun _ => nI 0)))] := zD
  refine lv_aload_n zx zb d_M_init_55 rfl (lv_at zl 0 rfl) ?_
  refine lv_iconst (v := nI 3) zx zb d_M_init_56 (by decide) ?_
  refine wv_newi (k := 7) (j := 2094) zx zb zg wd_ai zK zP zD zS zA (by decide) (by decide) (by decide) rfl rfl d_M_init_57 (fun a7 HX zP zD zS => ?_)
  have zP : va_P g.1 cls [(a0, .inr (7, [.int (nI 0), .int (nI 0), .ref a1, .ref a2, .ref a3, .ref a4, .ref a5, .ref a6, .null, .null, .null, .int (nI 0), .null, .int (nI 0), .int (nI 0), .int (nI 0)])), (a1, .inl (g.2.1, 520, .inl (fun _ => nI 0))), (a2, .inl (g.2.1, 520, .inl (fun _ => nI 0))), (a3, .inl (g.2.1, 520, .inl (fun _ => nI 0))), (a4, .inl (g.2.1, 520, .inl (fun _ => nI 0))), (a5, .inl (g.2.1, 8, .inl (fun _ => nI 0))), (a6, .inl (g.2.1, 3, .inl (fun _ => nI 0))), (a7, .inl (g.2.1, 3, .inl (fun _ => nI 0)))] HX := zP
  have zD : va_D AX [(a0, .inr (7, [.int (nI 0), .int (nI 0), .ref a1, .ref a2, .ref a3, .ref a4, .ref a5, .ref a6, .null, .null, .null, .int (nI 0), .null, .int (nI 0), .int (nI 0), .int (nI 0)])), (a1, .inl (g.2.1, 520, .inl (fun _ => nI 0))), (a2, .inl (g.2.1, 520, .inl (fun _ => nI 0))), (a3, .inl (g.2.1, 520, .inl (fun _ => nI 0))), (a4, .inl (g.2.1, 520, .inl (fun _ => nI 0))), (a5, .inl (g.2.1, 8, .inl (fun _ => nI 0))), (a6, .inl (g.2.1, 3, .inl (fun _ => nI 0))), (a7, .inl (g.2.1, 3, .inl (fun _ => nI 0)))] := zD
  refine wv_putF zx zb zg hin_M rfl t_M t_M_ok n_M zo zi zK zP zD zS 0 rfl 8 (by decide) rfl fl_M_28 rfl rfl rfl (Nat.le_of_ble_eq_true rfl) d_M_init_59 (fun HX oX zP zD zS => ?_)
  have zP : va_P g.1 cls [(a0, .inr (7, [.int (nI 0), .int (nI 0), .ref a1, .ref a2, .ref a3, .ref a4, .ref a5, .ref a6, .ref a7, .null, .null, .int (nI 0), .null, .int (nI 0), .int (nI 0), .int (nI 0)])), (a1, .inl (g.2.1, 520, .inl (fun _ => nI 0))), (a2, .inl (g.2.1, 520, .inl (fun _ => nI 0))), (a3, .inl (g.2.1, 520, .inl (fun _ => nI 0))), (a4, .inl (g.2.1, 520, .inl (fun _ => nI 0))), (a5, .inl (g.2.1, 8, .inl (fun _ => nI 0))), (a6, .inl (g.2.1, 3, .inl (fun _ => nI 0))), (a7, .inl (g.2.1, 3, .inl (fun _ => nI 0)))] HX := zP
  have zD : va_D AX [(a0, .inr (7, [.int (nI 0), .int (nI 0), .ref a1, .ref a2, .ref a3, .ref a4, .ref a5, .ref a6, .ref a7, .null, .null, .int (nI 0), .null, .int (nI 0), .int (nI 0), .int (nI 0)])), (a1, .inl (g.2.1, 520, .inl (fun _ => nI 0))), (a2, .inl (g.2.1, 520, .inl (fun _ => nI 0))), (a3, .inl (g.2.1, 520, .inl (fun _ => nI 0))), (a4, .inl (g.2.1, 520, .inl (fun _ => nI 0))), (a5, .inl (g.2.1, 8, .inl (fun _ => nI 0))), (a6, .inl (g.2.1, 3, .inl (fun _ => nI 0))), (a7, .inl (g.2.1, 3, .inl (fun _ => nI 0)))] := zD
  refine lv_aload_n zx zb d_M_init_62 rfl (lv_at zl 0 rfl) ?_
  refine lv_iconst (v := nI 3) zx zb d_M_init_63 (by decide) ?_
  refine wv_newi (k := 8) (j := 2097) zx zb zg wd_ai zK zP zD zS zA (by decide) (by decide) (by decide) rfl rfl d_M_init_64 (fun a8 HX zP zD zS => ?_)
  have zP : va_P g.1 cls [(a0, .inr (7, [.int (nI 0), .int (nI 0), .ref a1, .ref a2, .ref a3, .ref a4, .ref a5, .ref a6, .ref a7, .null, .null, .int (nI 0), .null, .int (nI 0), .int (nI 0), .int (nI 0)])), (a1, .inl (g.2.1, 520, .inl (fun _ => nI 0))), (a2, .inl (g.2.1, 520, .inl (fun _ => nI 0))), (a3, .inl (g.2.1, 520, .inl (fun _ => nI 0))), (a4, .inl (g.2.1, 520, .inl (fun _ => nI 0))), (a5, .inl (g.2.1, 8, .inl (fun _ => nI 0))), (a6, .inl (g.2.1, 3, .inl (fun _ => nI 0))), (a7, .inl (g.2.1, 3, .inl (fun _ => nI 0))), (a8, .inl (g.2.1, 3, .inl (fun _ => nI 0)))] HX := zP
  have zD : va_D AX [(a0, .inr (7, [.int (nI 0), .int (nI 0), .ref a1, .ref a2, .ref a3, .ref a4, .ref a5, .ref a6, .ref a7, .null, .null, .int (nI 0), .null, .int (nI 0), .int (nI 0), .int (nI 0)])), (a1, .inl (g.2.1, 520, .inl (fun _ => nI 0))), (a2, .inl (g.2.1, 520, .inl (fun _ => nI 0))), (a3, .inl (g.2.1, 520, .inl (fun _ => nI 0))), (a4, .inl (g.2.1, 520, .inl (fun _ => nI 0))), (a5, .inl (g.2.1, 8, .inl (fun _ => nI 0))), (a6, .inl (g.2.1, 3, .inl (fun _ => nI 0))), (a7, .inl (g.2.1, 3, .inl (fun _ => nI 0))), (a8, .inl (g.2.1, 3, .inl (fun _ => nI 0)))] := zD
  refine wv_putF zx zb zg hin_M rfl t_M t_M_ok n_M zo zi zK zP zD zS 0 rfl 9 (by decide) rfl fl_M_31 rfl rfl rfl (Nat.le_of_ble_eq_true rfl) d_M_init_66 (fun HX oX zP zD zS => ?_)
  have zP : va_P g.1 cls [(a0, .inr (7, [.int (nI 0), .int (nI 0), .ref a1, .ref a2, .ref a3, .ref a4, .ref a5, .ref a6, .ref a7, .ref a8, .null, .int (nI 0), .null, .int (nI 0), .int (nI 0), .int (nI 0)])), (a1, .inl (g.2.1, 520, .inl (fun _ => nI 0))), (a2, .inl (g.2.1, 520, .inl (fun _ => nI 0))), (a3, .inl (g.2.1, 520, .inl (fun _ => nI 0))), (a4, .inl (g.2.1, 520, .inl (fun _ => nI 0))), (a5, .inl (g.2.1, 8, .inl (fun _ => nI 0))), (a6, .inl (g.2.1, 3, .inl (fun _ => nI 0))), (a7, .inl (g.2.1, 3, .inl (fun _ => nI 0))), (a8, .inl (g.2.1, 3, .inl (fun _ => nI 0)))] HX := zP
  have zD : va_D AX [(a0, .inr (7, [.int (nI 0), .int (nI 0), .ref a1, .ref a2, .ref a3, .ref a4, .ref a5, .ref a6, .ref a7, .ref a8, .null, .int (nI 0), .null, .int (nI 0), .int (nI 0), .int (nI 0)])), (a1, .inl (g.2.1, 520, .inl (fun _ => nI 0))), (a2, .inl (g.2.1, 520, .inl (fun _ => nI 0))), (a3, .inl (g.2.1, 520, .inl (fun _ => nI 0))), (a4, .inl (g.2.1, 520, .inl (fun _ => nI 0))), (a5, .inl (g.2.1, 8, .inl (fun _ => nI 0))), (a6, .inl (g.2.1, 3, .inl (fun _ => nI 0))), (a7, .inl (g.2.1, 3, .inl (fun _ => nI 0))), (a8, .inl (g.2.1, 3, .inl (fun _ => nI 0)))] := zD
  refine lv_aload_n zx zb d_M_init_69 rfl (lv_at zl 0 rfl) ?_
  refine lv_iconst (v := nI 3) zx zb d_M_init_70 (by decide) ?_
  refine wv_newi (k := 9) (j := 2100) zx zb zg wd_ai zK zP zD zS zA (by decide) (by decide) (by decide) rfl rfl d_M_init_71 (fun a9 HX zP zD zS => ?_)
  have zP : va_P g.1 cls [(a0, .inr (7, [.int (nI 0), .int (nI 0), .ref a1, .ref a2, .ref a3, .ref a4, .ref a5, .ref a6, .ref a7, .ref a8, .null, .int (nI 0), .null, .int (nI 0), .int (nI 0), .int (nI 0)])), (a1, .inl (g.2.1, 520, .inl (fun _ => nI 0))), (a2, .inl (g.2.1, 520, .inl (fun _ => nI 0))), (a3, .inl (g.2.1, 520, .inl (fun _ => nI 0))), (a4, .inl (g.2.1, 520, .inl (fun _ => nI 0))), (a5, .inl (g.2.1, 8, .inl (fun _ => nI 0))), (a6, .inl (g.2.1, 3, .inl (fun _ => nI 0))), (a7, .inl (g.2.1, 3, .inl (fun _ => nI 0))), (a8, .inl (g.2.1, 3, .inl (fun _ => nI 0))), (a9, .inl (g.2.1, 3, .inl (fun _ => nI 0)))] HX := zP
  have zD : va_D AX [(a0, .inr (7, [.int (nI 0), .int (nI 0), .ref a1, .ref a2, .ref a3, .ref a4, .ref a5, .ref a6, .ref a7, .ref a8, .null, .int (nI 0), .null, .int (nI 0), .int (nI 0), .int (nI 0)])), (a1, .inl (g.2.1, 520, .inl (fun _ => nI 0))), (a2, .inl (g.2.1, 520, .inl (fun _ => nI 0))), (a3, .inl (g.2.1, 520, .inl (fun _ => nI 0))), (a4, .inl (g.2.1, 520, .inl (fun _ => nI 0))), (a5, .inl (g.2.1, 8, .inl (fun _ => nI 0))), (a6, .inl (g.2.1, 3, .inl (fun _ => nI 0))), (a7, .inl (g.2.1, 3, .inl (fun _ => nI 0))), (a8, .inl (g.2.1, 3, .inl (fun _ => nI 0))), (a9, .inl (g.2.1, 3, .inl (fun _ => nI 0)))] := zD
  refine wv_putF zx zb zg hin_M rfl t_M t_M_ok n_M zo zi zK zP zD zS 0 rfl 10 (by decide) rfl fl_M_34 rfl rfl rfl (Nat.le_of_ble_eq_true rfl) d_M_init_73 (fun HX oX zP zD zS => ?_)
  have zP : va_P g.1 cls [(a0, .inr (7, [.int (nI 0), .int (nI 0), .ref a1, .ref a2, .ref a3, .ref a4, .ref a5, .ref a6, .ref a7, .ref a8, .ref a9, .int (nI 0), .null, .int (nI 0), .int (nI 0), .int (nI 0)])), (a1, .inl (g.2.1, 520, .inl (fun _ => nI 0))), (a2, .inl (g.2.1, 520, .inl (fun _ => nI 0))), (a3, .inl (g.2.1, 520, .inl (fun _ => nI 0))), (a4, .inl (g.2.1, 520, .inl (fun _ => nI 0))), (a5, .inl (g.2.1, 8, .inl (fun _ => nI 0))), (a6, .inl (g.2.1, 3, .inl (fun _ => nI 0))), (a7, .inl (g.2.1, 3, .inl (fun _ => nI 0))), (a8, .inl (g.2.1, 3, .inl (fun _ => nI 0))), (a9, .inl (g.2.1, 3, .inl (fun _ => nI 0)))] HX := zP
  have zD : va_D AX [(a0, .inr (7, [.int (nI 0), .int (nI 0), .ref a1, .ref a2, .ref a3, .ref a4, .ref a5, .ref a6, .ref a7, .ref a8, .ref a9, .int (nI 0), .null, .int (nI 0), .int (nI 0), .int (nI 0)])), (a1, .inl (g.2.1, 520, .inl (fun _ => nI 0))), (a2, .inl (g.2.1, 520, .inl (fun _ => nI 0))), (a3, .inl (g.2.1, 520, .inl (fun _ => nI 0))), (a4, .inl (g.2.1, 520, .inl (fun _ => nI 0))), (a5, .inl (g.2.1, 8, .inl (fun _ => nI 0))), (a6, .inl (g.2.1, 3, .inl (fun _ => nI 0))), (a7, .inl (g.2.1, 3, .inl (fun _ => nI 0))), (a8, .inl (g.2.1, 3, .inl (fun _ => nI 0))), (a9, .inl (g.2.1, 3, .inl (fun _ => nI 0)))] := zD
  refine lv_aload_n zx zb d_M_init_76 rfl (lv_at zl 0 rfl) ?_
  refine lv_bipush (v := nI 66) zx zb d_M_init_77 (by decide) ?_
  refine wv_newz (k := 10) (j := 2166) zx zb zg wd_az zK zP zD zS zA (by decide) (by decide) (by decide) rfl rfl d_M_init_79 (fun a10 HX zP zD zS => ?_)
  have zP : va_P g.1 cls [(a0, .inr (7, [.int (nI 0), .int (nI 0), .ref a1, .ref a2, .ref a3, .ref a4, .ref a5, .ref a6, .ref a7, .ref a8, .ref a9, .int (nI 0), .null, .int (nI 0), .int (nI 0), .int (nI 0)])), (a1, .inl (g.2.1, 520, .inl (fun _ => nI 0))), (a2, .inl (g.2.1, 520, .inl (fun _ => nI 0))), (a3, .inl (g.2.1, 520, .inl (fun _ => nI 0))), (a4, .inl (g.2.1, 520, .inl (fun _ => nI 0))), (a5, .inl (g.2.1, 8, .inl (fun _ => nI 0))), (a6, .inl (g.2.1, 3, .inl (fun _ => nI 0))), (a7, .inl (g.2.1, 3, .inl (fun _ => nI 0))), (a8, .inl (g.2.1, 3, .inl (fun _ => nI 0))), (a9, .inl (g.2.1, 3, .inl (fun _ => nI 0))), (a10, .inl (g.2.2.1, 66, .inl (fun _ => nI 0)))] HX := zP
  have zD : va_D AX [(a0, .inr (7, [.int (nI 0), .int (nI 0), .ref a1, .ref a2, .ref a3, .ref a4, .ref a5, .ref a6, .ref a7, .ref a8, .ref a9, .int (nI 0), .null, .int (nI 0), .int (nI 0), .int (nI 0)])), (a1, .inl (g.2.1, 520, .inl (fun _ => nI 0))), (a2, .inl (g.2.1, 520, .inl (fun _ => nI 0))), (a3, .inl (g.2.1, 520, .inl (fun _ => nI 0))), (a4, .inl (g.2.1, 520, .inl (fun _ => nI 0))), (a5, .inl (g.2.1, 8, .inl (fun _ => nI 0))), (a6, .inl (g.2.1, 3, .inl (fun _ => nI 0))), (a7, .inl (g.2.1, 3, .inl (fun _ => nI 0))), (a8, .inl (g.2.1, 3, .inl (fun _ => nI 0))), (a9, .inl (g.2.1, 3, .inl (fun _ => nI 0))), (a10, .inl (g.2.2.1, 66, .inl (fun _ => nI 0)))] := zD
  refine wv_putF zx zb zg hin_M rfl t_M t_M_ok n_M zo zi zK zP zD zS 0 rfl 12 (by decide) rfl fl_M_37 rfl rfl rfl (Nat.le_of_ble_eq_true rfl) d_M_init_81 (fun HX oX zP zD zS => ?_)
  have zP : va_P g.1 cls [(a0, .inr (7, [.int (nI 0), .int (nI 0), .ref a1, .ref a2, .ref a3, .ref a4, .ref a5, .ref a6, .ref a7, .ref a8, .ref a9, .int (nI 0), .ref a10, .int (nI 0), .int (nI 0), .int (nI 0)])), (a1, .inl (g.2.1, 520, .inl (fun _ => nI 0))), (a2, .inl (g.2.1, 520, .inl (fun _ => nI 0))), (a3, .inl (g.2.1, 520, .inl (fun _ => nI 0))), (a4, .inl (g.2.1, 520, .inl (fun _ => nI 0))), (a5, .inl (g.2.1, 8, .inl (fun _ => nI 0))), (a6, .inl (g.2.1, 3, .inl (fun _ => nI 0))), (a7, .inl (g.2.1, 3, .inl (fun _ => nI 0))), (a8, .inl (g.2.1, 3, .inl (fun _ => nI 0))), (a9, .inl (g.2.1, 3, .inl (fun _ => nI 0))), (a10, .inl (g.2.2.1, 66, .inl (fun _ => nI 0)))] HX := zP
  have zD : va_D AX [(a0, .inr (7, [.int (nI 0), .int (nI 0), .ref a1, .ref a2, .ref a3, .ref a4, .ref a5, .ref a6, .ref a7, .ref a8, .ref a9, .int (nI 0), .ref a10, .int (nI 0), .int (nI 0), .int (nI 0)])), (a1, .inl (g.2.1, 520, .inl (fun _ => nI 0))), (a2, .inl (g.2.1, 520, .inl (fun _ => nI 0))), (a3, .inl (g.2.1, 520, .inl (fun _ => nI 0))), (a4, .inl (g.2.1, 520, .inl (fun _ => nI 0))), (a5, .inl (g.2.1, 8, .inl (fun _ => nI 0))), (a6, .inl (g.2.1, 3, .inl (fun _ => nI 0))), (a7, .inl (g.2.1, 3, .inl (fun _ => nI 0))), (a8, .inl (g.2.1, 3, .inl (fun _ => nI 0))), (a9, .inl (g.2.1, 3, .inl (fun _ => nI 0))), (a10, .inl (g.2.2.1, 66, .inl (fun _ => nI 0)))] := zD
  exact cn_ret zQ zx zb zr zk zP zD zS d_M_init_84 ⟨a1, a2, a3, a4, a5, a6, a7, a8, a9, a10, rfl⟩
set_option maxRecDepth 20000 in
theorem ctn_Rs (lL : Launch) (g : Gt) (a0 : Nat) : Cn lL g y_Rs_init (.code y_Rs_init b_Rs_init 1 none) 2 6 66 32 [.ref a0] [(a0, .inr (6, [.null, .null, .int (nI 0)]))] (fun u => ∃ a1 a2 a3 a4 a5 a6 : Nat, u = wRs g a0 a1 a2 (fun _ => nI 0) 0 ++ wTr g a2 a3 a4 a5 a6 (fun _ => 0) (fun _ => 0) (fun _ => 0) (fun _ => nI 0)) := by
  refine Cn.ofW (by decide) rfl (Nat.le_of_ble_eq_true rfl) ?_
  intro pX eX sX mX aX bX tX cX AX lsX HX oX QX zx zb zr zk zi zm zo zg zK zP zD zA zS zQ zl
  have zo : sX.vm.findClass R_Rs = some mX.cls := zo
  have zl : lv_has lsX 1 [(0, .ref a0)] := zl
  refine lv_aload_n zx zb d_Rs_init_0 rfl (lv_at zl 0 rfl) ?_
  refine wv_obj zx zb zg zo mo_Rs wd_oi wd_oc (zm.trans zl.1.symm) d_Rs_init_1 (by decide) (by decide) ?_
  refine lv_aload_n zx zb d_Rs_init_4 rfl (lv_at zl 0 rfl) ?_
  refine lv_bipush (v := nI 32) zx zb d_Rs_init_5 (by decide) ?_
  refine wv_newi (k := 1) (j := 32) zx zb zg wd_ai zK zP zD zS zA (by decide) (by decide) (by decide) rfl rfl d_Rs_init_7 (fun q1 HX zP zD zS => ?_)
  have zP : va_P g.1 cls ([(a0, .inr (6, [.null, .null, .int (nI 0)]))] ++ [(q1, .inl (g.2.1, 32, .inl (fun _ => nI 0)))]) HX := zP
  have zD : va_D AX ([(a0, .inr (6, [.null, .null, .int (nI 0)]))] ++ [(q1, .inl (g.2.1, 32, .inl (fun _ => nI 0)))]) := zD
  refine wv_putF zx zb zg hin_Rs rfl t_Rs t_Rs_ok n_Rs zo zi zK zP zD zS 0 rfl 0 (by decide) rfl fl_Rs_9 rfl rfl rfl (Nat.le_of_ble_eq_true rfl) d_Rs_init_9 (fun HX oX zP zD zS => ?_)
  have zP : va_P g.1 cls ([(a0, .inr (6, [.ref q1, .null, .int (nI 0)]))] ++ [(q1, .inl (g.2.1, 32, .inl (fun _ => nI 0)))]) HX := zP
  have zD : va_D AX ([(a0, .inr (6, [.ref q1, .null, .int (nI 0)]))] ++ [(q1, .inl (g.2.1, 32, .inl (fun _ => nI 0)))]) := zD
  refine lv_aload_n zx zb d_Rs_init_12 rfl (lv_at zl 0 rfl) ?_
  refine wv_new (ci := 2) (fs := [.null, .null, .null, .null]) (k := 2) (j := 36) zx zb zg hin_Tr t_Tr t_Tr_ok zo cl_Rs_15 in_Tr ii_Tr zK zP zD zS zA rfl (fun j hj => by rcases (show j = 0 ∨ j = 1 ∨ j = 2 ∨ j = 3 by omega) with rfl | rfl | rfl | rfl <;> rfl) (by decide) (by decide) rfl rfl d_Rs_init_13 (fun o2 HX zP zD zS => ?_)
  have zP : va_P g.1 cls ([(a0, .inr (6, [.ref q1, .null, .int (nI 0)]))] ++ [(q1, .inl (g.2.1, 32, .inl (fun _ => nI 0)))] ++ [(o2, .inr (2, [.null, .null, .null, .null]))]) HX := zP
  have zD : va_D AX ([(a0, .inr (6, [.ref q1, .null, .int (nI 0)]))] ++ [(q1, .inl (g.2.1, 32, .inl (fun _ => nI 0)))] ++ [(o2, .inr (2, [.null, .null, .null, .null]))]) := zD
  refine lv_dup zx zb d_Rs_init_16 rfl ?_
  refine cn_IN (wr := [(a0, .inr (6, [.ref q1, .null, .int (nI 0)]))] ++ [(q1, .inl (g.2.1, 32, .inl (fun _ => nI 0)))]) (rest := [.ref o2, .ref a0]) (k := 6) (j := 66) zx zb zm zo zg zK zP zD zS zA zl.1 (ctn_Tr lL g o2) ok_Tr_init oi_Tr rfl mn_Rs_17 ⟨by decide, by decide⟩ ⟨by decide, by decide⟩ rfl rfl [2] [0, 1] (by decide) rfl rfl (by decide) (by decide) rfl (Nat.le_of_ble_eq_true rfl) d_Rs_init_17 (fun uX HX oX zp zP zD zS => ?_)
  obtain ⟨q3, q4, q5, q6, rfl⟩ := zp
  have zP : va_P g.1 cls ([(a0, .inr (6, [.ref q1, .null, .int (nI 0)]))] ++ [(q1, .inl (g.2.1, 32, .inl (fun _ => nI 0)))] ++ wTr g o2 q3 q4 q5 q6 (fun _ => 0) (fun _ => 0) (fun _ => 0) (fun _ => nI 0)) HX := zP
  have zD : va_D AX ([(a0, .inr (6, [.ref q1, .null, .int (nI 0)]))] ++ [(q1, .inl (g.2.1, 32, .inl (fun _ => nI 0)))] ++ wTr g o2 q3 q4 q5 q6 (fun _ => 0) (fun _ => 0) (fun _ => 0) (fun _ => nI 0)) := zD
  refine wv_putF zx zb zg hin_Rs rfl t_Rs t_Rs_ok n_Rs zo zi zK zP zD zS 0 rfl 1 (by decide) rfl fl_Rs_18 rfl rfl rfl (Nat.le_of_ble_eq_true rfl) d_Rs_init_20 (fun HX oX zP zD zS => ?_)
  have zP : va_P g.1 cls ([(a0, .inr (6, [.ref q1, .ref o2, .int (nI 0)]))] ++ [(q1, .inl (g.2.1, 32, .inl (fun _ => nI 0)))] ++ wTr g o2 q3 q4 q5 q6 (fun _ => 0) (fun _ => 0) (fun _ => 0) (fun _ => nI 0)) HX := zP
  have zD : va_D AX ([(a0, .inr (6, [.ref q1, .ref o2, .int (nI 0)]))] ++ [(q1, .inl (g.2.1, 32, .inl (fun _ => nI 0)))] ++ wTr g o2 q3 q4 q5 q6 (fun _ => 0) (fun _ => 0) (fun _ => 0) (fun _ => nI 0)) := zD
  exact cn_ret zQ zx zb zr zk zP zD zS d_Rs_init_23 ⟨q1, o2, q3, q4, q5, q6, rfl⟩
