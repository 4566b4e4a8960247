set_option maxRecDepth 20000 in
theorem c_Ar_within_t (lL : Launch) (g : Gt) (h0 : Nat) (h1 : Nat) (hd : Nat → Nat) (hc : Nat) (nx : Nat) (sy : Nat) (hs : sy ≤ 512) (hw : (nx + 1) * 8 ≤ sy) : Ct lL g y_Ar_nextIsWithin (.code y_Ar_nextIsWithin b_Ar_nextIsWithin 2 (some .boolean)) 0 0 [.ref h0, .int (nI sy)] (wAr g h0 h1 hd hc nx) (exP (some (.int (nI 1))) (wAr g h0 h1 hd hc nx)) := by
  refine Ct.ofW (by decide) (Nat.le_of_ble_eq_true rfl) ?_
  intro pX eX sX mX aX bX tX cX AX lsX HX oX QX zx zb zr zk zm zo zg zK zP zD zA zS zQ zl
  have zo : sX.vm.findClass R_Ar = some mX.cls := zo
  have zl : lv_has lsX 2 [(0, .ref h0), (1, .int (nI sy))] := zl
  refine lv_aload_n zx zb d_Ar_nextIsWithin_0 rfl (lv_at zl 0 rfl) ?_
  refine wv_get zx zb zg hin_Ar rfl zo zK zP 0 rfl 2 (by decide) rfl fl_Ar_15 rfl d_Ar_nextIsWithin_1 ?_
  refine lv_bipush (v := (nI 64)) zx zb d_Ar_nextIsWithin_4 (by decide) ?_
  refine wn_cge_F (tgt := 26) zx zb d_Ar_nextIsWithin_6 (by decide) (by omega) (by omega) (by omega) ?_
  refine lv_aload_n zx zb d_Ar_nextIsWithin_9 rfl (lv_at zl 0 rfl) ?_
  refine wv_get zx zb zg hin_Ar rfl zo zK zP 0 rfl 2 (by decide) rfl fl_Ar_15 rfl d_Ar_nextIsWithin_10 ?_
  refine lv_iconst (v := (nI 1)) zx zb d_Ar_nextIsWithin_13 (by decide) ?_
  refine wv_iadd zx zb d_Ar_nextIsWithin_14 (nI_add _ _) ?_
  refine lv_bipush (v := (nI 8)) zx zb d_Ar_nextIsWithin_15 (by decide) ?_
  refine wv_imul zx zb d_Ar_nextIsWithin_17 (pk_mul _ _) ?_
  refine lv_iload_n zx zb d_Ar_nextIsWithin_18 rfl (lv_at zl 1 rfl) ?_
  refine wn_cgt_F (tgt := 26) zx zb d_Ar_nextIsWithin_19 (by decide) (by omega) (by omega) (by omega) ?_
  refine lv_iconst (v := (nI 1)) zx zb d_Ar_nextIsWithin_22 (by decide) ?_
  refine lv_goto (tgt := 27) zx zb d_Ar_nextIsWithin_23 (by decide) ?_
  exact ct_zret zQ zx zb zr zk zP zD zS d_Ar_nextIsWithin_27 rfl (by decide) (⟨rfl, rfl⟩)
set_option maxRecDepth 20000 in
theorem c_Ar_within_f (lL : Launch) (g : Gt) (h0 : Nat) (h1 : Nat) (hd : Nat → Nat) (hc : Nat) (nx : Nat) (sy : Nat) (hs : sy ≤ 512) (hnx : nx < 64) (hw : sy < (nx + 1) * 8) : Ct lL g y_Ar_nextIsWithin (.code y_Ar_nextIsWithin b_Ar_nextIsWithin 2 (some .boolean)) 0 0 [.ref h0, .int (nI sy)] (wAr g h0 h1 hd hc nx) (exP (some (.int (nI 0))) (wAr g h0 h1 hd hc nx)) := by
  refine Ct.ofW (by decide) (Nat.le_of_ble_eq_true rfl) ?_
  intro pX eX sX mX aX bX tX cX AX lsX HX oX QX zx zb zr zk zm zo zg zK zP zD zA zS zQ zl
  have zo : sX.vm.findClass R_Ar = some mX.cls := zo
  have zl : lv_has lsX 2 [(0, .ref h0), (1, .int (nI sy))] := zl
  refine lv_aload_n zx zb d_Ar_nextIsWithin_0 rfl (lv_at zl 0 rfl) ?_
  refine wv_get zx zb zg hin_Ar rfl zo zK zP 0 rfl 2 (by decide) rfl fl_Ar_15 rfl d_Ar_nextIsWithin_1 ?_
  refine lv_bipush (v := (nI 64)) zx zb d_Ar_nextIsWithin_4 (by decide) ?_
  refine wn_cge_F (tgt := 26) zx zb d_Ar_nextIsWithin_6 (by decide) (by omega) (by omega) (by omega) ?_
  refine lv_aload_n zx zb d_Ar_nextIsWithin_9 rfl (lv_at zl 0 rfl) ?_
  refine wv_get zx zb zg hin_Ar rfl zo zK zP 0 rfl 2 (by decide) rfl fl_Ar_15 rfl d_Ar_nextIsWithin_10 ?_
  refine lv_iconst (v := (nI 1)) zx zb d_Ar_nextIsWithin_13 (by decide) ?_
  refine wv_iadd zx zb d_Ar_nextIsWithin_14 (nI_add _ _) ?_
  refine lv_bipush (v := (nI 8)) zx zb d_Ar_nextIsWithin_15 (by decide) ?_
  refine wv_imul zx zb d_Ar_nextIsWithin_17 (pk_mul _ _) ?_
  refine lv_iload_n zx zb d_Ar_nextIsWithin_18 rfl (lv_at zl 1 rfl) ?_
  refine wn_cgt_T (tgt := 26) zx zb d_Ar_nextIsWithin_19 (by decide) (by omega) (by omega) (by omega) ?_
  refine lv_iconst (v := (nI 0)) zx zb d_Ar_nextIsWithin_26 (by decide) ?_
  exact ct_zret zQ zx zb zr zk zP zD zS d_Ar_nextIsWithin_27 rfl (by decide) (⟨rfl, rfl⟩)
set_option maxRecDepth 20000 in
theorem c_Ar_within_e (lL : Launch) (g : Gt) (h0 : Nat) (h1 : Nat) (hd : Nat → Nat) (hc : Nat) (nx : Nat) (sy : Nat) (hnx : nx = 64) : Ct lL g y_Ar_nextIsWithin (.code y_Ar_nextIsWithin b_Ar_nextIsWithin 2 (some .boolean)) 0 0 [.ref h0, .int (nI sy)] (wAr g h0 h1 hd hc nx) (exP (some (.int (nI 0))) (wAr g h0 h1 hd hc nx)) := by
  refine Ct.ofW (by decide) (Nat.le_of_ble_eq_true rfl) ?_
  intro pX eX sX mX aX bX tX cX AX lsX HX oX QX zx zb zr zk zm zo zg zK zP zD zA zS zQ zl
  have zo : sX.vm.findClass R_Ar = some mX.cls := zo
  have zl : lv_has lsX 2 [(0, .ref h0), (1, .int (nI sy))] := zl
  refine lv_aload_n zx zb d_Ar_nextIsWithin_0 rfl (lv_at zl 0 rfl) ?_
  refine wv_get zx zb zg hin_Ar rfl zo zK zP 0 rfl 2 (by decide) rfl fl_Ar_15 rfl d_Ar_nextIsWithin_1 ?_
  refine lv_bipush (v := (nI 64)) zx zb d_Ar_nextIsWithin_4 (by decide) ?_
  refine wn_cge_T (tgt := 26) zx zb d_Ar_nextIsWithin_6 (by decide) (by omega) (by omega) (by omega) ?_
  refine lv_iconst (v := (nI 0)) zx zb d_Ar_nextIsWithin_26 (by decide) ?_
  exact ct_zret zQ zx zb zr zk zP zD zS d_Ar_nextIsWithin_27 rfl (by decide) (⟨rfl, rfl⟩)
set_option maxRecDepth 20000 in
theorem c_Ar_isFull_t (lL : Launch) (g : Gt) (h0 : Nat) (h1 : Nat) (hd : Nat → Nat) (hc : Nat) (nx : Nat) (hh : hc = 10) : Ct lL g y_Ar_isFull (.code y_Ar_isFull b_Ar_isFull 1 (some .boolean)) 0 0 [.ref h0] (wAr g h0 h1 hd hc nx) (exP (some (.int (nI 1))) (wAr g h0 h1 hd hc nx)) := by
  refine Ct.ofW (by decide) (Nat.le_of_ble_eq_true rfl) ?_
  intro pX eX sX mX aX bX tX cX AX lsX HX oX QX zx zb zr zk zm zo zg zK zP zD zA zS zQ zl
  have zo : sX.vm.findClass R_Ar = some mX.cls := zo
  have zl : lv_has lsX 1 [(0, .ref h0)] := zl
  refine lv_aload_n zx zb d_Ar_isFull_0 rfl (lv_at zl 0 rfl) ?_
  refine wv_get zx zb zg hin_Ar rfl zo zK zP 0 rfl 1 (by decide) rfl fl_Ar_19 rfl d_Ar_isFull_1 ?_
  refine lv_bipush (v := (nI 10)) zx zb d_Ar_isFull_4 (by decide) ?_
  refine wn_clt_F (tgt := 13) zx zb d_Ar_isFull_6 (by decide) (by omega) (by omega) (by omega) ?_
  refine lv_iconst (v := (nI 1)) zx zb d_Ar_isFull_9 (by decide) ?_
  refine lv_goto (tgt := 14) zx zb d_Ar_isFull_10 (by decide) ?_
  exact ct_zret zQ zx zb zr zk zP zD zS d_Ar_isFull_14 rfl (by decide) (⟨rfl, rfl⟩)
set_option maxRecDepth 20000 in
theorem c_Ar_isFull_f (lL : Launch) (g : Gt) (h0 : Nat) (h1 : Nat) (hd : Nat → Nat) (hc : Nat) (nx : Nat) (hh : hc < 10) : Ct lL g y_Ar_isFull (.code y_Ar_isFull b_Ar_isFull 1 (some .boolean)) 0 0 [.ref h0] (wAr g h0 h1 hd hc nx) (exP (some (.int (nI 0))) (wAr g h0 h1 hd hc nx)) := by
  refine Ct.ofW (by decide) (Nat.le_of_ble_eq_true rfl) ?_
  intro pX eX sX mX aX bX tX cX AX lsX HX oX QX zx zb zr zk zm zo zg zK zP zD zA zS zQ zl
  have zo : sX.vm.findClass R_Ar = some mX.cls := zo
  have zl : lv_has lsX 1 [(0, .ref h0)] := zl
  refine lv_aload_n zx zb d_Ar_isFull_0 rfl (lv_at zl 0 rfl) ?_
  refine wv_get zx zb zg hin_Ar rfl zo zK zP 0 rfl 1 (by decide) rfl fl_Ar_19 rfl d_Ar_isFull_1 ?_
  refine lv_bipush (v := (nI 10)) zx zb d_Ar_isFull_4 (by decide) ?_
  refine wn_clt_T (tgt := 13) zx zb d_Ar_isFull_6 (by decide) (by omega) (by omega) (by omega) ?_
  refine lv_iconst (v := (nI 0)) zx zb d_Ar_isFull_13 (by decide) ?_
  exact ct_zret zQ zx zb zr zk zP zD zS d_Ar_isFull_14 rfl (by decide) (⟨rfl, rfl⟩)
set_option maxRecDepth 20000 in
theorem c_Ar_holdNext (lL : Launch) (g : Gt) (h0 : Nat) (h1 : Nat) (hd : Nat → Nat) (hc : Nat) (nx : Nat) (hnx : nx < 64) : Ct lL g y_Ar_holdNext (.code y_Ar_holdNext b_Ar_holdNext 2 (some .int)) 0 0 [.ref h0] (wAr g h0 h1 hd hc nx) (exP (some (.int (nI nx))) (wAr g h0 h1 (va_up hd nx 1) (hc + 1) (nx + 1))) := by
  refine Ct.ofW (by decide) (Nat.le_of_ble_eq_true rfl) ?_
  intro pX eX sX mX aX bX tX cX AX lsX HX oX QX zx zb zr zk zm zo zg zK zP zD zA zS zQ zl
  have zo : sX.vm.findClass R_Ar = some mX.cls := zo
  have zl : lv_has lsX 2 [(0, .ref h0)] := zl
  refine lv_aload_n zx zb d_Ar_holdNext_0 rfl (lv_at zl 0 rfl) ?_
  refine wv_get zx zb zg hin_Ar rfl zo zK zP 0 rfl 2 (by decide) rfl fl_Ar_15 rfl d_Ar_holdNext_1 ?_
  refine lv_istore_n (lv' := [(1, .int (nI nx)), (0, .ref h0)]) zx zb d_Ar_holdNext_4 rfl zl (by decide) rfl (fun lsX zl => ?_)
  refine lv_aload_n zx zb d_Ar_holdNext_5 rfl (lv_at zl 1 rfl) ?_
  refine wv_get zx zb zg hin_Ar rfl zo zK zP 0 rfl 0 (by decide) rfl fl_Ar_9 rfl d_Ar_holdNext_6 ?_
  refine lv_iload_n zx zb d_Ar_holdNext_9 rfl (lv_at zl 0 rfl) ?_
  refine lv_iconst (v := (nI 1)) zx zb d_Ar_holdNext_10 (by decide) ?_
  refine wv_zastN zx zb zK zP zD zS 1 rfl (by omega) (by decide) (by decide) d_Ar_holdNext_11 (fun HX oX zP zD zS => ?_)
  have zP : va_P g.1 cls (wAr g h0 h1 (va_up hd nx 1) hc nx) HX := zP
  have zD : va_D AX (wAr g h0 h1 (va_up hd nx 1) hc nx) := zD
  refine lv_aload_n zx zb d_Ar_holdNext_12 rfl (lv_at zl 1 rfl) ?_
  refine lv_dup zx zb d_Ar_holdNext_13 rfl ?_
  refine wv_get zx zb zg hin_Ar rfl zo zK zP 0 rfl 1 (by decide) rfl fl_Ar_19 rfl d_Ar_holdNext_14 ?_
  refine lv_iconst (v := (nI 1)) zx zb d_Ar_holdNext_17 (by decide) ?_
  refine wv_iadd zx zb d_Ar_holdNext_18 (nI_add _ _) ?_
  refine wv_put zx zb zg hin_Ar rfl t_Ar t_Ar_ok n_Ar zo zK zP zD zS 0 rfl 1 (by decide) rfl fl_Ar_19 rfl rfl rfl (Nat.le_of_ble_eq_true rfl) d_Ar_holdNext_19 (fun HX oX zP zD zS => ?_)
  have zP : va_P g.1 cls (wAr g h0 h1 (va_up hd nx 1) (hc + 1) nx) HX := zP
  have zD : va_D AX (wAr g h0 h1 (va_up hd nx 1) (hc + 1) nx) := zD
  refine lv_aload_n zx zb d_Ar_holdNext_22 rfl (lv_at zl 1 rfl) ?_
  refine lv_dup zx zb d_Ar_holdNext_23 rfl ?_
  refine wv_get zx zb zg hin_Ar rfl zo zK zP 0 rfl 2 (by decide) rfl fl_Ar_15 rfl d_Ar_holdNext_24 ?_
  refine lv_iconst (v := (nI 1)) zx zb d_Ar_holdNext_27 (by decide) ?_
  refine wv_iadd zx zb d_Ar_holdNext_28 (nI_add _ _) ?_
  refine wv_put zx zb zg hin_Ar rfl t_Ar t_Ar_ok n_Ar zo zK zP zD zS 0 rfl 2 (by decide) rfl fl_Ar_15 rfl rfl rfl (Nat.le_of_ble_eq_true rfl) d_Ar_holdNext_29 (fun HX oX zP zD zS => ?_)
  have zP : va_P g.1 cls (wAr g h0 h1 (va_up hd nx 1) (hc + 1) (nx + 1)) HX := zP
  have zD : va_D AX (wAr g h0 h1 (va_up hd nx 1) (hc + 1) (nx + 1)) := zD
  refine lv_iload_n zx zb d_Ar_holdNext_32 rfl (lv_at zl 0 rfl) ?_
  exact ct_iret zQ zx zb zr zk zP zD zS d_Ar_holdNext_33 rfl (⟨rfl, rfl⟩)
set_option maxRecDepth 20000 in
theorem c_Ar_holds_t (lL : Launch) (g : Gt) (h0 : Nat) (h1 : Nat) (hd : Nat → Nat) (hc : Nat) (nx : Nat) (sg : Nat) (hs : sg < nx) (hnx : nx ≤ 64) (hh : hd sg = 1) : Ct lL g y_Ar_holds (.code y_Ar_holds b_Ar_holds 2 (some .boolean)) 0 0 [.ref h0, .int (nI sg)] (wAr g h0 h1 hd hc nx) (exP (some (.int (nI 1))) (wAr g h0 h1 hd hc nx)) := by
  refine Ct.ofW (by decide) (Nat.le_of_ble_eq_true rfl) ?_
  intro pX eX sX mX aX bX tX cX AX lsX HX oX QX zx zb zr zk zm zo zg zK zP zD zA zS zQ zl
  have zo : sX.vm.findClass R_Ar = some mX.cls := zo
  have zl : lv_has lsX 2 [(0, .ref h0), (1, .int (nI sg))] := zl
  refine lv_iload_n zx zb d_Ar_holds_0 rfl (lv_at zl 1 rfl) ?_
  refine wn_ilt_F (tgt := 25) zx zb d_Ar_holds_1 (by decide) (by omega) (trivial) ?_
  refine lv_iload_n zx zb d_Ar_holds_4 rfl (lv_at zl 1 rfl) ?_
  refine lv_aload_n zx zb d_Ar_holds_5 rfl (lv_at zl 0 rfl) ?_
  refine wv_get zx zb zg hin_Ar rfl zo zK zP 0 rfl 2 (by decide) rfl fl_Ar_15 rfl d_Ar_holds_6 ?_
  refine wn_cge_F (tgt := 25) zx zb d_Ar_holds_9 (by decide) (by omega) (by omega) (by omega) ?_
  refine lv_aload_n zx zb d_Ar_holds_12 rfl (lv_at zl 0 rfl) ?_
  refine wv_get zx zb zg hin_Ar rfl zo zK zP 0 rfl 0 (by decide) rfl fl_Ar_9 rfl d_Ar_holds_13 ?_
  refine lv_iload_n zx zb d_Ar_holds_16 rfl (lv_at zl 1 rfl) ?_
  refine wv_zaldN zx zb zK zP 1 rfl (by omega) (by decide) d_Ar_holds_17 ?_
  refine wn_ieq_F (tgt := 25) zx zb d_Ar_holds_18 (by decide) (by omega) (by omega) ?_
  refine lv_iconst (v := (nI 1)) zx zb d_Ar_holds_21 (by decide) ?_
  refine lv_goto (tgt := 26) zx zb d_Ar_holds_22 (by decide) ?_
  exact ct_zret zQ zx zb zr zk zP zD zS d_Ar_holds_26 rfl (by decide) (⟨rfl, rfl⟩)
set_option maxRecDepth 20000 in
theorem c_Ar_holds_f (lL : Launch) (g : Gt) (h0 : Nat) (h1 : Nat) (hd : Nat → Nat) (hc : Nat) (nx : Nat) (sg : Nat) (hs : sg < nx) (hnx : nx ≤ 64) (hh : hd sg = 0) : Ct lL g y_Ar_holds (.code y_Ar_holds b_Ar_holds 2 (some .boolean)) 0 0 [.ref h0, .int (nI sg)] (wAr g h0 h1 hd hc nx) (exP (some (.int (nI 0))) (wAr g h0 h1 hd hc nx)) := by
  refine Ct.ofW (by decide) (Nat.le_of_ble_eq_true rfl) ?_
  intro pX eX sX mX aX bX tX cX AX lsX HX oX QX zx zb zr zk zm zo zg zK zP zD zA zS zQ zl
  have zo : sX.vm.findClass R_Ar = some mX.cls := zo
  have zl : lv_has lsX 2 [(0, .ref h0), (1, .int (nI sg))] := zl
  refine lv_iload_n zx zb d_Ar_holds_0 rfl (lv_at zl 1 rfl) ?_
  refine wn_ilt_F (tgt := 25) zx zb d_Ar_holds_1 (by decide) (by omega) (trivial) ?_
  refine lv_iload_n zx zb d_Ar_holds_4 rfl (lv_at zl 1 rfl) ?_
  refine lv_aload_n zx zb d_Ar_holds_5 rfl (lv_at zl 0 rfl) ?_
  refine wv_get zx zb zg hin_Ar rfl zo zK zP 0 rfl 2 (by decide) rfl fl_Ar_15 rfl d_Ar_holds_6 ?_
  refine wn_cge_F (tgt := 25) zx zb d_Ar_holds_9 (by decide) (by omega) (by omega) (by omega) ?_
  refine lv_aload_n zx zb d_Ar_holds_12 rfl (lv_at zl 0 rfl) ?_
  refine wv_get zx zb zg hin_Ar rfl zo zK zP 0 rfl 0 (by decide) rfl fl_Ar_9 rfl d_Ar_holds_13 ?_
  refine lv_iload_n zx zb d_Ar_holds_16 rfl (lv_at zl 1 rfl) ?_
  refine wv_zaldN zx zb zK zP 1 rfl (by omega) (by decide) d_Ar_holds_17 ?_
  refine wn_ieq_T (tgt := 25) zx zb d_Ar_holds_18 (by decide) (by omega) (by omega) ?_
  refine lv_iconst (v := (nI 0)) zx zb d_Ar_holds_25 (by decide) ?_
  exact ct_zret zQ zx zb zr zk zP zD zS d_Ar_holds_26 rfl (by decide) (⟨rfl, rfl⟩)
set_option maxRecDepth 20000 in
theorem c_Ar_holds_g (lL : Launch) (g : Gt) (h0 : Nat) (h1 : Nat) (hd : Nat → Nat) (hc : Nat) (nx : Nat) (sg : Nat) (hs : nx ≤ sg) (hnx : nx ≤ 64) (hb2 : sg < 2147483648) : Ct lL g y_Ar_holds (.code y_Ar_holds b_Ar_holds 2 (some .boolean)) 0 0 [.ref h0, .int (nI sg)] (wAr g h0 h1 hd hc nx) (exP (some (.int (nI 0))) (wAr g h0 h1 hd hc nx)) := by
  refine Ct.ofW (by decide) (Nat.le_of_ble_eq_true rfl) ?_
  intro pX eX sX mX aX bX tX cX AX lsX HX oX QX zx zb zr zk zm zo zg zK zP zD zA zS zQ zl
  have zo : sX.vm.findClass R_Ar = some mX.cls := zo
  have zl : lv_has lsX 2 [(0, .ref h0), (1, .int (nI sg))] := zl
  refine lv_iload_n zx zb d_Ar_holds_0 rfl (lv_at zl 1 rfl) ?_
  refine wn_ilt_F (tgt := 25) zx zb d_Ar_holds_1 (by decide) (by omega) (trivial) ?_
  refine lv_iload_n zx zb d_Ar_holds_4 rfl (lv_at zl 1 rfl) ?_
  refine lv_aload_n zx zb d_Ar_holds_5 rfl (lv_at zl 0 rfl) ?_
  refine wv_get zx zb zg hin_Ar rfl zo zK zP 0 rfl 2 (by decide) rfl fl_Ar_15 rfl d_Ar_holds_6 ?_
  refine wn_cge_T (tgt := 25) zx zb d_Ar_holds_9 (by decide) (by omega) (by omega) (by omega) ?_
  refine lv_iconst (v := (nI 0)) zx zb d_Ar_holds_25 (by decide) ?_
  exact ct_zret zQ zx zb zr zk zP zD zS d_Ar_holds_26 rfl (by decide) (⟨rfl, rfl⟩)
set_option maxRecDepth 20000 in
theorem c_Ar_holds_n (lL : Launch) (g : Gt) (h0 : Nat) (h1 : Nat) (hd : Nat → Nat) (hc : Nat) (nx : Nat) (sg : Int32) (hs : sg < 0) : Ct lL g y_Ar_holds (.code y_Ar_holds b_Ar_holds 2 (some .boolean)) 0 0 [.ref h0, .int sg] (wAr g h0 h1 hd hc nx) (exP (some (.int (nI 0))) (wAr g h0 h1 hd hc nx)) := by
  refine Ct.ofW (by decide) (Nat.le_of_ble_eq_true rfl) ?_
  intro pX eX sX mX aX bX tX cX AX lsX HX oX QX zx zb zr zk zm zo zg zK zP zD zA zS zQ zl
  have zo : sX.vm.findClass R_Ar = some mX.cls := zo
  have zl : lv_has lsX 2 [(0, .ref h0), (1, .int sg)] := zl
  refine lv_iload_n zx zb d_Ar_holds_0 rfl (lv_at zl 1 rfl) ?_
  refine lv_if_lt (tgt := 25) zx zb d_Ar_holds_1 (by decide) (fun _ => ?_) (fun h => absurd h (fun h => absurd hs h))
  refine lv_iconst (v := (nI 0)) zx zb d_Ar_holds_25 (by decide) ?_
  exact ct_zret zQ zx zb zr zk zP zD zS d_Ar_holds_26 rfl (by decide) (⟨rfl, rfl⟩)
set_option maxRecDepth 20000 in
theorem c_Ar_release_t (lL : Launch) (g : Gt) (h0 : Nat) (h1 : Nat) (hd : Nat → Nat) (hc : Nat) (nx : Nat) (sg : Nat) (hs : sg < nx) (hnx : nx ≤ 64) (hh : hd sg = 1) (hc1 : 0 < hc) : Ct lL g y_Ar_release (.code y_Ar_release b_Ar_release 2 (some .boolean)) 1 21 [.ref h0, .int (nI sg)] (wAr g h0 h1 hd hc nx) (exP (some (.int (nI 1))) (wAr g h0 h1 (va_up hd sg 0) (hc - 1) nx)) := by
  refine Ct.ofW (by decide) (Nat.le_of_ble_eq_true rfl) ?_
  intro pX eX sX mX aX bX tX cX AX lsX HX oX QX zx zb zr zk zm zo zg zK zP zD zA zS zQ zl
  have zo : sX.vm.findClass R_Ar = some mX.cls := zo
  have zl : lv_has lsX 2 [(0, .ref h0), (1, .int (nI sg))] := zl
  refine lv_aload_n zx zb d_Ar_release_0 rfl (lv_at zl 0 rfl) ?_
  refine lv_iload_n zx zb d_Ar_release_1 rfl (lv_at zl 1 rfl) ?_
  refine ct_V (ws' := wAr g h0 h1 hd hc nx) (rest := []) (st1 := [.int (nI 1)]) zx zb zm zo zg zK zP zD zS zA zl.1 (c_Ar_holds_t lL g h0 h1 hd hc nx sg (by omega) (by omega) (by omega)) ok_Ar_holds ov_Ar_holds ml_Ar_22 (by decide) 0 5 rfl rfl rfl [0, 1] [] 2 (by decide) rfl rfl rfl rfl (by decide) rfl rfl rfl (Nat.le_of_ble_eq_true rfl) d_Ar_release_2 (fun HX oX zP zD zS => ?_)
  refine wn_ine_T (tgt := 10) zx zb d_Ar_release_5 (by decide) (by omega) (by omega) ?_
  refine lv_aload_n zx zb d_Ar_release_10 rfl (lv_at zl 0 rfl) ?_
  refine wv_get zx zb zg hin_Ar rfl zo zK zP 0 rfl 0 (by decide) rfl fl_Ar_9 rfl d_Ar_release_11 ?_
  refine lv_iload_n zx zb d_Ar_release_14 rfl (lv_at zl 1 rfl) ?_
  refine lv_iconst (v := (nI 0)) zx zb d_Ar_release_15 (by decide) ?_
  refine wv_zastN zx zb zK zP zD zS 1 rfl (by omega) (by decide) (by decide) d_Ar_release_16 (fun HX oX zP zD zS => ?_)
  have zP : va_P g.1 cls (wAr g h0 h1 (va_up hd sg 0) hc nx) HX := zP
  have zD : va_D AX (wAr g h0 h1 (va_up hd sg 0) hc nx) := zD
  refine lv_aload_n zx zb d_Ar_release_17 rfl (lv_at zl 0 rfl) ?_
  refine lv_dup zx zb d_Ar_release_18 rfl ?_
  refine wv_get zx zb zg hin_Ar rfl zo zK zP 0 rfl 1 (by decide) rfl fl_Ar_19 rfl d_Ar_release_19 ?_
  refine lv_iconst (v := (nI 1)) zx zb d_Ar_release_22 (by decide) ?_
  refine wv_isub zx zb d_Ar_release_23 (pk_sub (by omega)) ?_
  refine wv_put zx zb zg hin_Ar rfl t_Ar t_Ar_ok n_Ar zo zK zP zD zS 0 rfl 1 (by decide) rfl fl_Ar_19 rfl rfl rfl (Nat.le_of_ble_eq_true rfl) d_Ar_release_24 (fun HX oX zP zD zS => ?_)
  have zP : va_P g.1 cls (wAr g h0 h1 (va_up hd sg 0) (hc - 1) nx) HX := zP
  have zD : va_D AX (wAr g h0 h1 (va_up hd sg 0) (hc - 1) nx) := zD
  refine lv_iconst (v := (nI 1)) zx zb d_Ar_release_27 (by decide) ?_
  exact ct_zret zQ zx zb zr zk zP zD zS d_Ar_release_28 rfl (by decide) (⟨rfl, rfl⟩)
set_option maxRecDepth 20000 in
theorem c_Ar_release_f (lL : Launch) (g : Gt) (h0 : Nat) (h1 : Nat) (hd : Nat → Nat) (hc : Nat) (nx : Nat) (sg : Nat) (hs : sg < nx) (hnx : nx ≤ 64) (hh : hd sg = 0) : Ct lL g y_Ar_release (.code y_Ar_release b_Ar_release 2 (some .boolean)) 1 21 [.ref h0, .int (nI sg)] (wAr g h0 h1 hd hc nx) (exP (some (.int (nI 0))) (wAr g h0 h1 hd hc nx)) := by
  refine Ct.ofW (by decide) (Nat.le_of_ble_eq_true rfl) ?_
  intro pX eX sX mX aX bX tX cX AX lsX HX oX QX zx zb zr zk zm zo zg zK zP zD zA zS zQ zl
  have zo : sX.vm.findClass R_Ar = some mX.cls := zo
  have zl : lv_has lsX 2 [(0, .ref h0), (1, .int (nI sg))] := zl
  refine lv_aload_n zx zb d_Ar_release_0 rfl (lv_at zl 0 rfl) ?_
  refine lv_iload_n zx zb d_Ar_release_1 rfl (lv_at zl 1 rfl) ?_
  refine ct_V (ws' := wAr g h0 h1 hd hc nx) (rest := []) (st1 := [.int (nI 0)]) zx zb zm zo zg zK zP zD zS zA zl.1 (c_Ar_holds_f lL g h0 h1 hd hc nx sg (by omega) (by omega) (by omega)) ok_Ar_holds ov_Ar_holds ml_Ar_22 (by decide) 0 5 rfl rfl rfl [0, 1] [] 2 (by decide) rfl rfl rfl rfl (by decide) rfl rfl rfl (Nat.le_of_ble_eq_true rfl) d_Ar_release_2 (fun HX oX zP zD zS => ?_)
  refine wn_ine_F (tgt := 10) zx zb d_Ar_release_5 (by decide) (by omega) (by omega) ?_
  refine lv_iconst (v := (nI 0)) zx zb d_Ar_release_8 (by decide) ?_
  exact ct_zret zQ zx zb zr zk zP zD zS d_Ar_release_9 rfl (by decide) (⟨rfl, rfl⟩)
set_option maxRecDepth 20000 in
theorem c_Ar_release_g (lL : Launch) (g : Gt) (h0 : Nat) (h1 : Nat) (hd : Nat → Nat) (hc : Nat) (nx : Nat) (sg : Nat) (hs : nx ≤ sg) (hnx : nx ≤ 64) (hb2 : sg < 2147483648) : Ct lL g y_Ar_release (.code y_Ar_release b_Ar_release 2 (some .boolean)) 1 21 [.ref h0, .int (nI sg)] (wAr g h0 h1 hd hc nx) (exP (some (.int (nI 0))) (wAr g h0 h1 hd hc nx)) := by
  refine Ct.ofW (by decide) (Nat.le_of_ble_eq_true rfl) ?_
  intro pX eX sX mX aX bX tX cX AX lsX HX oX QX zx zb zr zk zm zo zg zK zP zD zA zS zQ zl
  have zo : sX.vm.findClass R_Ar = some mX.cls := zo
  have zl : lv_has lsX 2 [(0, .ref h0), (1, .int (nI sg))] := zl
  refine lv_aload_n zx zb d_Ar_release_0 rfl (lv_at zl 0 rfl) ?_
  refine lv_iload_n zx zb d_Ar_release_1 rfl (lv_at zl 1 rfl) ?_
  refine ct_V (ws' := wAr g h0 h1 hd hc nx) (rest := []) (st1 := [.int (nI 0)]) zx zb zm zo zg zK zP zD zS zA zl.1 (c_Ar_holds_g lL g h0 h1 hd hc nx sg (by omega) (by omega) (by omega)) ok_Ar_holds ov_Ar_holds ml_Ar_22 (by decide) 0 5 rfl rfl rfl [0, 1] [] 2 (by decide) rfl rfl rfl rfl (by decide) rfl rfl rfl (Nat.le_of_ble_eq_true rfl) d_Ar_release_2 (fun HX oX zP zD zS => ?_)
  refine wn_ine_F (tgt := 10) zx zb d_Ar_release_5 (by decide) (by omega) (by omega) ?_
  refine lv_iconst (v := (nI 0)) zx zb d_Ar_release_8 (by decide) ?_
  exact ct_zret zQ zx zb zr zk zP zD zS d_Ar_release_9 rfl (by decide) (⟨rfl, rfl⟩)
set_option maxRecDepth 20000 in
theorem c_Ar_release_n (lL : Launch) (g : Gt) (h0 : Nat) (h1 : Nat) (hd : Nat → Nat) (hc : Nat) (nx : Nat) (sg : Int32) (hs : sg < 0) : Ct lL g y_Ar_release (.code y_Ar_release b_Ar_release 2 (some .boolean)) 1 21 [.ref h0, .int sg] (wAr g h0 h1 hd hc nx) (exP (some (.int (nI 0))) (wAr g h0 h1 hd hc nx)) := by
  refine Ct.ofW (by decide) (Nat.le_of_ble_eq_true rfl) ?_
  intro pX eX sX mX aX bX tX cX AX lsX HX oX QX zx zb zr zk zm zo zg zK zP zD zA zS zQ zl
  have zo : sX.vm.findClass R_Ar = some mX.cls := zo
  have zl : lv_has lsX 2 [(0, .ref h0), (1, .int sg)] := zl
  refine lv_aload_n zx zb d_Ar_release_0 rfl (lv_at zl 0 rfl) ?_
  refine lv_iload_n zx zb d_Ar_release_1 rfl (lv_at zl 1 rfl) ?_
  refine ct_V (ws' := wAr g h0 h1 hd hc nx) (rest := []) (st1 := [.int (nI 0)]) zx zb zm zo zg zK zP zD zS zA zl.1 (c_Ar_holds_n lL g h0 h1 hd hc nx sg hs) ok_Ar_holds ov_Ar_holds ml_Ar_22 (by decide) 0 5 rfl rfl rfl [0, 1] [] 2 (by decide) rfl rfl rfl rfl (by decide) rfl rfl rfl (Nat.le_of_ble_eq_true rfl) d_Ar_release_2 (fun HX oX zP zD zS => ?_)
  refine wn_ine_F (tgt := 10) zx zb d_Ar_release_5 (by decide) (by omega) (by omega) ?_
  refine lv_iconst (v := (nI 0)) zx zb d_Ar_release_8 (by decide) ?_
  exact ct_zret zQ zx zb zr zk zP zD zS d_Ar_release_9 rfl (by decide) (⟨rfl, rfl⟩)
/-- the first segment from s on that is not held -/
def hgS (hd : Nat → Nat) (nx : Nat) : Nat → Nat → Nat
  | s, 0 => s
  | s, n + 1 => if s < nx ∧ hd s = 1 then hgS hd nx (s + 1) n else s
theorem hgS_le (hd : Nat → Nat) (nx : Nat) : ∀ (n s : Nat), s ≤ hgS hd nx s n ∧ hgS hd nx s n ≤ s + n
  | 0, s => ⟨Nat.le_refl _, Nat.le_refl _⟩
  | n + 1, s => by
    have := hgS_le hd nx n (s + 1)
    show s ≤ (if s < nx ∧ hd s = 1 then hgS hd nx (s + 1) n else s) ∧ (if s < nx ∧ hd s = 1 then hgS hd nx (s + 1) n else s) ≤ s + (n + 1)
    split <;> omega
set_option maxRecDepth 20000 in
theorem c_Ar_heldFrom (lL : Launch) (g : Gt) (h0 : Nat) (h1 : Nat) (hd : Nat → Nat) (hc : Nat) (nx : Nat) (rc : Nat) (hnx : nx ≤ 64) (hh : ∀ j, j < 64 → hd j = 0 ∨ hd j = 1) (hr0 : rc ≤ 512) : Ct lL g y_Ar_heldWithoutGapFrom (.code y_Ar_heldWithoutGapFrom b_Ar_heldWithoutGapFrom 3 (some .int)) 1 21 [.ref h0, .int (nI rc)] (wAr g h0 h1 hd hc nx) (exP (some (.int (nI (hgS hd nx (rc / 8) (64 - rc / 8) * 8)))) (wAr g h0 h1 hd hc nx)) := by
  refine Ct.ofW (by decide) (Nat.le_of_ble_eq_true rfl) ?_
  intro pX eX sX mX aX bX tX cX AX lsX HX oX QX zx zb zr zk zm zo zg zK zP zD zA zS zQ zl
  have zo : sX.vm.findClass R_Ar = some mX.cls := zo
  have zl : lv_has lsX 3 [(0, .ref h0), (1, .int (nI rc))] := zl
  refine lv_iload_n zx zb d_Ar_heldWithoutGapFrom_0 rfl (lv_at zl 1 rfl) ?_
  refine lv_bipush (v := (nI 8)) zx zb d_Ar_heldWithoutGapFrom_1 (by decide) ?_
  refine wv_idiv zx zb d_Ar_heldWithoutGapFrom_3 (by omega) (by omega) (by omega) ?_
  refine lv_istore_n (lv' := [(2, .int (nI (rc / 8))), (0, .ref h0), (1, .int (nI rc))]) zx zb d_Ar_heldWithoutGapFrom_4 rfl zl (by decide) rfl (fun lsX zl => ?_)
  have loop5 : ∀ (kk : Nat) (s : Nat), kk = 64 - s → (s ≤ 64) → (hgS hd nx s (64 - s) = hgS hd nx (rc / 8) (64 - rc / 8)) → ∀ (lsX : Array Slot) (HX : Heap) (oX : List Loc), lv_has lsX 3 [(0, .ref h0), (1, .int (nI rc)), (2, .int (nI s))] → va_P g.1 cls (wAr g h0 h1 hd hc nx) HX → va_D AX (wAr g h0 h1 hd hc nx) → va_S AX sX.heap HX oX → W pX lL eX (rmL 1 21) sX mX aX bX tX cX HX oX 0 0 QX (F0 mX 5 lsX []) := by
    intro kk
    induction kk using Nat.strongRecOn with
    | ind kk ih_loop5 =>
      intro s hkk hs hi lsX HX oX zl zP zD zS
      rcases Nat.lt_or_ge s 64 with h3 | h3
      · have e3 : 64 - s = (64 - (s + 1)) + 1 := by omega
        rw [e3] at hi
        refine lv_iload_n zx zb d_Ar_heldWithoutGapFrom_5 rfl (lv_at zl 2 rfl) ?_
        refine lv_bipush (v := (nI 64)) zx zb d_Ar_heldWithoutGapFrom_6 (by decide) ?_
        refine wn_cge_F (tgt := 25) zx zb d_Ar_heldWithoutGapFrom_8 (by decide) (by omega) (by omega) (by omega) ?_
        rcases Nat.lt_or_ge s nx with hz | hz
        · have hv := hh s h3
          refine lv_aload_n zx zb d_Ar_heldWithoutGapFrom_11 rfl (lv_at zl 0 rfl) ?_
          rcases hv with hv | hv
          · have hi : s = hgS hd nx (rc / 8) (64 - rc / 8) := (if_neg (by omega)).symm.trans hi
            refine lv_iload_n zx zb d_Ar_heldWithoutGapFrom_12 rfl (lv_at zl 2 rfl) ?_
            refine ct_V (ws' := wAr g h0 h1 hd hc nx) (rest := []) (st1 := [.int (nI 0)]) zx zb zm zo zg zK zP zD zS zA zl.1 (c_Ar_holds_f lL g h0 h1 hd hc nx s (by omega) (by omega) (by omega)) ok_Ar_holds ov_Ar_holds ml_Ar_22 (by decide) 0 5 rfl rfl rfl [0, 1] [] 2 (by decide) rfl rfl rfl rfl (by decide) rfl rfl rfl (Nat.le_of_ble_eq_true rfl) d_Ar_heldWithoutGapFrom_13 (fun HX oX zP zD zS => ?_)
            refine wn_ieq_T (tgt := 25) zx zb d_Ar_heldWithoutGapFrom_16 (by decide) (by omega) (by omega) ?_
            refine lv_iload_n zx zb d_Ar_heldWithoutGapFrom_25 rfl (lv_at zl 2 rfl) ?_
            refine lv_bipush (v := (nI 8)) zx zb d_Ar_heldWithoutGapFrom_26 (by decide) ?_
            refine wv_imul zx zb d_Ar_heldWithoutGapFrom_28 (pk_mul _ _) ?_
            exact ct_iret zQ zx zb zr zk zP zD zS d_Ar_heldWithoutGapFrom_29 rfl (⟨by rw [hi], rfl⟩)
          · have hi : hgS hd nx (s + 1) (64 - (s + 1)) = hgS hd nx (rc / 8) (64 - rc / 8) := (if_pos ⟨hz, hv⟩).symm.trans hi
            refine lv_iload_n zx zb d_Ar_heldWithoutGapFrom_12 rfl (lv_at zl 2 rfl) ?_
            refine ct_V (ws' := wAr g h0 h1 hd hc nx) (rest := []) (st1 := [.int (nI 1)]) zx zb zm zo zg zK zP zD zS zA zl.1 (c_Ar_holds_t lL g h0 h1 hd hc nx s (by omega) (by omega) (by omega)) ok_Ar_holds ov_Ar_holds ml_Ar_22 (by decide) 0 5 rfl rfl rfl [0, 1] [] 2 (by decide) rfl rfl rfl rfl (by decide) rfl rfl rfl (Nat.le_of_ble_eq_true rfl) d_Ar_heldWithoutGapFrom_13 (fun HX oX zP zD zS => ?_)
            refine wn_ieq_F (tgt := 25) zx zb d_Ar_heldWithoutGapFrom_16 (by decide) (by omega) (by omega) ?_
            refine lv_iinc (k := 2) (lv' := [(2, .int (nI (s + 1))), (0, .ref h0), (1, .int (nI rc))]) zx zb d_Ar_heldWithoutGapFrom_19 zl rfl (ni_inc _) (by decide) rfl (fun lsX zl => ?_)
            refine lv_goto (tgt := 5) zx zb d_Ar_heldWithoutGapFrom_22 (by decide) ?_
            exact ih_loop5 _ (by omega) (s + 1) rfl (by omega) hi lsX HX oX (lv_sub zl [1, 2, 0] rfl) zP zD zS
        · have hi : s = hgS hd nx (rc / 8) (64 - rc / 8) := (if_neg (by omega)).symm.trans hi
          refine lv_aload_n zx zb d_Ar_heldWithoutGapFrom_11 rfl (lv_at zl 0 rfl) ?_
          refine lv_iload_n zx zb d_Ar_heldWithoutGapFrom_12 rfl (lv_at zl 2 rfl) ?_
          refine ct_V (ws' := wAr g h0 h1 hd hc nx) (rest := []) (st1 := [.int (nI 0)]) zx zb zm zo zg zK zP zD zS zA zl.1 (c_Ar_holds_g lL g h0 h1 hd hc nx s (by omega) (by omega) (by omega)) ok_Ar_holds ov_Ar_holds ml_Ar_22 (by decide) 0 5 rfl rfl rfl [0, 1] [] 2 (by decide) rfl rfl rfl rfl (by decide) rfl rfl rfl (Nat.le_of_ble_eq_true rfl) d_Ar_heldWithoutGapFrom_13 (fun HX oX zP zD zS => ?_)
          refine wn_ieq_T (tgt := 25) zx zb d_Ar_heldWithoutGapFrom_16 (by decide) (by omega) (by omega) ?_
          refine lv_iload_n zx zb d_Ar_heldWithoutGapFrom_25 rfl (lv_at zl 2 rfl) ?_
          refine lv_bipush (v := (nI 8)) zx zb d_Ar_heldWithoutGapFrom_26 (by decide) ?_
          refine wv_imul zx zb d_Ar_heldWithoutGapFrom_28 (pk_mul _ _) ?_
          exact ct_iret zQ zx zb zr zk zP zD zS d_Ar_heldWithoutGapFrom_29 rfl (⟨by rw [hi], rfl⟩)
      · have e3 : s = 64 := by omega
        subst e3
        have hi : 64 = hgS hd nx (rc / 8) (64 - rc / 8) := hi
        refine lv_iload_n zx zb d_Ar_heldWithoutGapFrom_5 rfl (lv_at zl 2 rfl) ?_
        refine lv_bipush (v := (nI 64)) zx zb d_Ar_heldWithoutGapFrom_6 (by decide) ?_
        refine wn_cge_T (tgt := 25) zx zb d_Ar_heldWithoutGapFrom_8 (by decide) (by omega) (by omega) (by omega) ?_
        refine lv_iload_n zx zb d_Ar_heldWithoutGapFrom_25 rfl (lv_at zl 2 rfl) ?_
        refine lv_bipush (v := (nI 8)) zx zb d_Ar_heldWithoutGapFrom_26 (by decide) ?_
        refine wv_imul zx zb d_Ar_heldWithoutGapFrom_28 (pk_mul _ _) ?_
        exact ct_iret zQ zx zb zr zk zP zD zS d_Ar_heldWithoutGapFrom_29 rfl (⟨by rw [← hi], rfl⟩)
  exact loop5 _ (rc / 8) rfl (by omega) rfl lsX HX oX (lv_sub zl [1, 2, 0] rfl) zP zD zS
set_option maxRecDepth 20000 in
theorem c_Ar_holdsRec_t (lL : Launch) (g : Gt) (h0 : Nat) (h1 : Nat) (hd : Nat → Nat) (hc : Nat) (nx : Nat) (rc : Nat) (en : Nat) (hnx : nx ≤ 64) (hh : ∀ j, j < 64 → hd j = 0 ∨ hd j = 1) (hr0 : rc ≤ 512) (he : en ≤ hgS hd nx (rc / 8) (64 - rc / 8) * 8) : Ct lL g y_Ar_holdsRecords (.code y_Ar_holdsRecords b_Ar_holdsRecords 3 (some .boolean)) 2 43 [.ref h0, .int (nI rc), .int (nI en)] (wAr g h0 h1 hd hc nx) (exP (some (.int (nI 1))) (wAr g h0 h1 hd hc nx)) := by
  refine Ct.ofW (by decide) (Nat.le_of_ble_eq_true rfl) ?_
  intro pX eX sX mX aX bX tX cX AX lsX HX oX QX zx zb zr zk zm zo zg zK zP zD zA zS zQ zl
  have zo : sX.vm.findClass R_Ar = some mX.cls := zo
  have zl : lv_has lsX 3 [(0, .ref h0), (1, .int (nI rc)), (2, .int (nI en))] := zl
  have hle := hgS_le hd nx (64 - rc / 8) (rc / 8)
  refine lv_iload_n zx zb d_Ar_holdsRecords_0 rfl (lv_at zl 2 rfl) ?_
  refine lv_aload_n zx zb d_Ar_holdsRecords_1 rfl (lv_at zl 0 rfl) ?_
  refine lv_iload_n zx zb d_Ar_holdsRecords_2 rfl (lv_at zl 1 rfl) ?_
  refine ct_V (ws' := wAr g h0 h1 hd hc nx) (rest := [.int (nI en)]) (st1 := [.int (nI (hgS hd nx (rc / 8) (64 - rc / 8) * 8)), .int (nI en)]) zx zb zm zo zg zK zP zD zS zA zl.1 (c_Ar_heldFrom lL g h0 h1 hd hc nx rc (by omega) hh (by omega)) ok_Ar_heldWithoutGapFrom ov_Ar_heldWithoutGapFrom ml_Ar_26 (by decide) 0 5 rfl rfl rfl [0, 1] [] 2 (by decide) rfl rfl rfl rfl (by decide) rfl rfl rfl (Nat.le_of_ble_eq_true rfl) d_Ar_holdsRecords_3 (fun HX oX zP zD zS => ?_)
  refine wn_cgt_F (tgt := 13) zx zb d_Ar_holdsRecords_6 (by decide) (by omega) (by omega) (by omega) ?_
  refine lv_iconst (v := (nI 1)) zx zb d_Ar_holdsRecords_9 (by decide) ?_
  refine lv_goto (tgt := 14) zx zb d_Ar_holdsRecords_10 (by decide) ?_
  exact ct_zret zQ zx zb zr zk zP zD zS d_Ar_holdsRecords_14 rfl (by decide) (⟨rfl, rfl⟩)
set_option maxRecDepth 20000 in
theorem c_Ar_holdsRec_f (lL : Launch) (g : Gt) (h0 : Nat) (h1 : Nat) (hd : Nat → Nat) (hc : Nat) (nx : Nat) (rc : Nat) (en : Nat) (hnx : nx ≤ 64) (hh : ∀ j, j < 64 → hd j = 0 ∨ hd j = 1) (hr0 : rc ≤ 512) (he : hgS hd nx (rc / 8) (64 - rc / 8) * 8 < en) (he2 : en < 2147483648) : Ct lL g y_Ar_holdsRecords (.code y_Ar_holdsRecords b_Ar_holdsRecords 3 (some .boolean)) 2 43 [.ref h0, .int (nI rc), .int (nI en)] (wAr g h0 h1 hd hc nx) (exP (some (.int (nI 0))) (wAr g h0 h1 hd hc nx)) := by
  refine Ct.ofW (by decide) (Nat.le_of_ble_eq_true rfl) ?_
  intro pX eX sX mX aX bX tX cX AX lsX HX oX QX zx zb zr zk zm zo zg zK zP zD zA zS zQ zl
  have zo : sX.vm.findClass R_Ar = some mX.cls := zo
  have zl : lv_has lsX 3 [(0, .ref h0), (1, .int (nI rc)), (2, .int (nI en))] := zl
  have hle := hgS_le hd nx (64 - rc / 8) (rc / 8)
  refine lv_iload_n zx zb d_Ar_holdsRecords_0 rfl (lv_at zl 2 rfl) ?_
  refine lv_aload_n zx zb d_Ar_holdsRecords_1 rfl (lv_at zl 0 rfl) ?_
  refine lv_iload_n zx zb d_Ar_holdsRecords_2 rfl (lv_at zl 1 rfl) ?_
  refine ct_V (ws' := wAr g h0 h1 hd hc nx) (rest := [.int (nI en)]) (st1 := [.int (nI (hgS hd nx (rc / 8) (64 - rc / 8) * 8)), .int (nI en)]) zx zb zm zo zg zK zP zD zS zA zl.1 (c_Ar_heldFrom lL g h0 h1 hd hc nx rc (by omega) hh (by omega)) ok_Ar_heldWithoutGapFrom ov_Ar_heldWithoutGapFrom ml_Ar_26 (by decide) 0 5 rfl rfl rfl [0, 1] [] 2 (by decide) rfl rfl rfl rfl (by decide) rfl rfl rfl (Nat.le_of_ble_eq_true rfl) d_Ar_holdsRecords_3 (fun HX oX zP zD zS => ?_)
  refine wn_cgt_T (tgt := 13) zx zb d_Ar_holdsRecords_6 (by decide) (by omega) (by omega) (by omega) ?_
  refine lv_iconst (v := (nI 0)) zx zb d_Ar_holdsRecords_13 (by decide) ?_
  exact ct_zret zQ zx zb zr zk zP zD zS d_Ar_holdsRecords_14 rfl (by decide) (⟨rfl, rfl⟩)
