set_option maxRecDepth 20000 in
theorem c_Log_isFull (lL : Launch) (g : Gt) (l0 : Nat) (l1 : Nat) (l2 : Nat) (l3 : Nat) (l4 : Nat) (k : Nat → Nat) (o : Nat → Nat) (ke : Nat → Nat) (va : Nat → Int32) (n : Nat) (sy : Nat) (hn : n < 512) : Ct lL g y_Log_isFull (.code y_Log_isFull b_Log_isFull 1 (some .boolean)) 0 0 [.ref l0] (wLog g l0 l1 l2 l3 l4 k o ke va n sy) (exP (some (.int (nI 0))) (wLog g l0 l1 l2 l3 l4 k o ke va n sy)) := by
  refine Ct.ofW (by decide) (Nat.le_of_ble_eq_true rfl) ?_
  intro pX eX sX mX aX bX tX cX AX lsX HX oX QX zx zb zr zk zm zo zg zK zP zD zA zS zQ zl
  have zo : sX.vm.findClass R_Log = some mX.cls := zo
  have zl : lv_has lsX 1 [(0, .ref l0)] := zl
  refine lv_aload_n zx zb d_Log_isFull_0 rfl (lv_at zl 0 rfl) ?_
  refine wv_get zx zb zg hin_Log rfl zo zK zP 0 rfl 4 (by decide) rfl fl_Log_24 rfl d_Log_isFull_1 ?_
  refine lv_sipush (v := (nI 512)) zx zb d_Log_isFull_4 (by decide) ?_
  refine wn_clt_T (tgt := 14) zx zb d_Log_isFull_7 (by decide) (by omega) (by omega) (by omega) ?_
  refine lv_iconst (v := (nI 0)) zx zb d_Log_isFull_14 (by decide) ?_
  exact ct_zret zQ zx zb zr zk zP zD zS d_Log_isFull_15 rfl (by decide) (⟨rfl, rfl⟩)
set_option maxRecDepth 20000 in
theorem c_Log_append (lL : Launch) (g : Gt) (l0 : Nat) (l1 : Nat) (l2 : Nat) (l3 : Nat) (l4 : Nat) (k : Nat → Nat) (o : Nat → Nat) (ke : Nat → Nat) (va : Nat → Int32) (n : Nat) (sy : Nat) (kd : Nat) (ow : Nat) (ky : Nat) (vl : Int32) (hn : n < 512) : Ct lL g y_Log_append (.code y_Log_append b_Log_append 5 (some .int)) 0 0 [.ref l0, .int (nI kd), .int (nI ow), .int (nI ky), .int vl] (wLog g l0 l1 l2 l3 l4 k o ke va n sy) (exP (some (.int (nI (n + 1)))) (wLog g l0 l1 l2 l3 l4 (va_up k n kd) (va_up o n ow) (va_up ke n ky) (upd va n vl) (n + 1) sy)) := by
  refine Ct.ofW (by decide) (Nat.le_of_ble_eq_true rfl) ?_
  intro pX eX sX mX aX bX tX cX AX lsX HX oX QX zx zb zr zk zm zo zg zK zP zD zA zS zQ zl
  have zo : sX.vm.findClass R_Log = some mX.cls := zo
  have zl : lv_has lsX 5 [(0, .ref l0), (1, .int (nI kd)), (2, .int (nI ow)), (3, .int (nI ky)), (4, .int vl)] := zl
  refine lv_aload_n zx zb d_Log_append_0 rfl (lv_at zl 0 rfl) ?_
  refine wv_get zx zb zg hin_Log rfl zo zK zP 0 rfl 0 (by decide) rfl fl_Log_9 rfl d_Log_append_1 ?_
  refine lv_aload_n zx zb d_Log_append_4 rfl (lv_at zl 0 rfl) ?_
  refine wv_get zx zb zg hin_Log rfl zo zK zP 0 rfl 4 (by decide) rfl fl_Log_24 rfl d_Log_append_5 ?_
  refine lv_iload_n zx zb d_Log_append_8 rfl (lv_at zl 1 rfl) ?_
  refine wv_iastN zx zb zK zP zD zS 1 rfl (by omega) (by decide) d_Log_append_9 (fun HX oX zP zD zS => ?_)
  have zP : va_P g.1 cls (wLog g l0 l1 l2 l3 l4 (va_up k n kd) o ke va n sy) HX := zP
  have zD : va_D AX (wLog g l0 l1 l2 l3 l4 (va_up k n kd) o ke va n sy) := zD
  refine lv_aload_n zx zb d_Log_append_10 rfl (lv_at zl 0 rfl) ?_
  refine wv_get zx zb zg hin_Log rfl zo zK zP 0 rfl 1 (by decide) rfl fl_Log_15 rfl d_Log_append_11 ?_
  refine lv_aload_n zx zb d_Log_append_14 rfl (lv_at zl 0 rfl) ?_
  refine wv_get zx zb zg hin_Log rfl zo zK zP 0 rfl 4 (by decide) rfl fl_Log_24 rfl d_Log_append_15 ?_
  refine lv_iload_n zx zb d_Log_append_18 rfl (lv_at zl 2 rfl) ?_
  refine wv_iastN zx zb zK zP zD zS 2 rfl (by omega) (by decide) d_Log_append_19 (fun HX oX zP zD zS => ?_)
  have zP : va_P g.1 cls (wLog g l0 l1 l2 l3 l4 (va_up k n kd) (va_up o n ow) ke va n sy) HX := zP
  have zD : va_D AX (wLog g l0 l1 l2 l3 l4 (va_up k n kd) (va_up o n ow) ke va n sy) := zD
  refine lv_aload_n zx zb d_Log_append_20 rfl (lv_at zl 0 rfl) ?_
  refine wv_get zx zb zg hin_Log rfl zo zK zP 0 rfl 2 (by decide) rfl fl_Log_18 rfl d_Log_append_21 ?_
  refine lv_aload_n zx zb d_Log_append_24 rfl (lv_at zl 0 rfl) ?_
  refine wv_get zx zb zg hin_Log rfl zo zK zP 0 rfl 4 (by decide) rfl fl_Log_24 rfl d_Log_append_25 ?_
  refine lv_iload_n zx zb d_Log_append_28 rfl (lv_at zl 3 rfl) ?_
  refine wv_iastN zx zb zK zP zD zS 3 rfl (by omega) (by decide) d_Log_append_29 (fun HX oX zP zD zS => ?_)
  have zP : va_P g.1 cls (wLog g l0 l1 l2 l3 l4 (va_up k n kd) (va_up o n ow) (va_up ke n ky) va n sy) HX := zP
  have zD : va_D AX (wLog g l0 l1 l2 l3 l4 (va_up k n kd) (va_up o n ow) (va_up ke n ky) va n sy) := zD
  refine lv_aload_n zx zb d_Log_append_30 rfl (lv_at zl 0 rfl) ?_
  refine wv_get zx zb zg hin_Log rfl zo zK zP 0 rfl 3 (by decide) rfl fl_Log_21 rfl d_Log_append_31 ?_
  refine lv_aload_n zx zb d_Log_append_34 rfl (lv_at zl 0 rfl) ?_
  refine wv_get zx zb zg hin_Log rfl zo zK zP 0 rfl 4 (by decide) rfl fl_Log_24 rfl d_Log_append_35 ?_
  refine lv_iload zx zb d_Log_append_38 (lv_at zl 4 rfl) ?_
  refine wv_iast zx zb zK zP zD zS 4 rfl (by omega) (by decide) d_Log_append_40 (fun HX oX zP zD zS => ?_)
  have zP : va_P g.1 cls (wLog g l0 l1 l2 l3 l4 (va_up k n kd) (va_up o n ow) (va_up ke n ky) (upd va n vl) n sy) HX := zP
  have zD : va_D AX (wLog g l0 l1 l2 l3 l4 (va_up k n kd) (va_up o n ow) (va_up ke n ky) (upd va n vl) n sy) := zD
  refine lv_aload_n zx zb d_Log_append_41 rfl (lv_at zl 0 rfl) ?_
  refine lv_dup zx zb d_Log_append_42 rfl ?_
  refine wv_get zx zb zg hin_Log rfl zo zK zP 0 rfl 4 (by decide) rfl fl_Log_24 rfl d_Log_append_43 ?_
  refine lv_iconst (v := (nI 1)) zx zb d_Log_append_46 (by decide) ?_
  refine wv_iadd zx zb d_Log_append_47 (nI_add _ _) ?_
  refine wv_put zx zb zg hin_Log rfl t_Log t_Log_ok n_Log zo zK zP zD zS 0 rfl 4 (by decide) rfl fl_Log_24 rfl rfl rfl (Nat.le_of_ble_eq_true rfl) d_Log_append_48 (fun HX oX zP zD zS => ?_)
  have zP : va_P g.1 cls (wLog g l0 l1 l2 l3 l4 (va_up k n kd) (va_up o n ow) (va_up ke n ky) (upd va n vl) (n + 1) sy) HX := zP
  have zD : va_D AX (wLog g l0 l1 l2 l3 l4 (va_up k n kd) (va_up o n ow) (va_up ke n ky) (upd va n vl) (n + 1) sy) := zD
  refine lv_aload_n zx zb d_Log_append_51 rfl (lv_at zl 0 rfl) ?_
  refine wv_get zx zb zg hin_Log rfl zo zK zP 0 rfl 4 (by decide) rfl fl_Log_24 rfl d_Log_append_52 ?_
  exact ct_iret zQ zx zb zr zk zP zD zS d_Log_append_55 rfl (⟨rfl, rfl⟩)
set_option maxRecDepth 20000 in
theorem c_Log_syncAll (lL : Launch) (g : Gt) (l0 : Nat) (l1 : Nat) (l2 : Nat) (l3 : Nat) (l4 : Nat) (k : Nat → Nat) (o : Nat → Nat) (ke : Nat → Nat) (va : Nat → Int32) (n : Nat) (sy : Nat) (hs : sy ≤ n) : Ct lL g y_Log_syncAll (.code y_Log_syncAll b_Log_syncAll 2 (some .int)) 0 0 [.ref l0] (wLog g l0 l1 l2 l3 l4 k o ke va n sy) (exP (some (.int (nI (n - sy)))) (wLog g l0 l1 l2 l3 l4 k o ke va n n)) := by
  refine Ct.ofW (by decide) (Nat.le_of_ble_eq_true rfl) ?_
  intro pX eX sX mX aX bX tX cX AX lsX HX oX QX zx zb zr zk zm zo zg zK zP zD zA zS zQ zl
  have zo : sX.vm.findClass R_Log = some mX.cls := zo
  have zl : lv_has lsX 2 [(0, .ref l0)] := zl
  refine lv_aload_n zx zb d_Log_syncAll_0 rfl (lv_at zl 0 rfl) ?_
  refine wv_get zx zb zg hin_Log rfl zo zK zP 0 rfl 5 (by decide) rfl fl_Log_28 rfl d_Log_syncAll_1 ?_
  refine lv_istore_n (lv' := [(1, .int (nI sy)), (0, .ref l0)]) zx zb d_Log_syncAll_4 rfl zl (by decide) rfl (fun lsX zl => ?_)
  refine lv_aload_n zx zb d_Log_syncAll_5 rfl (lv_at zl 1 rfl) ?_
  refine lv_aload_n zx zb d_Log_syncAll_6 rfl (lv_at zl 1 rfl) ?_
  refine wv_get zx zb zg hin_Log rfl zo zK zP 0 rfl 4 (by decide) rfl fl_Log_24 rfl d_Log_syncAll_7 ?_
  refine wv_put zx zb zg hin_Log rfl t_Log t_Log_ok n_Log zo zK zP zD zS 0 rfl 5 (by decide) rfl fl_Log_28 rfl rfl rfl (Nat.le_of_ble_eq_true rfl) d_Log_syncAll_10 (fun HX oX zP zD zS => ?_)
  have zP : va_P g.1 cls (wLog g l0 l1 l2 l3 l4 k o ke va n n) HX := zP
  have zD : va_D AX (wLog g l0 l1 l2 l3 l4 k o ke va n n) := zD
  refine lv_aload_n zx zb d_Log_syncAll_13 rfl (lv_at zl 1 rfl) ?_
  refine wv_get zx zb zg hin_Log rfl zo zK zP 0 rfl 4 (by decide) rfl fl_Log_24 rfl d_Log_syncAll_14 ?_
  refine lv_iload_n zx zb d_Log_syncAll_17 rfl (lv_at zl 0 rfl) ?_
  refine wv_isub zx zb d_Log_syncAll_18 (pk_sub (by omega)) ?_
  exact ct_iret zQ zx zb zr zk zP zD zS d_Log_syncAll_19 rfl (⟨rfl, rfl⟩)
set_option maxRecDepth 20000 in
theorem c_Log_loseUnsynced (lL : Launch) (g : Gt) (l0 : Nat) (l1 : Nat) (l2 : Nat) (l3 : Nat) (l4 : Nat) (k : Nat → Nat) (o : Nat → Nat) (ke : Nat → Nat) (va : Nat → Int32) (n : Nat) (sy : Nat) (hs : sy ≤ n) : Ct lL g y_Log_loseUnsynced (.code y_Log_loseUnsynced b_Log_loseUnsynced 2 (some .int)) 0 0 [.ref l0] (wLog g l0 l1 l2 l3 l4 k o ke va n sy) (exP (some (.int (nI (n - sy)))) (wLog g l0 l1 l2 l3 l4 k o ke va sy sy)) := by
  refine Ct.ofW (by decide) (Nat.le_of_ble_eq_true rfl) ?_
  intro pX eX sX mX aX bX tX cX AX lsX HX oX QX zx zb zr zk zm zo zg zK zP zD zA zS zQ zl
  have zo : sX.vm.findClass R_Log = some mX.cls := zo
  have zl : lv_has lsX 2 [(0, .ref l0)] := zl
  refine lv_aload_n zx zb d_Log_loseUnsynced_0 rfl (lv_at zl 0 rfl) ?_
  refine wv_get zx zb zg hin_Log rfl zo zK zP 0 rfl 4 (by decide) rfl fl_Log_24 rfl d_Log_loseUnsynced_1 ?_
  refine lv_aload_n zx zb d_Log_loseUnsynced_4 rfl (lv_at zl 0 rfl) ?_
  refine wv_get zx zb zg hin_Log rfl zo zK zP 0 rfl 5 (by decide) rfl fl_Log_28 rfl d_Log_loseUnsynced_5 ?_
  refine wv_isub zx zb d_Log_loseUnsynced_8 (pk_sub (by omega)) ?_
  refine lv_istore_n (lv' := [(1, .int (nI (n - sy))), (0, .ref l0)]) zx zb d_Log_loseUnsynced_9 rfl zl (by decide) rfl (fun lsX zl => ?_)
  refine lv_aload_n zx zb d_Log_loseUnsynced_10 rfl (lv_at zl 1 rfl) ?_
  refine lv_aload_n zx zb d_Log_loseUnsynced_11 rfl (lv_at zl 1 rfl) ?_
  refine wv_get zx zb zg hin_Log rfl zo zK zP 0 rfl 5 (by decide) rfl fl_Log_28 rfl d_Log_loseUnsynced_12 ?_
  refine wv_put zx zb zg hin_Log rfl t_Log t_Log_ok n_Log zo zK zP zD zS 0 rfl 4 (by decide) rfl fl_Log_24 rfl rfl rfl (Nat.le_of_ble_eq_true rfl) d_Log_loseUnsynced_15 (fun HX oX zP zD zS => ?_)
  have zP : va_P g.1 cls (wLog g l0 l1 l2 l3 l4 k o ke va sy sy) HX := zP
  have zD : va_D AX (wLog g l0 l1 l2 l3 l4 k o ke va sy sy) := zD
  refine lv_iload_n zx zb d_Log_loseUnsynced_18 rfl (lv_at zl 0 rfl) ?_
  exact ct_iret zQ zx zb zr zk zP zD zS d_Log_loseUnsynced_19 rfl (⟨rfl, rfl⟩)
set_option maxRecDepth 20000 in
theorem c_Log_hasCommit_t (lL : Launch) (g : Gt) (l0 : Nat) (l1 : Nat) (l2 : Nat) (l3 : Nat) (l4 : Nat) (k : Nat → Nat) (o : Nat → Nat) (ke : Nat → Nat) (va : Nat → Int32) (n : Nat) (sy : Nat) (ps : Nat) (hp : 0 < ps) (hq : ps ≤ n) (hn : n ≤ 512) (hc : k (ps - 1) = 1) : Ct lL g y_Log_hasCommitDoneAt (.code y_Log_hasCommitDoneAt b_Log_hasCommitDoneAt 2 (some .boolean)) 0 0 [.ref l0, .int (nI ps)] (wLog g l0 l1 l2 l3 l4 k o ke va n sy) (exP (some (.int (nI 1))) (wLog g l0 l1 l2 l3 l4 k o ke va n sy)) := by
  refine Ct.ofW (by decide) (Nat.le_of_ble_eq_true rfl) ?_
  intro pX eX sX mX aX bX tX cX AX lsX HX oX QX zx zb zr zk zm zo zg zK zP zD zA zS zQ zl
  have zo : sX.vm.findClass R_Log = some mX.cls := zo
  have zl : lv_has lsX 2 [(0, .ref l0), (1, .int (nI ps))] := zl
  refine lv_iload_n zx zb d_Log_hasCommitDoneAt_0 rfl (lv_at zl 1 rfl) ?_
  refine wn_ile_F (tgt := 28) zx zb d_Log_hasCommitDoneAt_1 (by decide) (by omega) (by omega) ?_
  refine lv_iload_n zx zb d_Log_hasCommitDoneAt_4 rfl (lv_at zl 1 rfl) ?_
  refine lv_aload_n zx zb d_Log_hasCommitDoneAt_5 rfl (lv_at zl 0 rfl) ?_
  refine wv_get zx zb zg hin_Log rfl zo zK zP 0 rfl 4 (by decide) rfl fl_Log_24 rfl d_Log_hasCommitDoneAt_6 ?_
  refine wn_cgt_F (tgt := 28) zx zb d_Log_hasCommitDoneAt_9 (by decide) (by omega) (by omega) (by omega) ?_
  refine lv_aload_n zx zb d_Log_hasCommitDoneAt_12 rfl (lv_at zl 0 rfl) ?_
  refine wv_get zx zb zg hin_Log rfl zo zK zP 0 rfl 0 (by decide) rfl fl_Log_9 rfl d_Log_hasCommitDoneAt_13 ?_
  refine lv_iload_n zx zb d_Log_hasCommitDoneAt_16 rfl (lv_at zl 1 rfl) ?_
  refine lv_iconst (v := (nI 1)) zx zb d_Log_hasCommitDoneAt_17 (by decide) ?_
  refine wv_isub zx zb d_Log_hasCommitDoneAt_18 (pk_sub (by omega)) ?_
  refine wv_ialdN zx zb zK zP 1 rfl (by omega) (by decide) d_Log_hasCommitDoneAt_19 ?_
  refine lv_iconst (v := (nI 1)) zx zb d_Log_hasCommitDoneAt_20 (by decide) ?_
  refine wn_cne_F (tgt := 28) zx zb d_Log_hasCommitDoneAt_21 (by decide) (by omega) (by omega) (by omega) ?_
  refine lv_iconst (v := (nI 1)) zx zb d_Log_hasCommitDoneAt_24 (by decide) ?_
  refine lv_goto (tgt := 29) zx zb d_Log_hasCommitDoneAt_25 (by decide) ?_
  exact ct_zret zQ zx zb zr zk zP zD zS d_Log_hasCommitDoneAt_29 rfl (by decide) (⟨rfl, rfl⟩)
set_option maxRecDepth 20000 in
theorem c_Log_hasCommit_f (lL : Launch) (g : Gt) (l0 : Nat) (l1 : Nat) (l2 : Nat) (l3 : Nat) (l4 : Nat) (k : Nat → Nat) (o : Nat → Nat) (ke : Nat → Nat) (va : Nat → Int32) (n : Nat) (sy : Nat) (ps : Nat) (hp : 0 < ps) (hq : ps ≤ n) (hn : n ≤ 512) (hk : k (ps - 1) < 4) (hc : k (ps - 1) ≠ 1) : Ct lL g y_Log_hasCommitDoneAt (.code y_Log_hasCommitDoneAt b_Log_hasCommitDoneAt 2 (some .boolean)) 0 0 [.ref l0, .int (nI ps)] (wLog g l0 l1 l2 l3 l4 k o ke va n sy) (exP (some (.int (nI 0))) (wLog g l0 l1 l2 l3 l4 k o ke va n sy)) := by
  refine Ct.ofW (by decide) (Nat.le_of_ble_eq_true rfl) ?_
  intro pX eX sX mX aX bX tX cX AX lsX HX oX QX zx zb zr zk zm zo zg zK zP zD zA zS zQ zl
  have zo : sX.vm.findClass R_Log = some mX.cls := zo
  have zl : lv_has lsX 2 [(0, .ref l0), (1, .int (nI ps))] := zl
  refine lv_iload_n zx zb d_Log_hasCommitDoneAt_0 rfl (lv_at zl 1 rfl) ?_
  refine wn_ile_F (tgt := 28) zx zb d_Log_hasCommitDoneAt_1 (by decide) (by omega) (by omega) ?_
  refine lv_iload_n zx zb d_Log_hasCommitDoneAt_4 rfl (lv_at zl 1 rfl) ?_
  refine lv_aload_n zx zb d_Log_hasCommitDoneAt_5 rfl (lv_at zl 0 rfl) ?_
  refine wv_get zx zb zg hin_Log rfl zo zK zP 0 rfl 4 (by decide) rfl fl_Log_24 rfl d_Log_hasCommitDoneAt_6 ?_
  refine wn_cgt_F (tgt := 28) zx zb d_Log_hasCommitDoneAt_9 (by decide) (by omega) (by omega) (by omega) ?_
  refine lv_aload_n zx zb d_Log_hasCommitDoneAt_12 rfl (lv_at zl 0 rfl) ?_
  refine wv_get zx zb zg hin_Log rfl zo zK zP 0 rfl 0 (by decide) rfl fl_Log_9 rfl d_Log_hasCommitDoneAt_13 ?_
  refine lv_iload_n zx zb d_Log_hasCommitDoneAt_16 rfl (lv_at zl 1 rfl) ?_
  refine lv_iconst (v := (nI 1)) zx zb d_Log_hasCommitDoneAt_17 (by decide) ?_
  refine wv_isub zx zb d_Log_hasCommitDoneAt_18 (pk_sub (by omega)) ?_
  refine wv_ialdN zx zb zK zP 1 rfl (by omega) (by decide) d_Log_hasCommitDoneAt_19 ?_
  refine lv_iconst (v := (nI 1)) zx zb d_Log_hasCommitDoneAt_20 (by decide) ?_
  refine wn_cne_T (tgt := 28) zx zb d_Log_hasCommitDoneAt_21 (by decide) (by omega) (by omega) (by omega) ?_
  refine lv_iconst (v := (nI 0)) zx zb d_Log_hasCommitDoneAt_28 (by decide) ?_
  exact ct_zret zQ zx zb zr zk zP zD zS d_Log_hasCommitDoneAt_29 rfl (by decide) (⟨rfl, rfl⟩)
