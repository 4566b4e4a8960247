set_option maxRecDepth 20000 in
theorem c_X_isTransaction_t (lL : Launch) (g : Gt) (t : Nat) (ht : t < 3) : Ct lL g y_X_isTransaction (.code y_X_isTransaction b_X_isTransaction 1 (some .boolean)) 0 0 [.int (nI t)] (([] : va_W)) (exP (some (.int (nI 1))) (([] : va_W))) := by
  refine Ct.ofW (by decide) (Nat.le_of_ble_eq_true rfl) ?_
  intro pX eX sX mX aX bX tX cX AX lsX HX oX QX zx zb zr zk zm zo zg zK zP zD zA zS zQ zl
  have zo : sX.vm.findClass R_X = some mX.cls := zo
  have zl : lv_has lsX 1 [(0, .int (nI t))] := zl
  refine lv_iload_n zx zb d_X_isTransaction_0 rfl (lv_at zl 0 rfl) ?_
  refine wn_ilt_F (tgt := 13) zx zb d_X_isTransaction_1 (by decide) (by omega) (trivial) ?_
  refine lv_iload_n zx zb d_X_isTransaction_4 rfl (lv_at zl 0 rfl) ?_
  refine lv_iconst (v := (nI 3)) zx zb d_X_isTransaction_5 (by decide) ?_
  refine wn_cge_F (tgt := 13) zx zb d_X_isTransaction_6 (by decide) (by omega) (by omega) (by omega) ?_
  refine lv_iconst (v := (nI 1)) zx zb d_X_isTransaction_9 (by decide) ?_
  refine lv_goto (tgt := 14) zx zb d_X_isTransaction_10 (by decide) ?_
  exact ct_zret zQ zx zb zr zk zP zD zS d_X_isTransaction_14 rfl (by decide) (⟨rfl, rfl⟩)
set_option maxRecDepth 20000 in
theorem c_X_isTransaction_g (lL : Launch) (g : Gt) (t : Nat) (ht : 3 ≤ t) (ht2 : t < 2147483648) : Ct lL g y_X_isTransaction (.code y_X_isTransaction b_X_isTransaction 1 (some .boolean)) 0 0 [.int (nI t)] (([] : va_W)) (exP (some (.int (nI 0))) (([] : va_W))) := by
  refine Ct.ofW (by decide) (Nat.le_of_ble_eq_true rfl) ?_
  intro pX eX sX mX aX bX tX cX AX lsX HX oX QX zx zb zr zk zm zo zg zK zP zD zA zS zQ zl
  have zo : sX.vm.findClass R_X = some mX.cls := zo
  have zl : lv_has lsX 1 [(0, .int (nI t))] := zl
  refine lv_iload_n zx zb d_X_isTransaction_0 rfl (lv_at zl 0 rfl) ?_
  refine wn_ilt_F (tgt := 13) zx zb d_X_isTransaction_1 (by decide) (by omega) (trivial) ?_
  refine lv_iload_n zx zb d_X_isTransaction_4 rfl (lv_at zl 0 rfl) ?_
  refine lv_iconst (v := (nI 3)) zx zb d_X_isTransaction_5 (by decide) ?_
  refine wn_cge_T (tgt := 13) zx zb d_X_isTransaction_6 (by decide) (by omega) (by omega) (by omega) ?_
  refine lv_iconst (v := (nI 0)) zx zb d_X_isTransaction_13 (by decide) ?_
  exact ct_zret zQ zx zb zr zk zP zD zS d_X_isTransaction_14 rfl (by decide) (⟨rfl, rfl⟩)
set_option maxRecDepth 20000 in
theorem c_X_isTransaction_n (lL : Launch) (g : Gt) (t : Int32) (ht : t < 0) : Ct lL g y_X_isTransaction (.code y_X_isTransaction b_X_isTransaction 1 (some .boolean)) 0 0 [.int t] (([] : va_W)) (exP (some (.int (nI 0))) (([] : va_W))) := by
  refine Ct.ofW (by decide) (Nat.le_of_ble_eq_true rfl) ?_
  intro pX eX sX mX aX bX tX cX AX lsX HX oX QX zx zb zr zk zm zo zg zK zP zD zA zS zQ zl
  have zo : sX.vm.findClass R_X = some mX.cls := zo
  have zl : lv_has lsX 1 [(0, .int t)] := zl
  refine lv_iload_n zx zb d_X_isTransaction_0 rfl (lv_at zl 0 rfl) ?_
  refine lv_if_lt (tgt := 13) zx zb d_X_isTransaction_1 (by decide) (fun _ => ?_) (fun h => absurd h (fun h => h ht))
  refine lv_iconst (v := (nI 0)) zx zb d_X_isTransaction_13 (by decide) ?_
  exact ct_zret zQ zx zb zr zk zP zD zS d_X_isTransaction_14 rfl (by decide) (⟨rfl, rfl⟩)
set_option maxRecDepth 20000 in
theorem c_X_isKey_t (lL : Launch) (g : Gt) (t : Nat) (ht : t < 32) : Ct lL g y_X_isKey (.code y_X_isKey b_X_isKey 1 (some .boolean)) 0 0 [.int (nI t)] (([] : va_W)) (exP (some (.int (nI 1))) (([] : va_W))) := by
  refine Ct.ofW (by decide) (Nat.le_of_ble_eq_true rfl) ?_
  intro pX eX sX mX aX bX tX cX AX lsX HX oX QX zx zb zr zk zm zo zg zK zP zD zA zS zQ zl
  have zo : sX.vm.findClass R_X = some mX.cls := zo
  have zl : lv_has lsX 1 [(0, .int (nI t))] := zl
  refine lv_iload_n zx zb d_X_isKey_0 rfl (lv_at zl 0 rfl) ?_
  refine wn_ilt_F (tgt := 14) zx zb d_X_isKey_1 (by decide) (by omega) (trivial) ?_
  refine lv_iload_n zx zb d_X_isKey_4 rfl (lv_at zl 0 rfl) ?_
  refine lv_bipush (v := (nI 32)) zx zb d_X_isKey_5 (by decide) ?_
  refine wn_cge_F (tgt := 14) zx zb d_X_isKey_7 (by decide) (by omega) (by omega) (by omega) ?_
  refine lv_iconst (v := (nI 1)) zx zb d_X_isKey_10 (by decide) ?_
  refine lv_goto (tgt := 15) zx zb d_X_isKey_11 (by decide) ?_
  exact ct_zret zQ zx zb zr zk zP zD zS d_X_isKey_15 rfl (by decide) (⟨rfl, rfl⟩)
set_option maxRecDepth 20000 in
theorem c_X_isKey_g (lL : Launch) (g : Gt) (t : Nat) (ht : 32 ≤ t) (ht2 : t < 2147483648) : Ct lL g y_X_isKey (.code y_X_isKey b_X_isKey 1 (some .boolean)) 0 0 [.int (nI t)] (([] : va_W)) (exP (some (.int (nI 0))) (([] : va_W))) := by
  refine Ct.ofW (by decide) (Nat.le_of_ble_eq_true rfl) ?_
  intro pX eX sX mX aX bX tX cX AX lsX HX oX QX zx zb zr zk zm zo zg zK zP zD zA zS zQ zl
  have zo : sX.vm.findClass R_X = some mX.cls := zo
  have zl : lv_has lsX 1 [(0, .int (nI t))] := zl
  refine lv_iload_n zx zb d_X_isKey_0 rfl (lv_at zl 0 rfl) ?_
  refine wn_ilt_F (tgt := 14) zx zb d_X_isKey_1 (by decide) (by omega) (trivial) ?_
  refine lv_iload_n zx zb d_X_isKey_4 rfl (lv_at zl 0 rfl) ?_
  refine lv_bipush (v := (nI 32)) zx zb d_X_isKey_5 (by decide) ?_
  refine wn_cge_T (tgt := 14) zx zb d_X_isKey_7 (by decide) (by omega) (by omega) (by omega) ?_
  refine lv_iconst (v := (nI 0)) zx zb d_X_isKey_14 (by decide) ?_
  exact ct_zret zQ zx zb zr zk zP zD zS d_X_isKey_15 rfl (by decide) (⟨rfl, rfl⟩)
set_option maxRecDepth 20000 in
theorem c_X_isKey_n (lL : Launch) (g : Gt) (t : Int32) (ht : t < 0) : Ct lL g y_X_isKey (.code y_X_isKey b_X_isKey 1 (some .boolean)) 0 0 [.int t] (([] : va_W)) (exP (some (.int (nI 0))) (([] : va_W))) := by
  refine Ct.ofW (by decide) (Nat.le_of_ble_eq_true rfl) ?_
  intro pX eX sX mX aX bX tX cX AX lsX HX oX QX zx zb zr zk zm zo zg zK zP zD zA zS zQ zl
  have zo : sX.vm.findClass R_X = some mX.cls := zo
  have zl : lv_has lsX 1 [(0, .int t)] := zl
  refine lv_iload_n zx zb d_X_isKey_0 rfl (lv_at zl 0 rfl) ?_
  refine lv_if_lt (tgt := 14) zx zb d_X_isKey_1 (by decide) (fun _ => ?_) (fun h => absurd h (fun h => h ht))
  refine lv_iconst (v := (nI 0)) zx zb d_X_isKey_14 (by decide) ?_
  exact ct_zret zQ zx zb zr zk zP zD zS d_X_isKey_15 rfl (by decide) (⟨rfl, rfl⟩)
set_option maxRecDepth 20000 in
theorem c_X_isFin_n (lL : Launch) (g : Gt) (x : Nat) (l0 : Nat) (t0 : Nat) (p0 : Nat) (ba : Nat) (h0 : Nat) (r0 : Nat) (un : Int32) (j : Int32) (hj : j < 0) : Ct lL g y_X_isFinishedBackup (.code y_X_isFinishedBackup b_X_isFinishedBackup 2 (some .boolean)) 0 0 [.ref x, .int j] (wX g x l0 t0 p0 ba h0 r0 un) (exP (some (.int (nI 0))) (wX g x l0 t0 p0 ba h0 r0 un)) := by
  refine Ct.ofW (by decide) (Nat.le_of_ble_eq_true rfl) ?_
  intro pX eX sX mX aX bX tX cX AX lsX HX oX QX zx zb zr zk zm zo zg zK zP zD zA zS zQ zl
  have zo : sX.vm.findClass R_X = some mX.cls := zo
  have zl : lv_has lsX 2 [(0, .ref x), (1, .int j)] := zl
  refine lv_iload_n zx zb d_X_isFinishedBackup_0 rfl (lv_at zl 1 rfl) ?_
  refine lv_if_lt (tgt := 25) zx zb d_X_isFinishedBackup_1 (by decide) (fun _ => ?_) (fun h => absurd h (fun h => h hj))
  refine lv_iconst (v := (nI 0)) zx zb d_X_isFinishedBackup_25 (by decide) ?_
  exact ct_zret zQ zx zb zr zk zP zD zS d_X_isFinishedBackup_26 rfl (by decide) (⟨rfl, rfl⟩)
set_option maxRecDepth 20000 in
theorem c_X_isFin_g (lL : Launch) (g : Gt) (x : Nat) (l0 : Nat) (t0 : Nat) (p0 : Nat) (ba : Nat) (h0 : Nat) (r0 : Nat) (un : Int32) (j : Nat) (hj : 3 ≤ j) (hj2 : j < 2147483648) : Ct lL g y_X_isFinishedBackup (.code y_X_isFinishedBackup b_X_isFinishedBackup 2 (some .boolean)) 0 0 [.ref x, .int (nI j)] (wX g x l0 t0 p0 ba h0 r0 un) (exP (some (.int (nI 0))) (wX g x l0 t0 p0 ba h0 r0 un)) := by
  refine Ct.ofW (by decide) (Nat.le_of_ble_eq_true rfl) ?_
  intro pX eX sX mX aX bX tX cX AX lsX HX oX QX zx zb zr zk zm zo zg zK zP zD zA zS zQ zl
  have zo : sX.vm.findClass R_X = some mX.cls := zo
  have zl : lv_has lsX 2 [(0, .ref x), (1, .int (nI j))] := zl
  refine lv_iload_n zx zb d_X_isFinishedBackup_0 rfl (lv_at zl 1 rfl) ?_
  refine wn_ilt_F (tgt := 25) zx zb d_X_isFinishedBackup_1 (by decide) (by omega) (trivial) ?_
  refine lv_iload_n zx zb d_X_isFinishedBackup_4 rfl (lv_at zl 1 rfl) ?_
  refine lv_iconst (v := (nI 3)) zx zb d_X_isFinishedBackup_5 (by decide) ?_
  refine wn_cge_T (tgt := 25) zx zb d_X_isFinishedBackup_6 (by decide) (by omega) (by omega) (by omega) ?_
  refine lv_iconst (v := (nI 0)) zx zb d_X_isFinishedBackup_25 (by decide) ?_
  exact ct_zret zQ zx zb zr zk zP zD zS d_X_isFinishedBackup_26 rfl (by decide) (⟨rfl, rfl⟩)
set_option maxRecDepth 20000 in
theorem c_X_isFin_t (lL : Launch) (g : Gt) (x : Nat) (l0 : Nat) (t0 : Nat) (p0 : Nat) (ba : Nat) (h0 : Nat) (r0 : Nat) (un : Int32) (b : Nat → Nat) (b1 : Nat) (bv : Nat → Int32) (pr : Nat) (fi : Nat) (st : Nat) (cp : Nat) (en : Nat) (pg : Nat) (j : Nat) (hj : j < 3) (hfi : fi = 1) : Ct lL g y_X_isFinishedBackup (.code y_X_isFinishedBackup b_X_isFinishedBackup 2 (some .boolean)) 0 0 [.ref x, .int (nI j)] (wX g x l0 t0 p0 ba h0 r0 un ++ wBA g ba b ++ wBk g (b j) b1 bv pr fi st cp en pg) (exP (some (.int (nI 1))) (wX g x l0 t0 p0 ba h0 r0 un ++ wBA g ba b ++ wBk g (b j) b1 bv pr fi st cp en pg)) := by
  refine Ct.ofW (by decide) (Nat.le_of_ble_eq_true rfl) ?_
  intro pX eX sX mX aX bX tX cX AX lsX HX oX QX zx zb zr zk zm zo zg zK zP zD zA zS zQ zl
  have zo : sX.vm.findClass R_X = some mX.cls := zo
  have zl : lv_has lsX 2 [(0, .ref x), (1, .int (nI j))] := zl
  refine lv_iload_n zx zb d_X_isFinishedBackup_0 rfl (lv_at zl 1 rfl) ?_
  refine wn_ilt_F (tgt := 25) zx zb d_X_isFinishedBackup_1 (by decide) (by omega) (trivial) ?_
  refine lv_iload_n zx zb d_X_isFinishedBackup_4 rfl (lv_at zl 1 rfl) ?_
  refine lv_iconst (v := (nI 3)) zx zb d_X_isFinishedBackup_5 (by decide) ?_
  refine wn_cge_F (tgt := 25) zx zb d_X_isFinishedBackup_6 (by decide) (by omega) (by omega) (by omega) ?_
  refine lv_aload_n zx zb d_X_isFinishedBackup_9 rfl (lv_at zl 0 rfl) ?_
  refine wv_get zx zb zg hin_X rfl zo zK zP 0 rfl 3 (by decide) rfl fl_X_46 rfl d_X_isFinishedBackup_10 ?_
  refine lv_iload_n zx zb d_X_isFinishedBackup_13 rfl (lv_at zl 1 rfl) ?_
  refine wv_aald (v := b j) zx zb zK zP 1 rfl rfl (by omega) (by decide) d_X_isFinishedBackup_14 ?_
  refine wv_get zx zb zg hin_Bk rfl zo zK zP 2 rfl 2 (by decide) rfl fl_X_180 rfl d_X_isFinishedBackup_15 ?_
  refine wn_ieq_F (tgt := 25) zx zb d_X_isFinishedBackup_18 (by decide) (by omega) (by omega) ?_
  refine lv_iconst (v := (nI 1)) zx zb d_X_isFinishedBackup_21 (by decide) ?_
  refine lv_goto (tgt := 26) zx zb d_X_isFinishedBackup_22 (by decide) ?_
  exact ct_zret zQ zx zb zr zk zP zD zS d_X_isFinishedBackup_26 rfl (by decide) (⟨rfl, rfl⟩)
set_option maxRecDepth 20000 in
theorem c_X_isFin_f (lL : Launch) (g : Gt) (x : Nat) (l0 : Nat) (t0 : Nat) (p0 : Nat) (ba : Nat) (h0 : Nat) (r0 : Nat) (un : Int32) (b : Nat → Nat) (b1 : Nat) (bv : Nat → Int32) (pr : Nat) (fi : Nat) (st : Nat) (cp : Nat) (en : Nat) (pg : Nat) (j : Nat) (hj : j < 3) (hfi : fi = 0) : Ct lL g y_X_isFinishedBackup (.code y_X_isFinishedBackup b_X_isFinishedBackup 2 (some .boolean)) 0 0 [.ref x, .int (nI j)] (wX g x l0 t0 p0 ba h0 r0 un ++ wBA g ba b ++ wBk g (b j) b1 bv pr fi st cp en pg) (exP (some (.int (nI 0))) (wX g x l0 t0 p0 ba h0 r0 un ++ wBA g ba b ++ wBk g (b j) b1 bv pr fi st cp en pg)) := by
  refine Ct.ofW (by decide) (Nat.le_of_ble_eq_true rfl) ?_
  intro pX eX sX mX aX bX tX cX AX lsX HX oX QX zx zb zr zk zm zo zg zK zP zD zA zS zQ zl
  have zo : sX.vm.findClass R_X = some mX.cls := zo
  have zl : lv_has lsX 2 [(0, .ref x), (1, .int (nI j))] := zl
  refine lv_iload_n zx zb d_X_isFinishedBackup_0 rfl (lv_at zl 1 rfl) ?_
  refine wn_ilt_F (tgt := 25) zx zb d_X_isFinishedBackup_1 (by decide) (by omega) (trivial) ?_
  refine lv_iload_n zx zb d_X_isFinishedBackup_4 rfl (lv_at zl 1 rfl) ?_
  refine lv_iconst (v := (nI 3)) zx zb d_X_isFinishedBackup_5 (by decide) ?_
  refine wn_cge_F (tgt := 25) zx zb d_X_isFinishedBackup_6 (by decide) (by omega) (by omega) (by omega) ?_
  refine lv_aload_n zx zb d_X_isFinishedBackup_9 rfl (lv_at zl 0 rfl) ?_
  refine wv_get zx zb zg hin_X rfl zo zK zP 0 rfl 3 (by decide) rfl fl_X_46 rfl d_X_isFinishedBackup_10 ?_
  refine lv_iload_n zx zb d_X_isFinishedBackup_13 rfl (lv_at zl 1 rfl) ?_
  refine wv_aald (v := b j) zx zb zK zP 1 rfl rfl (by omega) (by decide) d_X_isFinishedBackup_14 ?_
  refine wv_get zx zb zg hin_Bk rfl zo zK zP 2 rfl 2 (by decide) rfl fl_X_180 rfl d_X_isFinishedBackup_15 ?_
  refine wn_ieq_T (tgt := 25) zx zb d_X_isFinishedBackup_18 (by decide) (by omega) (by omega) ?_
  refine lv_iconst (v := (nI 0)) zx zb d_X_isFinishedBackup_25 (by decide) ?_
  exact ct_zret zQ zx zb zr zk zP zD zS d_X_isFinishedBackup_26 rfl (by decide) (⟨rfl, rfl⟩)
set_option maxRecDepth 20000 in
theorem c_X_set_tn (lL : Launch) (g : Gt) (x : Nat) (l0 : Nat) (t0 : Nat) (p0 : Nat) (ba : Nat) (h0 : Nat) (r0 : Nat) (un : Int32) (t : Int32) (ky : Int32) (vl : Int32) (ht : t < 0) : Ct lL g y_X_set (.code y_X_set b_X_set 4 (some .int)) 6 200 [.ref x, .int t, .int ky, .int vl] (wX g x l0 t0 p0 ba h0 r0 un) (exP (some (.int (-1))) (wX g x l0 t0 p0 ba h0 r0 un)) := by
  refine Ct.ofW (by decide) (Nat.le_of_ble_eq_true rfl) ?_
  intro pX eX sX mX aX bX tX cX AX lsX HX oX QX zx zb zr zk zm zo zg zK zP zD zA zS zQ zl
  have zo : sX.vm.findClass R_X = some mX.cls := zo
  have zl : lv_has lsX 4 [(0, .ref x), (1, .int t), (2, .int ky), (3, .int vl)] := zl
  refine lv_iload_n zx zb d_X_set_0 rfl (lv_at zl 1 rfl) ?_
  refine ct_Sx (ws' := wX g x l0 t0 p0 ba h0 r0 un) (rest := []) (st1 := [.int (nI 0)]) zx zb zm zo zg zK zP zD zS zA zl.1 (c_X_isTransaction_n lL g t ht) ok_X_isTransaction os_X_isTransaction ml_X_55 (by decide) [] [0] 1 (by decide) rfl rfl rfl rfl (by decide) rfl rfl rfl (Nat.le_of_ble_eq_true rfl) d_X_set_1 (fun HX oX zP zD zS => ?_)
  refine wn_ieq_T (tgt := 14) zx zb d_X_set_4 (by decide) (by omega) (by omega) ?_
  refine lv_iconst (v := (-1)) zx zb d_X_set_14 (by decide) ?_
  exact ct_iret zQ zx zb zr zk zP zD zS d_X_set_15 rfl (⟨rfl, rfl⟩)
set_option maxRecDepth 20000 in
theorem c_X_set_tg (lL : Launch) (g : Gt) (x : Nat) (l0 : Nat) (t0 : Nat) (p0 : Nat) (ba : Nat) (h0 : Nat) (r0 : Nat) (un : Int32) (t : Nat) (ky : Int32) (vl : Int32) (ht : 3 ≤ t) (ht2 : t < 2147483648) : Ct lL g y_X_set (.code y_X_set b_X_set 4 (some .int)) 6 200 [.ref x, .int (nI t), .int ky, .int vl] (wX g x l0 t0 p0 ba h0 r0 un) (exP (some (.int (-1))) (wX g x l0 t0 p0 ba h0 r0 un)) := by
  refine Ct.ofW (by decide) (Nat.le_of_ble_eq_true rfl) ?_
  intro pX eX sX mX aX bX tX cX AX lsX HX oX QX zx zb zr zk zm zo zg zK zP zD zA zS zQ zl
  have zo : sX.vm.findClass R_X = some mX.cls := zo
  have zl : lv_has lsX 4 [(0, .ref x), (1, .int (nI t)), (2, .int ky), (3, .int vl)] := zl
  refine lv_iload_n zx zb d_X_set_0 rfl (lv_at zl 1 rfl) ?_
  refine ct_Sx (ws' := wX g x l0 t0 p0 ba h0 r0 un) (rest := []) (st1 := [.int (nI 0)]) zx zb zm zo zg zK zP zD zS zA zl.1 (c_X_isTransaction_g lL g t (by omega) (by omega)) ok_X_isTransaction os_X_isTransaction ml_X_55 (by decide) [] [0] 1 (by decide) rfl rfl rfl rfl (by decide) rfl rfl rfl (Nat.le_of_ble_eq_true rfl) d_X_set_1 (fun HX oX zP zD zS => ?_)
  refine wn_ieq_T (tgt := 14) zx zb d_X_set_4 (by decide) (by omega) (by omega) ?_
  refine lv_iconst (v := (-1)) zx zb d_X_set_14 (by decide) ?_
  exact ct_iret zQ zx zb zr zk zP zD zS d_X_set_15 rfl (⟨rfl, rfl⟩)
set_option maxRecDepth 20000 in
theorem c_X_set_kn (lL : Launch) (g : Gt) (x : Nat) (l0 : Nat) (t0 : Nat) (p0 : Nat) (ba : Nat) (h0 : Nat) (r0 : Nat) (un : Int32) (t : Nat) (ky : Int32) (vl : Int32) (ht : t < 3) (hk : ky < 0) : Ct lL g y_X_set (.code y_X_set b_X_set 4 (some .int)) 6 200 [.ref x, .int (nI t), .int ky, .int vl] (wX g x l0 t0 p0 ba h0 r0 un) (exP (some (.int (-1))) (wX g x l0 t0 p0 ba h0 r0 un)) := by
  refine Ct.ofW (by decide) (Nat.le_of_ble_eq_true rfl) ?_
  intro pX eX sX mX aX bX tX cX AX lsX HX oX QX zx zb zr zk zm zo zg zK zP zD zA zS zQ zl
  have zo : sX.vm.findClass R_X = some mX.cls := zo
  have zl : lv_has lsX 4 [(0, .ref x), (1, .int (nI t)), (2, .int ky), (3, .int vl)] := zl
  refine lv_iload_n zx zb d_X_set_0 rfl (lv_at zl 1 rfl) ?_
  refine ct_Sx (ws' := wX g x l0 t0 p0 ba h0 r0 un) (rest := []) (st1 := [.int (nI 1)]) zx zb zm zo zg zK zP zD zS zA zl.1 (c_X_isTransaction_t lL g t (by omega)) ok_X_isTransaction os_X_isTransaction ml_X_55 (by decide) [] [0] 1 (by decide) rfl rfl rfl rfl (by decide) rfl rfl rfl (Nat.le_of_ble_eq_true rfl) d_X_set_1 (fun HX oX zP zD zS => ?_)
  refine wn_ieq_F (tgt := 14) zx zb d_X_set_4 (by decide) (by omega) (by omega) ?_
  refine lv_iload_n zx zb d_X_set_7 rfl (lv_at zl 2 rfl) ?_
  refine ct_Sx (ws' := wX g x l0 t0 p0 ba h0 r0 un) (rest := []) (st1 := [.int (nI 0)]) zx zb zm zo zg zK zP zD zS zA zl.1 (c_X_isKey_n lL g ky hk) ok_X_isKey os_X_isKey ml_X_59 (by decide) [] [0] 1 (by decide) rfl rfl rfl rfl (by decide) rfl rfl rfl (Nat.le_of_ble_eq_true rfl) d_X_set_8 (fun HX oX zP zD zS => ?_)
  refine wn_ine_F (tgt := 16) zx zb d_X_set_11 (by decide) (by omega) (by omega) ?_
  refine lv_iconst (v := (-1)) zx zb d_X_set_14 (by decide) ?_
  exact ct_iret zQ zx zb zr zk zP zD zS d_X_set_15 rfl (⟨rfl, rfl⟩)
set_option maxRecDepth 20000 in
theorem c_X_set_kg (lL : Launch) (g : Gt) (x : Nat) (l0 : Nat) (t0 : Nat) (p0 : Nat) (ba : Nat) (h0 : Nat) (r0 : Nat) (un : Int32) (t : Nat) (ky : Nat) (vl : Int32) (ht : t < 3) (hk : 32 ≤ ky) (hk2 : ky < 2147483648) : Ct lL g y_X_set (.code y_X_set b_X_set 4 (some .int)) 6 200 [.ref x, .int (nI t), .int (nI ky), .int vl] (wX g x l0 t0 p0 ba h0 r0 un) (exP (some (.int (-1))) (wX g x l0 t0 p0 ba h0 r0 un)) := by
  refine Ct.ofW (by decide) (Nat.le_of_ble_eq_true rfl) ?_
  intro pX eX sX mX aX bX tX cX AX lsX HX oX QX zx zb zr zk zm zo zg zK zP zD zA zS zQ zl
  have zo : sX.vm.findClass R_X = some mX.cls := zo
  have zl : lv_has lsX 4 [(0, .ref x), (1, .int (nI t)), (2, .int (nI ky)), (3, .int vl)] := zl
  refine lv_iload_n zx zb d_X_set_0 rfl (lv_at zl 1 rfl) ?_
  refine ct_Sx (ws' := wX g x l0 t0 p0 ba h0 r0 un) (rest := []) (st1 := [.int (nI 1)]) zx zb zm zo zg zK zP zD zS zA zl.1 (c_X_isTransaction_t lL g t (by omega)) ok_X_isTransaction os_X_isTransaction ml_X_55 (by decide) [] [0] 1 (by decide) rfl rfl rfl rfl (by decide) rfl rfl rfl (Nat.le_of_ble_eq_true rfl) d_X_set_1 (fun HX oX zP zD zS => ?_)
  refine wn_ieq_F (tgt := 14) zx zb d_X_set_4 (by decide) (by omega) (by omega) ?_
  refine lv_iload_n zx zb d_X_set_7 rfl (lv_at zl 2 rfl) ?_
  refine ct_Sx (ws' := wX g x l0 t0 p0 ba h0 r0 un) (rest := []) (st1 := [.int (nI 0)]) zx zb zm zo zg zK zP zD zS zA zl.1 (c_X_isKey_g lL g ky (by omega) (by omega)) ok_X_isKey os_X_isKey ml_X_59 (by decide) [] [0] 1 (by decide) rfl rfl rfl rfl (by decide) rfl rfl rfl (Nat.le_of_ble_eq_true rfl) d_X_set_8 (fun HX oX zP zD zS => ?_)
  refine wn_ine_F (tgt := 16) zx zb d_X_set_11 (by decide) (by omega) (by omega) ?_
  refine lv_iconst (v := (-1)) zx zb d_X_set_14 (by decide) ?_
  exact ct_iret zQ zx zb zr zk zP zD zS d_X_set_15 rfl (⟨rfl, rfl⟩)
set_option maxRecDepth 20000 in
theorem c_X_set_full (lL : Launch) (g : Gt) (x : Nat) (l0 : Nat) (t0 : Nat) (p0 : Nat) (ba : Nat) (h0 : Nat) (r0 : Nat) (un : Int32) (l1 : Nat) (l2 : Nat) (l3 : Nat) (l4 : Nat) (k : Nat → Nat) (o : Nat → Nat) (ke : Nat → Nat) (va : Nat → Int32) (n : Nat) (sy : Nat) (t1 : Nat) (t2 : Nat) (t3 : Nat) (t4 : Nat) (c : Nat → Nat) (f : Nat → Nat) (tk : Nat → Nat) (tv : Nat → Int32) (t : Nat) (ky : Nat) (vl : Int32) (ht : t < 3) (hk : ky < 32) (hct : c t = 4) : Ct lL g y_X_set (.code y_X_set b_X_set 4 (some .int)) 6 200 [.ref x, .int (nI t), .int (nI ky), .int vl] (wX g x l0 t0 p0 ba h0 r0 un ++ wLog g l0 l1 l2 l3 l4 k o ke va n sy ++ wTr g t0 t1 t2 t3 t4 c f tk tv) (exP (some (.int (-2))) (wX g x l0 t0 p0 ba h0 r0 un ++ wLog g l0 l1 l2 l3 l4 k o ke va n sy ++ wTr g t0 t1 t2 t3 t4 c f tk tv)) := by
  refine Ct.ofW (by decide) (Nat.le_of_ble_eq_true rfl) ?_
  intro pX eX sX mX aX bX tX cX AX lsX HX oX QX zx zb zr zk zm zo zg zK zP zD zA zS zQ zl
  have zo : sX.vm.findClass R_X = some mX.cls := zo
  have zl : lv_has lsX 4 [(0, .ref x), (1, .int (nI t)), (2, .int (nI ky)), (3, .int vl)] := zl
  refine lv_iload_n zx zb d_X_set_0 rfl (lv_at zl 1 rfl) ?_
  refine ct_Sx (ws' := wX g x l0 t0 p0 ba h0 r0 un ++ wLog g l0 l1 l2 l3 l4 k o ke va n sy ++ wTr g t0 t1 t2 t3 t4 c f tk tv) (rest := []) (st1 := [.int (nI 1)]) zx zb zm zo zg zK zP zD zS zA zl.1 (c_X_isTransaction_t lL g t (by omega)) ok_X_isTransaction os_X_isTransaction ml_X_55 (by decide) [] [0, 1, 2, 3, 4, 5, 6, 7, 8, 9, 10] 11 (by decide) rfl rfl rfl rfl (by decide) rfl rfl rfl (Nat.le_of_ble_eq_true rfl) d_X_set_1 (fun HX oX zP zD zS => ?_)
  refine wn_ieq_F (tgt := 14) zx zb d_X_set_4 (by decide) (by omega) (by omega) ?_
  refine lv_iload_n zx zb d_X_set_7 rfl (lv_at zl 2 rfl) ?_
  refine ct_Sx (ws' := wX g x l0 t0 p0 ba h0 r0 un ++ wLog g l0 l1 l2 l3 l4 k o ke va n sy ++ wTr g t0 t1 t2 t3 t4 c f tk tv) (rest := []) (st1 := [.int (nI 1)]) zx zb zm zo zg zK zP zD zS zA zl.1 (c_X_isKey_t lL g ky (by omega)) ok_X_isKey os_X_isKey ml_X_59 (by decide) [] [0, 1, 2, 3, 4, 5, 6, 7, 8, 9, 10] 11 (by decide) rfl rfl rfl rfl (by decide) rfl rfl rfl (Nat.le_of_ble_eq_true rfl) d_X_set_8 (fun HX oX zP zD zS => ?_)
  refine wn_ine_T (tgt := 16) zx zb d_X_set_11 (by decide) (by omega) (by omega) ?_
  refine lv_aload_n zx zb d_X_set_16 rfl (lv_at zl 0 rfl) ?_
  refine wv_get zx zb zg hin_X rfl zo zK zP 0 rfl 1 (by decide) rfl fl_X_19 rfl d_X_set_17 ?_
  refine lv_iload_n zx zb d_X_set_20 rfl (lv_at zl 1 rfl) ?_
  refine ct_V (ws' := wX g x l0 t0 p0 ba h0 r0 un ++ wLog g l0 l1 l2 l3 l4 k o ke va n sy ++ wTr g t0 t1 t2 t3 t4 c f tk tv) (rest := []) (st1 := [.int (nI 1)]) zx zb zm zo zg zK zP zD zS zA zl.1 (c_Tr_hasAll_t lL g t0 t1 t2 t3 t4 c f tk tv t (by omega) (by omega)) ok_Tr_hasAllSets ov_Tr_hasAllSets ml_X_62 (by decide) 6 2 rfl rfl rfl [6, 7, 8, 9, 10] [0, 1, 2, 3, 4, 5] 11 (by decide) rfl rfl rfl rfl (by decide) rfl rfl rfl (Nat.le_of_ble_eq_true rfl) d_X_set_21 (fun HX oX zP zD zS => ?_)
  refine wn_ine_T (tgt := 37) zx zb d_X_set_24 (by decide) (by omega) (by omega) ?_
  refine lv_bipush (v := (-2)) zx zb d_X_set_37 (by decide) ?_
  exact ct_iret zQ zx zb zr zk zP zD zS d_X_set_39 rfl (⟨rfl, rfl⟩)
set_option maxRecDepth 20000 in
theorem c_X_set_o (lL : Launch) (g : Gt) (x : Nat) (l0 : Nat) (t0 : Nat) (p0 : Nat) (ba : Nat) (h0 : Nat) (r0 : Nat) (un : Int32) (l1 : Nat) (l2 : Nat) (l3 : Nat) (l4 : Nat) (k : Nat → Nat) (o : Nat → Nat) (ke : Nat → Nat) (va : Nat → Int32) (n : Nat) (sy : Nat) (t1 : Nat) (t2 : Nat) (t3 : Nat) (t4 : Nat) (c : Nat → Nat) (f : Nat → Nat) (tk : Nat → Nat) (tv : Nat → Int32) (t : Nat) (ky : Nat) (vl : Int32) (ht : t < 3) (hk : ky < 32) (hn : n < 512) (hct : 0 < c t) (hct2 : c t < 4) : Ct lL g y_X_set (.code y_X_set b_X_set 4 (some .int)) 6 200 [.ref x, .int (nI t), .int (nI ky), .int vl] (wX g x l0 t0 p0 ba h0 r0 un ++ wLog g l0 l1 l2 l3 l4 k o ke va n sy ++ wTr g t0 t1 t2 t3 t4 c f tk tv) (exP (some (.int (nI (n + 1)))) (wX g x l0 t0 p0 ba h0 r0 un ++ wLog g l0 l1 l2 l3 l4 (va_up k n 0) (va_up o n t) (va_up ke n ky) (upd va n vl) (n + 1) sy ++ wTr g t0 t1 t2 t3 t4 (va_up c t ((c t) + 1)) f (va_up tk ((t * 4) + (c t)) ky) (upd tv ((t * 4) + (c t)) vl))) := by
  refine Ct.ofW (by decide) (Nat.le_of_ble_eq_true rfl) ?_
  intro pX eX sX mX aX bX tX cX AX lsX HX oX QX zx zb zr zk zm zo zg zK zP zD zA zS zQ zl
  have zo : sX.vm.findClass R_X = some mX.cls := zo
  have zl : lv_has lsX 4 [(0, .ref x), (1, .int (nI t)), (2, .int (nI ky)), (3, .int vl)] := zl
  refine lv_iload_n zx zb d_X_set_0 rfl (lv_at zl 1 rfl) ?_
  refine ct_Sx (ws' := wX g x l0 t0 p0 ba h0 r0 un ++ wLog g l0 l1 l2 l3 l4 k o ke va n sy ++ wTr g t0 t1 t2 t3 t4 c f tk tv) (rest := []) (st1 := [.int (nI 1)]) zx zb zm zo zg zK zP zD zS zA zl.1 (c_X_isTransaction_t lL g t (by omega)) ok_X_isTransaction os_X_isTransaction ml_X_55 (by decide) [] [0, 1, 2, 3, 4, 5, 6, 7, 8, 9, 10] 11 (by decide) rfl rfl rfl rfl (by decide) rfl rfl rfl (Nat.le_of_ble_eq_true rfl) d_X_set_1 (fun HX oX zP zD zS => ?_)
  refine wn_ieq_F (tgt := 14) zx zb d_X_set_4 (by decide) (by omega) (by omega) ?_
  refine lv_iload_n zx zb d_X_set_7 rfl (lv_at zl 2 rfl) ?_
  refine ct_Sx (ws' := wX g x l0 t0 p0 ba h0 r0 un ++ wLog g l0 l1 l2 l3 l4 k o ke va n sy ++ wTr g t0 t1 t2 t3 t4 c f tk tv) (rest := []) (st1 := [.int (nI 1)]) zx zb zm zo zg zK zP zD zS zA zl.1 (c_X_isKey_t lL g ky (by omega)) ok_X_isKey os_X_isKey ml_X_59 (by decide) [] [0, 1, 2, 3, 4, 5, 6, 7, 8, 9, 10] 11 (by decide) rfl rfl rfl rfl (by decide) rfl rfl rfl (Nat.le_of_ble_eq_true rfl) d_X_set_8 (fun HX oX zP zD zS => ?_)
  refine wn_ine_T (tgt := 16) zx zb d_X_set_11 (by decide) (by omega) (by omega) ?_
  refine lv_aload_n zx zb d_X_set_16 rfl (lv_at zl 0 rfl) ?_
  refine wv_get zx zb zg hin_X rfl zo zK zP 0 rfl 1 (by decide) rfl fl_X_19 rfl d_X_set_17 ?_
  refine lv_iload_n zx zb d_X_set_20 rfl (lv_at zl 1 rfl) ?_
  refine ct_V (ws' := wX g x l0 t0 p0 ba h0 r0 un ++ wLog g l0 l1 l2 l3 l4 k o ke va n sy ++ wTr g t0 t1 t2 t3 t4 c f tk tv) (rest := []) (st1 := [.int (nI 0)]) zx zb zm zo zg zK zP zD zS zA zl.1 (c_Tr_hasAll_f lL g t0 t1 t2 t3 t4 c f tk tv t (by omega) (by omega)) ok_Tr_hasAllSets ov_Tr_hasAllSets ml_X_62 (by decide) 6 2 rfl rfl rfl [6, 7, 8, 9, 10] [0, 1, 2, 3, 4, 5] 11 (by decide) rfl rfl rfl rfl (by decide) rfl rfl rfl (Nat.le_of_ble_eq_true rfl) d_X_set_21 (fun HX oX zP zD zS => ?_)
  refine wn_ine_F (tgt := 37) zx zb d_X_set_24 (by decide) (by omega) (by omega) ?_
  refine lv_aload_n zx zb d_X_set_27 rfl (lv_at zl 0 rfl) ?_
  refine wv_get zx zb zg hin_X rfl zo zK zP 0 rfl 0 (by decide) rfl fl_X_12 rfl d_X_set_28 ?_
  refine ct_V (ws' := wX g x l0 t0 p0 ba h0 r0 un ++ wLog g l0 l1 l2 l3 l4 k o ke va n sy ++ wTr g t0 t1 t2 t3 t4 c f tk tv) (rest := []) (st1 := [.int (nI 0)]) zx zb zm zo zg zK zP zD zS zA zl.1 (c_Log_isFull lL g l0 l1 l2 l3 l4 k o ke va n sy (by omega)) ok_Log_isFull ov_Log_isFull ml_X_65 (by decide) 1 1 rfl rfl rfl [1, 2, 3, 4, 5] [0, 6, 7, 8, 9, 10] 11 (by decide) rfl rfl rfl rfl (by decide) rfl rfl rfl (Nat.le_of_ble_eq_true rfl) d_X_set_31 (fun HX oX zP zD zS => ?_)
  refine wn_ieq_T (tgt := 40) zx zb d_X_set_34 (by decide) (by omega) (by omega) ?_
  refine lv_aload_n zx zb d_X_set_40 rfl (lv_at zl 0 rfl) ?_
  refine wv_get zx zb zg hin_X rfl zo zK zP 0 rfl 1 (by decide) rfl fl_X_19 rfl d_X_set_41 ?_
  refine lv_iload_n zx zb d_X_set_44 rfl (lv_at zl 1 rfl) ?_
  refine lv_iload_n zx zb d_X_set_45 rfl (lv_at zl 2 rfl) ?_
  refine lv_iload_n zx zb d_X_set_46 rfl (lv_at zl 3 rfl) ?_
  refine lv_aload_n zx zb d_X_set_47 rfl (lv_at zl 0 rfl) ?_
  refine wv_get zx zb zg hin_X rfl zo zK zP 0 rfl 0 (by decide) rfl fl_X_12 rfl d_X_set_48 ?_
  refine wv_get zx zb zg hin_Log rfl zo zK zP 1 rfl 4 (by decide) rfl fl_X_69 rfl d_X_set_51 ?_
  refine ct_V (ws' := wX g x l0 t0 p0 ba h0 r0 un ++ wLog g l0 l1 l2 l3 l4 k o ke va n sy ++ wTr g t0 t1 t2 t3 t4 (va_up c t ((c t) + 1)) f (va_up tk ((t * 4) + (c t)) ky) (upd tv ((t * 4) + (c t)) vl)) (rest := []) (st1 := []) zx zb zm zo zg zK zP zD zS zA zl.1 (c_Tr_addSet_o lL g t0 t1 t2 t3 t4 c f tk tv t ky vl n (by omega) (by omega) (by omega)) ok_Tr_addSet ov_Tr_addSet ml_X_72 (by decide) 6 2 rfl rfl rfl [6, 7, 8, 9, 10] [0, 1, 2, 3, 4, 5] 11 (by decide) rfl rfl rfl rfl (by decide) rfl rfl rfl (Nat.le_of_ble_eq_true rfl) d_X_set_54 (fun HX oX zP zD zS => ?_)
  refine lv_aload_n zx zb d_X_set_57 rfl (lv_at zl 0 rfl) ?_
  refine wv_get zx zb zg hin_X rfl zo zK zP 0 rfl 0 (by decide) rfl fl_X_12 rfl d_X_set_58 ?_
  refine lv_iconst (v := (nI 0)) zx zb d_X_set_61 (by decide) ?_
  refine lv_iload_n zx zb d_X_set_62 rfl (lv_at zl 1 rfl) ?_
  refine lv_iload_n zx zb d_X_set_63 rfl (lv_at zl 2 rfl) ?_
  refine lv_iload_n zx zb d_X_set_64 rfl (lv_at zl 3 rfl) ?_
  refine ct_V (ws' := wX g x l0 t0 p0 ba h0 r0 un ++ wLog g l0 l1 l2 l3 l4 (va_up k n 0) (va_up o n t) (va_up ke n ky) (upd va n vl) (n + 1) sy ++ wTr g t0 t1 t2 t3 t4 (va_up c t ((c t) + 1)) f (va_up tk ((t * 4) + (c t)) ky) (upd tv ((t * 4) + (c t)) vl)) (rest := []) (st1 := [.int (nI (n + 1))]) zx zb zm zo zg zK zP zD zS zA zl.1 (c_Log_append lL g l0 l1 l2 l3 l4 k o ke va n sy 0 t ky vl (by omega)) ok_Log_append ov_Log_append ml_X_76 (by decide) 1 1 rfl rfl rfl [1, 2, 3, 4, 5] [0, 6, 7, 8, 9, 10] 11 (by decide) rfl rfl rfl rfl (by decide) rfl rfl rfl (Nat.le_of_ble_eq_true rfl) d_X_set_65 (fun HX oX zP zD zS => ?_)
  exact ct_iret zQ zx zb zr zk zP zD zS d_X_set_68 rfl (⟨rfl, rfl⟩)
set_option maxRecDepth 20000 in
theorem c_X_set_n (lL : Launch) (g : Gt) (x : Nat) (l0 : Nat) (t0 : Nat) (p0 : Nat) (ba : Nat) (h0 : Nat) (r0 : Nat) (un : Int32) (l1 : Nat) (l2 : Nat) (l3 : Nat) (l4 : Nat) (k : Nat → Nat) (o : Nat → Nat) (ke : Nat → Nat) (va : Nat → Int32) (n : Nat) (sy : Nat) (t1 : Nat) (t2 : Nat) (t3 : Nat) (t4 : Nat) (c : Nat → Nat) (f : Nat → Nat) (tk : Nat → Nat) (tv : Nat → Int32) (t : Nat) (ky : Nat) (vl : Int32) (ht : t < 3) (hk : ky < 32) (hn : n < 512) (hct : c t = 0) : Ct lL g y_X_set (.code y_X_set b_X_set 4 (some .int)) 6 200 [.ref x, .int (nI t), .int (nI ky), .int vl] (wX g x l0 t0 p0 ba h0 r0 un ++ wLog g l0 l1 l2 l3 l4 k o ke va n sy ++ wTr g t0 t1 t2 t3 t4 c f tk tv) (exP (some (.int (nI (n + 1)))) (wX g x l0 t0 p0 ba h0 r0 un ++ wLog g l0 l1 l2 l3 l4 (va_up k n 0) (va_up o n t) (va_up ke n ky) (upd va n vl) (n + 1) sy ++ wTr g t0 t1 t2 t3 t4 (va_up c t ((c t) + 1)) (va_up f t n) (va_up tk ((t * 4) + (c t)) ky) (upd tv ((t * 4) + (c t)) vl))) := by
  refine Ct.ofW (by decide) (Nat.le_of_ble_eq_true rfl) ?_
  intro pX eX sX mX aX bX tX cX AX lsX HX oX QX zx zb zr zk zm zo zg zK zP zD zA zS zQ zl
  have zo : sX.vm.findClass R_X = some mX.cls := zo
  have zl : lv_has lsX 4 [(0, .ref x), (1, .int (nI t)), (2, .int (nI ky)), (3, .int vl)] := zl
  refine lv_iload_n zx zb d_X_set_0 rfl (lv_at zl 1 rfl) ?_
  refine ct_Sx (ws' := wX g x l0 t0 p0 ba h0 r0 un ++ wLog g l0 l1 l2 l3 l4 k o ke va n sy ++ wTr g t0 t1 t2 t3 t4 c f tk tv) (rest := []) (st1 := [.int (nI 1)]) zx zb zm zo zg zK zP zD zS zA zl.1 (c_X_isTransaction_t lL g t (by omega)) ok_X_isTransaction os_X_isTransaction ml_X_55 (by decide) [] [0, 1, 2, 3, 4, 5, 6, 7, 8, 9, 10] 11 (by decide) rfl rfl rfl rfl (by decide) rfl rfl rfl (Nat.le_of_ble_eq_true rfl) d_X_set_1 (fun HX oX zP zD zS => ?_)
  refine wn_ieq_F (tgt := 14) zx zb d_X_set_4 (by decide) (by omega) (by omega) ?_
  refine lv_iload_n zx zb d_X_set_7 rfl (lv_at zl 2 rfl) ?_
  refine ct_Sx (ws' := wX g x l0 t0 p0 ba h0 r0 un ++ wLog g l0 l1 l2 l3 l4 k o ke va n sy ++ wTr g t0 t1 t2 t3 t4 c f tk tv) (rest := []) (st1 := [.int (nI 1)]) zx zb zm zo zg zK zP zD zS zA zl.1 (c_X_isKey_t lL g ky (by omega)) ok_X_isKey os_X_isKey ml_X_59 (by decide) [] [0, 1, 2, 3, 4, 5, 6, 7, 8, 9, 10] 11 (by decide) rfl rfl rfl rfl (by decide) rfl rfl rfl (Nat.le_of_ble_eq_true rfl) d_X_set_8 (fun HX oX zP zD zS => ?_)
  refine wn_ine_T (tgt := 16) zx zb d_X_set_11 (by decide) (by omega) (by omega) ?_
  refine lv_aload_n zx zb d_X_set_16 rfl (lv_at zl 0 rfl) ?_
  refine wv_get zx zb zg hin_X rfl zo zK zP 0 rfl 1 (by decide) rfl fl_X_19 rfl d_X_set_17 ?_
  refine lv_iload_n zx zb d_X_set_20 rfl (lv_at zl 1 rfl) ?_
  refine ct_V (ws' := wX g x l0 t0 p0 ba h0 r0 un ++ wLog g l0 l1 l2 l3 l4 k o ke va n sy ++ wTr g t0 t1 t2 t3 t4 c f tk tv) (rest := []) (st1 := [.int (nI 0)]) zx zb zm zo zg zK zP zD zS zA zl.1 (c_Tr_hasAll_f lL g t0 t1 t2 t3 t4 c f tk tv t (by omega) (by omega)) ok_Tr_hasAllSets ov_Tr_hasAllSets ml_X_62 (by decide) 6 2 rfl rfl rfl [6, 7, 8, 9, 10] [0, 1, 2, 3, 4, 5] 11 (by decide) rfl rfl rfl rfl (by decide) rfl rfl rfl (Nat.le_of_ble_eq_true rfl) d_X_set_21 (fun HX oX zP zD zS => ?_)
  refine wn_ine_F (tgt := 37) zx zb d_X_set_24 (by decide) (by omega) (by omega) ?_
  refine lv_aload_n zx zb d_X_set_27 rfl (lv_at zl 0 rfl) ?_
  refine wv_get zx zb zg hin_X rfl zo zK zP 0 rfl 0 (by decide) rfl fl_X_12 rfl d_X_set_28 ?_
  refine ct_V (ws' := wX g x l0 t0 p0 ba h0 r0 un ++ wLog g l0 l1 l2 l3 l4 k o ke va n sy ++ wTr g t0 t1 t2 t3 t4 c f tk tv) (rest := []) (st1 := [.int (nI 0)]) zx zb zm zo zg zK zP zD zS zA zl.1 (c_Log_isFull lL g l0 l1 l2 l3 l4 k o ke va n sy (by omega)) ok_Log_isFull ov_Log_isFull ml_X_65 (by decide) 1 1 rfl rfl rfl [1, 2, 3, 4, 5] [0, 6, 7, 8, 9, 10] 11 (by decide) rfl rfl rfl rfl (by decide) rfl rfl rfl (Nat.le_of_ble_eq_true rfl) d_X_set_31 (fun HX oX zP zD zS => ?_)
  refine wn_ieq_T (tgt := 40) zx zb d_X_set_34 (by decide) (by omega) (by omega) ?_
  refine lv_aload_n zx zb d_X_set_40 rfl (lv_at zl 0 rfl) ?_
  refine wv_get zx zb zg hin_X rfl zo zK zP 0 rfl 1 (by decide) rfl fl_X_19 rfl d_X_set_41 ?_
  refine lv_iload_n zx zb d_X_set_44 rfl (lv_at zl 1 rfl) ?_
  refine lv_iload_n zx zb d_X_set_45 rfl (lv_at zl 2 rfl) ?_
  refine lv_iload_n zx zb d_X_set_46 rfl (lv_at zl 3 rfl) ?_
  refine lv_aload_n zx zb d_X_set_47 rfl (lv_at zl 0 rfl) ?_
  refine wv_get zx zb zg hin_X rfl zo zK zP 0 rfl 0 (by decide) rfl fl_X_12 rfl d_X_set_48 ?_
  refine wv_get zx zb zg hin_Log rfl zo zK zP 1 rfl 4 (by decide) rfl fl_X_69 rfl d_X_set_51 ?_
  refine ct_V (ws' := wX g x l0 t0 p0 ba h0 r0 un ++ wLog g l0 l1 l2 l3 l4 k o ke va n sy ++ wTr g t0 t1 t2 t3 t4 (va_up c t ((c t) + 1)) (va_up f t n) (va_up tk ((t * 4) + (c t)) ky) (upd tv ((t * 4) + (c t)) vl)) (rest := []) (st1 := []) zx zb zm zo zg zK zP zD zS zA zl.1 (c_Tr_addSet_n lL g t0 t1 t2 t3 t4 c f tk tv t ky vl n (by omega) (by omega)) ok_Tr_addSet ov_Tr_addSet ml_X_72 (by decide) 6 2 rfl rfl rfl [6, 7, 8, 9, 10] [0, 1, 2, 3, 4, 5] 11 (by decide) rfl rfl rfl rfl (by decide) rfl rfl rfl (Nat.le_of_ble_eq_true rfl) d_X_set_54 (fun HX oX zP zD zS => ?_)
  refine lv_aload_n zx zb d_X_set_57 rfl (lv_at zl 0 rfl) ?_
  refine wv_get zx zb zg hin_X rfl zo zK zP 0 rfl 0 (by decide) rfl fl_X_12 rfl d_X_set_58 ?_
  refine lv_iconst (v := (nI 0)) zx zb d_X_set_61 (by decide) ?_
  refine lv_iload_n zx zb d_X_set_62 rfl (lv_at zl 1 rfl) ?_
  refine lv_iload_n zx zb d_X_set_63 rfl (lv_at zl 2 rfl) ?_
  refine lv_iload_n zx zb d_X_set_64 rfl (lv_at zl 3 rfl) ?_
  refine ct_V (ws' := wX g x l0 t0 p0 ba h0 r0 un ++ wLog g l0 l1 l2 l3 l4 (va_up k n 0) (va_up o n t) (va_up ke n ky) (upd va n vl) (n + 1) sy ++ wTr g t0 t1 t2 t3 t4 (va_up c t ((c t) + 1)) (va_up f t n) (va_up tk ((t * 4) + (c t)) ky) (upd tv ((t * 4) + (c t)) vl)) (rest := []) (st1 := [.int (nI (n + 1))]) zx zb zm zo zg zK zP zD zS zA zl.1 (c_Log_append lL g l0 l1 l2 l3 l4 k o ke va n sy 0 t ky vl (by omega)) ok_Log_append ov_Log_append ml_X_76 (by decide) 1 1 rfl rfl rfl [1, 2, 3, 4, 5] [0, 6, 7, 8, 9, 10] 11 (by decide) rfl rfl rfl rfl (by decide) rfl rfl rfl (Nat.le_of_ble_eq_true rfl) d_X_set_65 (fun HX oX zP zD zS => ?_)
  exact ct_iret zQ zx zb zr zk zP zD zS d_X_set_68 rfl (⟨rfl, rfl⟩)
set_option maxRecDepth 20000 in
theorem c_X_ref_n (lL : Launch) (g : Gt) (x : Nat) (l0 : Nat) (t0 : Nat) (p0 : Nat) (ba : Nat) (h0 : Nat) (r0 : Nat) (un : Int32) (t : Int32) (ht : t < 0) : Ct lL g y_X_refusalToEnd (.code y_X_refusalToEnd b_X_refusalToEnd 2 (some .int)) 1 20 [.ref x, .int t] (wX g x l0 t0 p0 ba h0 r0 un) (exP (some (.int (-1))) (wX g x l0 t0 p0 ba h0 r0 un)) := by
  refine Ct.ofW (by decide) (Nat.le_of_ble_eq_true rfl) ?_
  intro pX eX sX mX aX bX tX cX AX lsX HX oX QX zx zb zr zk zm zo zg zK zP zD zA zS zQ zl
  have zo : sX.vm.findClass R_X = some mX.cls := zo
  have zl : lv_has lsX 2 [(0, .ref x), (1, .int t)] := zl
  refine lv_iload_n zx zb d_X_refusalToEnd_0 rfl (lv_at zl 1 rfl) ?_
  refine ct_Sx (ws' := wX g x l0 t0 p0 ba h0 r0 un) (rest := []) (st1 := [.int (nI 0)]) zx zb zm zo zg zK zP zD zS zA zl.1 (c_X_isTransaction_n lL g t ht) ok_X_isTransaction os_X_isTransaction ml_X_55 (by decide) [] [0] 1 (by decide) rfl rfl rfl rfl (by decide) rfl rfl rfl (Nat.le_of_ble_eq_true rfl) d_X_refusalToEnd_1 (fun HX oX zP zD zS => ?_)
  refine wn_ine_F (tgt := 9) zx zb d_X_refusalToEnd_4 (by decide) (by omega) (by omega) ?_
  refine lv_iconst (v := (-1)) zx zb d_X_refusalToEnd_7 (by decide) ?_
  exact ct_iret zQ zx zb zr zk zP zD zS d_X_refusalToEnd_8 rfl (⟨rfl, rfl⟩)
set_option maxRecDepth 20000 in
theorem c_X_ref_g (lL : Launch) (g : Gt) (x : Nat) (l0 : Nat) (t0 : Nat) (p0 : Nat) (ba : Nat) (h0 : Nat) (r0 : Nat) (un : Int32) (t : Nat) (ht : 3 ≤ t) (ht2 : t < 2147483648) : Ct lL g y_X_refusalToEnd (.code y_X_refusalToEnd b_X_refusalToEnd 2 (some .int)) 1 20 [.ref x, .int (nI t)] (wX g x l0 t0 p0 ba h0 r0 un) (exP (some (.int (-1))) (wX g x l0 t0 p0 ba h0 r0 un)) := by
  refine Ct.ofW (by decide) (Nat.le_of_ble_eq_true rfl) ?_
  intro pX eX sX mX aX bX tX cX AX lsX HX oX QX zx zb zr zk zm zo zg zK zP zD zA zS zQ zl
  have zo : sX.vm.findClass R_X = some mX.cls := zo
  have zl : lv_has lsX 2 [(0, .ref x), (1, .int (nI t))] := zl
  refine lv_iload_n zx zb d_X_refusalToEnd_0 rfl (lv_at zl 1 rfl) ?_
  refine ct_Sx (ws' := wX g x l0 t0 p0 ba h0 r0 un) (rest := []) (st1 := [.int (nI 0)]) zx zb zm zo zg zK zP zD zS zA zl.1 (c_X_isTransaction_g lL g t (by omega) (by omega)) ok_X_isTransaction os_X_isTransaction ml_X_55 (by decide) [] [0] 1 (by decide) rfl rfl rfl rfl (by decide) rfl rfl rfl (Nat.le_of_ble_eq_true rfl) d_X_refusalToEnd_1 (fun HX oX zP zD zS => ?_)
  refine wn_ine_F (tgt := 9) zx zb d_X_refusalToEnd_4 (by decide) (by omega) (by omega) ?_
  refine lv_iconst (v := (-1)) zx zb d_X_refusalToEnd_7 (by decide) ?_
  exact ct_iret zQ zx zb zr zk zP zD zS d_X_refusalToEnd_8 rfl (⟨rfl, rfl⟩)
set_option maxRecDepth 20000 in
theorem c_X_ref_c (lL : Launch) (g : Gt) (x : Nat) (l0 : Nat) (t0 : Nat) (p0 : Nat) (ba : Nat) (h0 : Nat) (r0 : Nat) (un : Int32) (t1 : Nat) (t2 : Nat) (t3 : Nat) (t4 : Nat) (c : Nat → Nat) (f : Nat → Nat) (tk : Nat → Nat) (tv : Nat → Int32) (t : Nat) (ht : t < 3) (hct : c t = 0) : Ct lL g y_X_refusalToEnd (.code y_X_refusalToEnd b_X_refusalToEnd 2 (some .int)) 1 21 [.ref x, .int (nI t)] (wX g x l0 t0 p0 ba h0 r0 un ++ wTr g t0 t1 t2 t3 t4 c f tk tv) (exP (some (.int (-3))) (wX g x l0 t0 p0 ba h0 r0 un ++ wTr g t0 t1 t2 t3 t4 c f tk tv)) := by
  refine Ct.ofW (by decide) (Nat.le_of_ble_eq_true rfl) ?_
  intro pX eX sX mX aX bX tX cX AX lsX HX oX QX zx zb zr zk zm zo zg zK zP zD zA zS zQ zl
  have zo : sX.vm.findClass R_X = some mX.cls := zo
  have zl : lv_has lsX 2 [(0, .ref x), (1, .int (nI t))] := zl
  refine lv_iload_n zx zb d_X_refusalToEnd_0 rfl (lv_at zl 1 rfl) ?_
  refine ct_Sx (ws' := wX g x l0 t0 p0 ba h0 r0 un ++ wTr g t0 t1 t2 t3 t4 c f tk tv) (rest := []) (st1 := [.int (nI 1)]) zx zb zm zo zg zK zP zD zS zA zl.1 (c_X_isTransaction_t lL g t (by omega)) ok_X_isTransaction os_X_isTransaction ml_X_55 (by decide) [] [0, 1, 2, 3, 4, 5] 6 (by decide) rfl rfl rfl rfl (by decide) rfl rfl rfl (Nat.le_of_ble_eq_true rfl) d_X_refusalToEnd_1 (fun HX oX zP zD zS => ?_)
  refine wn_ine_T (tgt := 9) zx zb d_X_refusalToEnd_4 (by decide) (by omega) (by omega) ?_
  refine lv_aload_n zx zb d_X_refusalToEnd_9 rfl (lv_at zl 0 rfl) ?_
  refine wv_get zx zb zg hin_X rfl zo zK zP 0 rfl 1 (by decide) rfl fl_X_19 rfl d_X_refusalToEnd_10 ?_
  refine lv_iload_n zx zb d_X_refusalToEnd_13 rfl (lv_at zl 1 rfl) ?_
  refine ct_V (ws' := wX g x l0 t0 p0 ba h0 r0 un ++ wTr g t0 t1 t2 t3 t4 c f tk tv) (rest := []) (st1 := [.int (nI 0)]) zx zb zm zo zg zK zP zD zS zA zl.1 (c_Tr_isOpen_f lL g t0 t1 t2 t3 t4 c f tk tv t (by omega) (by omega)) ok_Tr_isOpen ov_Tr_isOpen ml_X_184 (by decide) 1 2 rfl rfl rfl [1, 2, 3, 4, 5] [0] 6 (by decide) rfl rfl rfl rfl (by decide) rfl rfl rfl (Nat.le_of_ble_eq_true rfl) d_X_refusalToEnd_14 (fun HX oX zP zD zS => ?_)
  refine wn_ine_F (tgt := 23) zx zb d_X_refusalToEnd_17 (by decide) (by omega) (by omega) ?_
  refine lv_bipush (v := (-3)) zx zb d_X_refusalToEnd_20 (by decide) ?_
  exact ct_iret zQ zx zb zr zk zP zD zS d_X_refusalToEnd_22 rfl (⟨rfl, rfl⟩)
set_option maxRecDepth 20000 in
theorem c_X_ref_o (lL : Launch) (g : Gt) (x : Nat) (l0 : Nat) (t0 : Nat) (p0 : Nat) (ba : Nat) (h0 : Nat) (r0 : Nat) (un : Int32) (l1 : Nat) (l2 : Nat) (l3 : Nat) (l4 : Nat) (k : Nat → Nat) (o : Nat → Nat) (ke : Nat → Nat) (va : Nat → Int32) (n : Nat) (sy : Nat) (t1 : Nat) (t2 : Nat) (t3 : Nat) (t4 : Nat) (c : Nat → Nat) (f : Nat → Nat) (tk : Nat → Nat) (tv : Nat → Int32) (t : Nat) (ht : t < 3) (hn : n < 512) (hct : 0 < c t) (hct2 : c t ≤ 4) : Ct lL g y_X_refusalToEnd (.code y_X_refusalToEnd b_X_refusalToEnd 2 (some .int)) 1 21 [.ref x, .int (nI t)] (wX g x l0 t0 p0 ba h0 r0 un ++ wLog g l0 l1 l2 l3 l4 k o ke va n sy ++ wTr g t0 t1 t2 t3 t4 c f tk tv) (exP (some (.int (nI 0))) (wX g x l0 t0 p0 ba h0 r0 un ++ wLog g l0 l1 l2 l3 l4 k o ke va n sy ++ wTr g t0 t1 t2 t3 t4 c f tk tv)) := by
  refine Ct.ofW (by decide) (Nat.le_of_ble_eq_true rfl) ?_
  intro pX eX sX mX aX bX tX cX AX lsX HX oX QX zx zb zr zk zm zo zg zK zP zD zA zS zQ zl
  have zo : sX.vm.findClass R_X = some mX.cls := zo
  have zl : lv_has lsX 2 [(0, .ref x), (1, .int (nI t))] := zl
  refine lv_iload_n zx zb d_X_refusalToEnd_0 rfl (lv_at zl 1 rfl) ?_
  refine ct_Sx (ws' := wX g x l0 t0 p0 ba h0 r0 un ++ wLog g l0 l1 l2 l3 l4 k o ke va n sy ++ wTr g t0 t1 t2 t3 t4 c f tk tv) (rest := []) (st1 := [.int (nI 1)]) zx zb zm zo zg zK zP zD zS zA zl.1 (c_X_isTransaction_t lL g t (by omega)) ok_X_isTransaction os_X_isTransaction ml_X_55 (by decide) [] [0, 1, 2, 3, 4, 5, 6, 7, 8, 9, 10] 11 (by decide) rfl rfl rfl rfl (by decide) rfl rfl rfl (Nat.le_of_ble_eq_true rfl) d_X_refusalToEnd_1 (fun HX oX zP zD zS => ?_)
  refine wn_ine_T (tgt := 9) zx zb d_X_refusalToEnd_4 (by decide) (by omega) (by omega) ?_
  refine lv_aload_n zx zb d_X_refusalToEnd_9 rfl (lv_at zl 0 rfl) ?_
  refine wv_get zx zb zg hin_X rfl zo zK zP 0 rfl 1 (by decide) rfl fl_X_19 rfl d_X_refusalToEnd_10 ?_
  refine lv_iload_n zx zb d_X_refusalToEnd_13 rfl (lv_at zl 1 rfl) ?_
  refine ct_V (ws' := wX g x l0 t0 p0 ba h0 r0 un ++ wLog g l0 l1 l2 l3 l4 k o ke va n sy ++ wTr g t0 t1 t2 t3 t4 c f tk tv) (rest := []) (st1 := [.int (nI 1)]) zx zb zm zo zg zK zP zD zS zA zl.1 (c_Tr_isOpen_t lL g t0 t1 t2 t3 t4 c f tk tv t (by omega) (by omega) (by omega)) ok_Tr_isOpen ov_Tr_isOpen ml_X_184 (by decide) 6 2 rfl rfl rfl [6, 7, 8, 9, 10] [0, 1, 2, 3, 4, 5] 11 (by decide) rfl rfl rfl rfl (by decide) rfl rfl rfl (Nat.le_of_ble_eq_true rfl) d_X_refusalToEnd_14 (fun HX oX zP zD zS => ?_)
  refine wn_ine_T (tgt := 23) zx zb d_X_refusalToEnd_17 (by decide) (by omega) (by omega) ?_
  refine lv_aload_n zx zb d_X_refusalToEnd_23 rfl (lv_at zl 0 rfl) ?_
  refine wv_get zx zb zg hin_X rfl zo zK zP 0 rfl 0 (by decide) rfl fl_X_12 rfl d_X_refusalToEnd_24 ?_
  refine ct_V (ws' := wX g x l0 t0 p0 ba h0 r0 un ++ wLog g l0 l1 l2 l3 l4 k o ke va n sy ++ wTr g t0 t1 t2 t3 t4 c f tk tv) (rest := []) (st1 := [.int (nI 0)]) zx zb zm zo zg zK zP zD zS zA zl.1 (c_Log_isFull lL g l0 l1 l2 l3 l4 k o ke va n sy (by omega)) ok_Log_isFull ov_Log_isFull ml_X_65 (by decide) 1 1 rfl rfl rfl [1, 2, 3, 4, 5] [0, 6, 7, 8, 9, 10] 11 (by decide) rfl rfl rfl rfl (by decide) rfl rfl rfl (Nat.le_of_ble_eq_true rfl) d_X_refusalToEnd_27 (fun HX oX zP zD zS => ?_)
  refine wn_ieq_T (tgt := 38) zx zb d_X_refusalToEnd_30 (by decide) (by omega) (by omega) ?_
  refine lv_iconst (v := (nI 0)) zx zb d_X_refusalToEnd_38 (by decide) ?_
  exact ct_iret zQ zx zb zr zk zP zD zS d_X_refusalToEnd_39 rfl (⟨rfl, rfl⟩)
set_option maxRecDepth 20000 in
theorem c_X_commit_n (lL : Launch) (g : Gt) (x : Nat) (l0 : Nat) (t0 : Nat) (p0 : Nat) (ba : Nat) (h0 : Nat) (r0 : Nat) (un : Int32) (t : Int32) (ht : t < 0) : Ct lL g y_X_commit (.code y_X_commit b_X_commit 4 (some .int)) 6 200 [.ref x, .int t] (wX g x l0 t0 p0 ba h0 r0 un) (exP (some (.int (-1))) (wX g x l0 t0 p0 ba h0 r0 un)) := by
  refine Ct.ofW (by decide) (Nat.le_of_ble_eq_true rfl) ?_
  intro pX eX sX mX aX bX tX cX AX lsX HX oX QX zx zb zr zk zm zo zg zK zP zD zA zS zQ zl
  have zo : sX.vm.findClass R_X = some mX.cls := zo
  have zl : lv_has lsX 4 [(0, .ref x), (1, .int t)] := zl
  refine lv_aload_n zx zb d_X_commit_0 rfl (lv_at zl 0 rfl) ?_
  refine lv_iload_n zx zb d_X_commit_1 rfl (lv_at zl 1 rfl) ?_
  refine ct_V (ws' := wX g x l0 t0 p0 ba h0 r0 un) (rest := []) (st1 := [.int (-1)]) zx zb zm zo zg zK zP zD zS zA zl.1 (c_X_ref_n lL g x l0 t0 p0 ba h0 r0 un t ht) ok_X_refusalToEnd ov_X_refusalToEnd ml_X_80 (by decide) 0 0 rfl rfl rfl [0] [] 1 (by decide) rfl rfl rfl rfl (by decide) rfl rfl rfl (Nat.le_of_ble_eq_true rfl) d_X_commit_2 (fun HX oX zP zD zS => ?_)
  refine lv_istore_n (lv' := [(2, .int (-1)), (0, .ref x), (1, .int t)]) zx zb d_X_commit_5 rfl zl (by decide) rfl (fun lsX zl => ?_)
  refine lv_iload_n zx zb d_X_commit_6 rfl (lv_at zl 0 rfl) ?_
  refine lv_if_eq (tgt := 12) zx zb d_X_commit_7 (by decide) (fun h => absurd h (by decide)) (fun _ => ?_)
  refine lv_iload_n zx zb d_X_commit_10 rfl (lv_at zl 0 rfl) ?_
  exact ct_iret zQ zx zb zr zk zP zD zS d_X_commit_11 rfl (⟨rfl, rfl⟩)
set_option maxRecDepth 20000 in
theorem c_X_commit_g (lL : Launch) (g : Gt) (x : Nat) (l0 : Nat) (t0 : Nat) (p0 : Nat) (ba : Nat) (h0 : Nat) (r0 : Nat) (un : Int32) (t : Nat) (ht : 3 ≤ t) (ht2 : t < 2147483648) : Ct lL g y_X_commit (.code y_X_commit b_X_commit 4 (some .int)) 6 200 [.ref x, .int (nI t)] (wX g x l0 t0 p0 ba h0 r0 un) (exP (some (.int (-1))) (wX g x l0 t0 p0 ba h0 r0 un)) := by
  refine Ct.ofW (by decide) (Nat.le_of_ble_eq_true rfl) ?_
  intro pX eX sX mX aX bX tX cX AX lsX HX oX QX zx zb zr zk zm zo zg zK zP zD zA zS zQ zl
  have zo : sX.vm.findClass R_X = some mX.cls := zo
  have zl : lv_has lsX 4 [(0, .ref x), (1, .int (nI t))] := zl
  refine lv_aload_n zx zb d_X_commit_0 rfl (lv_at zl 0 rfl) ?_
  refine lv_iload_n zx zb d_X_commit_1 rfl (lv_at zl 1 rfl) ?_
  refine ct_V (ws' := wX g x l0 t0 p0 ba h0 r0 un) (rest := []) (st1 := [.int (-1)]) zx zb zm zo zg zK zP zD zS zA zl.1 (c_X_ref_g lL g x l0 t0 p0 ba h0 r0 un t (by omega) (by omega)) ok_X_refusalToEnd ov_X_refusalToEnd ml_X_80 (by decide) 0 0 rfl rfl rfl [0] [] 1 (by decide) rfl rfl rfl rfl (by decide) rfl rfl rfl (Nat.le_of_ble_eq_true rfl) d_X_commit_2 (fun HX oX zP zD zS => ?_)
  refine lv_istore_n (lv' := [(2, .int (-1)), (0, .ref x), (1, .int (nI t))]) zx zb d_X_commit_5 rfl zl (by decide) rfl (fun lsX zl => ?_)
  refine lv_iload_n zx zb d_X_commit_6 rfl (lv_at zl 0 rfl) ?_
  refine lv_if_eq (tgt := 12) zx zb d_X_commit_7 (by decide) (fun h => absurd h (by decide)) (fun _ => ?_)
  refine lv_iload_n zx zb d_X_commit_10 rfl (lv_at zl 0 rfl) ?_
  exact ct_iret zQ zx zb zr zk zP zD zS d_X_commit_11 rfl (⟨rfl, rfl⟩)
set_option maxRecDepth 20000 in
theorem c_X_commit_c (lL : Launch) (g : Gt) (x : Nat) (l0 : Nat) (t0 : Nat) (p0 : Nat) (ba : Nat) (h0 : Nat) (r0 : Nat) (un : Int32) (t1 : Nat) (t2 : Nat) (t3 : Nat) (t4 : Nat) (c : Nat → Nat) (f : Nat → Nat) (tk : Nat → Nat) (tv : Nat → Int32) (t : Nat) (ht : t < 3) (hct : c t = 0) : Ct lL g y_X_commit (.code y_X_commit b_X_commit 4 (some .int)) 6 200 [.ref x, .int (nI t)] (wX g x l0 t0 p0 ba h0 r0 un ++ wTr g t0 t1 t2 t3 t4 c f tk tv) (exP (some (.int (-3))) (wX g x l0 t0 p0 ba h0 r0 un ++ wTr g t0 t1 t2 t3 t4 c f tk tv)) := by
  refine Ct.ofW (by decide) (Nat.le_of_ble_eq_true rfl) ?_
  intro pX eX sX mX aX bX tX cX AX lsX HX oX QX zx zb zr zk zm zo zg zK zP zD zA zS zQ zl
  have zo : sX.vm.findClass R_X = some mX.cls := zo
  have zl : lv_has lsX 4 [(0, .ref x), (1, .int (nI t))] := zl
  refine lv_aload_n zx zb d_X_commit_0 rfl (lv_at zl 0 rfl) ?_
  refine lv_iload_n zx zb d_X_commit_1 rfl (lv_at zl 1 rfl) ?_
  refine ct_V (ws' := wX g x l0 t0 p0 ba h0 r0 un ++ wTr g t0 t1 t2 t3 t4 c f tk tv) (rest := []) (st1 := [.int (-3)]) zx zb zm zo zg zK zP zD zS zA zl.1 (c_X_ref_c lL g x l0 t0 p0 ba h0 r0 un t1 t2 t3 t4 c f tk tv t (by omega) (by omega)) ok_X_refusalToEnd ov_X_refusalToEnd ml_X_80 (by decide) 0 0 rfl rfl rfl [0, 1, 2, 3, 4, 5] [] 6 (by decide) rfl rfl rfl rfl (by decide) rfl rfl rfl (Nat.le_of_ble_eq_true rfl) d_X_commit_2 (fun HX oX zP zD zS => ?_)
  refine lv_istore_n (lv' := [(2, .int (-3)), (0, .ref x), (1, .int (nI t))]) zx zb d_X_commit_5 rfl zl (by decide) rfl (fun lsX zl => ?_)
  refine lv_iload_n zx zb d_X_commit_6 rfl (lv_at zl 0 rfl) ?_
  refine lv_if_eq (tgt := 12) zx zb d_X_commit_7 (by decide) (fun h => absurd h (by decide)) (fun _ => ?_)
  refine lv_iload_n zx zb d_X_commit_10 rfl (lv_at zl 0 rfl) ?_
  exact ct_iret zQ zx zb zr zk zP zD zS d_X_commit_11 rfl (⟨rfl, rfl⟩)
set_option maxRecDepth 20000 in
theorem c_X_abort_n (lL : Launch) (g : Gt) (x : Nat) (l0 : Nat) (t0 : Nat) (p0 : Nat) (ba : Nat) (h0 : Nat) (r0 : Nat) (un : Int32) (t : Int32) (ht : t < 0) : Ct lL g y_X_abort (.code y_X_abort b_X_abort 3 (some .int)) 6 200 [.ref x, .int t] (wX g x l0 t0 p0 ba h0 r0 un) (exP (some (.int (-1))) (wX g x l0 t0 p0 ba h0 r0 un)) := by
  refine Ct.ofW (by decide) (Nat.le_of_ble_eq_true rfl) ?_
  intro pX eX sX mX aX bX tX cX AX lsX HX oX QX zx zb zr zk zm zo zg zK zP zD zA zS zQ zl
  have zo : sX.vm.findClass R_X = some mX.cls := zo
  have zl : lv_has lsX 3 [(0, .ref x), (1, .int t)] := zl
  refine lv_aload_n zx zb d_X_abort_0 rfl (lv_at zl 0 rfl) ?_
  refine lv_iload_n zx zb d_X_abort_1 rfl (lv_at zl 1 rfl) ?_
  refine ct_V (ws' := wX g x l0 t0 p0 ba h0 r0 un) (rest := []) (st1 := [.int (-1)]) zx zb zm zo zg zK zP zD zS zA zl.1 (c_X_ref_n lL g x l0 t0 p0 ba h0 r0 un t ht) ok_X_refusalToEnd ov_X_refusalToEnd ml_X_80 (by decide) 0 0 rfl rfl rfl [0] [] 1 (by decide) rfl rfl rfl rfl (by decide) rfl rfl rfl (Nat.le_of_ble_eq_true rfl) d_X_abort_2 (fun HX oX zP zD zS => ?_)
  refine lv_istore_n (lv' := [(2, .int (-1)), (0, .ref x), (1, .int t)]) zx zb d_X_abort_5 rfl zl (by decide) rfl (fun lsX zl => ?_)
  refine lv_iload_n zx zb d_X_abort_6 rfl (lv_at zl 0 rfl) ?_
  refine lv_if_eq (tgt := 12) zx zb d_X_abort_7 (by decide) (fun h => absurd h (by decide)) (fun _ => ?_)
  refine lv_iload_n zx zb d_X_abort_10 rfl (lv_at zl 0 rfl) ?_
  exact ct_iret zQ zx zb zr zk zP zD zS d_X_abort_11 rfl (⟨rfl, rfl⟩)
set_option maxRecDepth 20000 in
theorem c_X_abort_g (lL : Launch) (g : Gt) (x : Nat) (l0 : Nat) (t0 : Nat) (p0 : Nat) (ba : Nat) (h0 : Nat) (r0 : Nat) (un : Int32) (t : Nat) (ht : 3 ≤ t) (ht2 : t < 2147483648) : Ct lL g y_X_abort (.code y_X_abort b_X_abort 3 (some .int)) 6 200 [.ref x, .int (nI t)] (wX g x l0 t0 p0 ba h0 r0 un) (exP (some (.int (-1))) (wX g x l0 t0 p0 ba h0 r0 un)) := by
  refine Ct.ofW (by decide) (Nat.le_of_ble_eq_true rfl) ?_
  intro pX eX sX mX aX bX tX cX AX lsX HX oX QX zx zb zr zk zm zo zg zK zP zD zA zS zQ zl
  have zo : sX.vm.findClass R_X = some mX.cls := zo
  have zl : lv_has lsX 3 [(0, .ref x), (1, .int (nI t))] := zl
  refine lv_aload_n zx zb d_X_abort_0 rfl (lv_at zl 0 rfl) ?_
  refine lv_iload_n zx zb d_X_abort_1 rfl (lv_at zl 1 rfl) ?_
  refine ct_V (ws' := wX g x l0 t0 p0 ba h0 r0 un) (rest := []) (st1 := [.int (-1)]) zx zb zm zo zg zK zP zD zS zA zl.1 (c_X_ref_g lL g x l0 t0 p0 ba h0 r0 un t (by omega) (by omega)) ok_X_refusalToEnd ov_X_refusalToEnd ml_X_80 (by decide) 0 0 rfl rfl rfl [0] [] 1 (by decide) rfl rfl rfl rfl (by decide) rfl rfl rfl (Nat.le_of_ble_eq_true rfl) d_X_abort_2 (fun HX oX zP zD zS => ?_)
  refine lv_istore_n (lv' := [(2, .int (-1)), (0, .ref x), (1, .int (nI t))]) zx zb d_X_abort_5 rfl zl (by decide) rfl (fun lsX zl => ?_)
  refine lv_iload_n zx zb d_X_abort_6 rfl (lv_at zl 0 rfl) ?_
  refine lv_if_eq (tgt := 12) zx zb d_X_abort_7 (by decide) (fun h => absurd h (by decide)) (fun _ => ?_)
  refine lv_iload_n zx zb d_X_abort_10 rfl (lv_at zl 0 rfl) ?_
  exact ct_iret zQ zx zb zr zk zP zD zS d_X_abort_11 rfl (⟨rfl, rfl⟩)
set_option maxRecDepth 20000 in
theorem c_X_abort_c (lL : Launch) (g : Gt) (x : Nat) (l0 : Nat) (t0 : Nat) (p0 : Nat) (ba : Nat) (h0 : Nat) (r0 : Nat) (un : Int32) (t1 : Nat) (t2 : Nat) (t3 : Nat) (t4 : Nat) (c : Nat → Nat) (f : Nat → Nat) (tk : Nat → Nat) (tv : Nat → Int32) (t : Nat) (ht : t < 3) (hct : c t = 0) : Ct lL g y_X_abort (.code y_X_abort b_X_abort 3 (some .int)) 6 200 [.ref x, .int (nI t)] (wX g x l0 t0 p0 ba h0 r0 un ++ wTr g t0 t1 t2 t3 t4 c f tk tv) (exP (some (.int (-3))) (wX g x l0 t0 p0 ba h0 r0 un ++ wTr g t0 t1 t2 t3 t4 c f tk tv)) := by
  refine Ct.ofW (by decide) (Nat.le_of_ble_eq_true rfl) ?_
  intro pX eX sX mX aX bX tX cX AX lsX HX oX QX zx zb zr zk zm zo zg zK zP zD zA zS zQ zl
  have zo : sX.vm.findClass R_X = some mX.cls := zo
  have zl : lv_has lsX 3 [(0, .ref x), (1, .int (nI t))] := zl
  refine lv_aload_n zx zb d_X_abort_0 rfl (lv_at zl 0 rfl) ?_
  refine lv_iload_n zx zb d_X_abort_1 rfl (lv_at zl 1 rfl) ?_
  refine ct_V (ws' := wX g x l0 t0 p0 ba h0 r0 un ++ wTr g t0 t1 t2 t3 t4 c f tk tv) (rest := []) (st1 := [.int (-3)]) zx zb zm zo zg zK zP zD zS zA zl.1 (c_X_ref_c lL g x l0 t0 p0 ba h0 r0 un t1 t2 t3 t4 c f tk tv t (by omega) (by omega)) ok_X_refusalToEnd ov_X_refusalToEnd ml_X_80 (by decide) 0 0 rfl rfl rfl [0, 1, 2, 3, 4, 5] [] 6 (by decide) rfl rfl rfl rfl (by decide) rfl rfl rfl (Nat.le_of_ble_eq_true rfl) d_X_abort_2 (fun HX oX zP zD zS => ?_)
  refine lv_istore_n (lv' := [(2, .int (-3)), (0, .ref x), (1, .int (nI t))]) zx zb d_X_abort_5 rfl zl (by decide) rfl (fun lsX zl => ?_)
  refine lv_iload_n zx zb d_X_abort_6 rfl (lv_at zl 0 rfl) ?_
  refine lv_if_eq (tgt := 12) zx zb d_X_abort_7 (by decide) (fun h => absurd h (by decide)) (fun _ => ?_)
  refine lv_iload_n zx zb d_X_abort_10 rfl (lv_at zl 0 rfl) ?_
  exact ct_iret zQ zx zb zr zk zP zD zS d_X_abort_11 rfl (⟨rfl, rfl⟩)
set_option maxRecDepth 20000 in
theorem c_X_abort_o (lL : Launch) (g : Gt) (x : Nat) (l0 : Nat) (t0 : Nat) (p0 : Nat) (ba : Nat) (h0 : Nat) (r0 : Nat) (un : Int32) (l1 : Nat) (l2 : Nat) (l3 : Nat) (l4 : Nat) (k : Nat → Nat) (o : Nat → Nat) (ke : Nat → Nat) (va : Nat → Int32) (n : Nat) (sy : Nat) (t1 : Nat) (t2 : Nat) (t3 : Nat) (t4 : Nat) (c : Nat → Nat) (f : Nat → Nat) (tk : Nat → Nat) (tv : Nat → Int32) (t : Nat) (ht : t < 3) (hn : n < 512) (hct : 0 < c t) (hct2 : c t ≤ 4) : Ct lL g y_X_abort (.code y_X_abort b_X_abort 3 (some .int)) 6 200 [.ref x, .int (nI t)] (wX g x l0 t0 p0 ba h0 r0 un ++ wLog g l0 l1 l2 l3 l4 k o ke va n sy ++ wTr g t0 t1 t2 t3 t4 c f tk tv) (exP (some (.int (nI (n + 1)))) (wX g x l0 t0 p0 ba h0 r0 un ++ wLog g l0 l1 l2 l3 l4 (va_up k n 2) (va_up o n t) (va_up ke n 0) (upd va n (nI 0)) (n + 1) sy ++ wTr g t0 t1 t2 t3 t4 (va_up c t 0) f tk tv)) := by
  refine Ct.ofW (by decide) (Nat.le_of_ble_eq_true rfl) ?_
  intro pX eX sX mX aX bX tX cX AX lsX HX oX QX zx zb zr zk zm zo zg zK zP zD zA zS zQ zl
  have zo : sX.vm.findClass R_X = some mX.cls := zo
  have zl : lv_has lsX 3 [(0, .ref x), (1, .int (nI t))] := zl
  refine lv_aload_n zx zb d_X_abort_0 rfl (lv_at zl 0 rfl) ?_
  refine lv_iload_n zx zb d_X_abort_1 rfl (lv_at zl 1 rfl) ?_
  refine ct_V (ws' := wX g x l0 t0 p0 ba h0 r0 un ++ wLog g l0 l1 l2 l3 l4 k o ke va n sy ++ wTr g t0 t1 t2 t3 t4 c f tk tv) (rest := []) (st1 := [.int (nI 0)]) zx zb zm zo zg zK zP zD zS zA zl.1 (c_X_ref_o lL g x l0 t0 p0 ba h0 r0 un l1 l2 l3 l4 k o ke va n sy t1 t2 t3 t4 c f tk tv t (by omega) (by omega) (by omega) (by omega)) ok_X_refusalToEnd ov_X_refusalToEnd ml_X_80 (by decide) 0 0 rfl rfl rfl [0, 1, 2, 3, 4, 5, 6, 7, 8, 9, 10] [] 11 (by decide) rfl rfl rfl rfl (by decide) rfl rfl rfl (Nat.le_of_ble_eq_true rfl) d_X_abort_2 (fun HX oX zP zD zS => ?_)
  refine lv_istore_n (lv' := [(2, .int (nI 0)), (0, .ref x), (1, .int (nI t))]) zx zb d_X_abort_5 rfl zl (by decide) rfl (fun lsX zl => ?_)
  refine lv_iload_n zx zb d_X_abort_6 rfl (lv_at zl 0 rfl) ?_
  refine wn_ieq_T (tgt := 12) zx zb d_X_abort_7 (by decide) (by omega) (by omega) ?_
  refine lv_aload_n zx zb d_X_abort_12 rfl (lv_at zl 1 rfl) ?_
  refine wv_get zx zb zg hin_X rfl zo zK zP 0 rfl 1 (by decide) rfl fl_X_19 rfl d_X_abort_13 ?_
  refine lv_iload_n zx zb d_X_abort_16 rfl (lv_at zl 2 rfl) ?_
  refine ct_V (ws' := wX g x l0 t0 p0 ba h0 r0 un ++ wLog g l0 l1 l2 l3 l4 k o ke va n sy ++ wTr g t0 t1 t2 t3 t4 (va_up c t 0) f tk tv) (rest := []) (st1 := []) zx zb zm zo zg zK zP zD zS zA zl.1 (c_Tr_close lL g t0 t1 t2 t3 t4 c f tk tv t (by omega)) ok_Tr_close ov_Tr_close ml_X_88 (by decide) 6 2 rfl rfl rfl [6, 7, 8, 9, 10] [0, 1, 2, 3, 4, 5] 11 (by decide) rfl rfl rfl rfl (by decide) rfl rfl rfl (Nat.le_of_ble_eq_true rfl) d_X_abort_17 (fun HX oX zP zD zS => ?_)
  refine lv_aload_n zx zb d_X_abort_20 rfl (lv_at zl 1 rfl) ?_
  refine wv_get zx zb zg hin_X rfl zo zK zP 0 rfl 0 (by decide) rfl fl_X_12 rfl d_X_abort_21 ?_
  refine lv_iconst (v := (nI 2)) zx zb d_X_abort_24 (by decide) ?_
  refine lv_iload_n zx zb d_X_abort_25 rfl (lv_at zl 2 rfl) ?_
  refine lv_iconst (v := (nI 0)) zx zb d_X_abort_26 (by decide) ?_
  refine lv_iconst (v := (nI 0)) zx zb d_X_abort_27 (by decide) ?_
  refine ct_V (ws' := wX g x l0 t0 p0 ba h0 r0 un ++ wLog g l0 l1 l2 l3 l4 (va_up k n 2) (va_up o n t) (va_up ke n 0) (upd va n (nI 0)) (n + 1) sy ++ wTr g t0 t1 t2 t3 t4 (va_up c t 0) f tk tv) (rest := []) (st1 := [.int (nI (n + 1))]) zx zb zm zo zg zK zP zD zS zA zl.1 (c_Log_append lL g l0 l1 l2 l3 l4 k o ke va n sy 2 t 0 (nI 0) (by omega)) ok_Log_append ov_Log_append ml_X_76 (by decide) 1 1 rfl rfl rfl [1, 2, 3, 4, 5] [0, 6, 7, 8, 9, 10] 11 (by decide) rfl rfl rfl rfl (by decide) rfl rfl rfl (Nat.le_of_ble_eq_true rfl) d_X_abort_28 (fun HX oX zP zD zS => ?_)
  exact ct_iret zQ zx zb zr zk zP zD zS d_X_abort_31 rfl (⟨rfl, rfl⟩)
set_option maxRecDepth 20000 in
theorem c_X_commit_o (lL : Launch) (g : Gt) (x : Nat) (l0 : Nat) (t0 : Nat) (p0 : Nat) (ba : Nat) (h0 : Nat) (r0 : Nat) (un : Int32) (l1 : Nat) (l2 : Nat) (l3 : Nat) (l4 : Nat) (k : Nat → Nat) (o : Nat → Nat) (ke : Nat → Nat) (va : Nat → Int32) (n : Nat) (sy : Nat) (t1 : Nat) (t2 : Nat) (t3 : Nat) (t4 : Nat) (c : Nat → Nat) (f : Nat → Nat) (tk : Nat → Nat) (tv : Nat → Int32) (p1 : Nat) (p2 : Nat) (p3 : Nat) (p4 : Nat) (p5 : Nat) (me : Nat → Int32) (ms : Nat → Int32) (dk : Nat → Int32) (ds : Nat → Nat) (du : Nat → Nat) (t : Nat) (ht : t < 3) (hn : n < 512) (hct : 0 < c t) (hct2 : c t ≤ 4) (hk : ∀ j, j < 12 → tk j < 32) (hd : ∀ j, j < 8 → ds j ≤ 512) : Ct lL g y_X_commit (.code y_X_commit b_X_commit 4 (some .int)) 6 200 [.ref x, .int (nI t)] (wX g x l0 t0 p0 ba h0 r0 un ++ wLog g l0 l1 l2 l3 l4 k o ke va n sy ++ wTr g t0 t1 t2 t3 t4 c f tk tv ++ wPg g p0 p1 p2 p3 p4 p5 me ms dk ds du) (exP (some (.int (nI (n + 1)))) (wX g x l0 t0 p0 ba h0 r0 un ++ wLog g l0 l1 l2 l3 l4 (va_up k n 1) (va_up o n t) (va_up ke n 0) (upd va n (nI 0)) (n + 1) sy ++ wTr g t0 t1 t2 t3 t4 (va_up c t 0) f tk tv ++ wPg g p0 p1 p2 p3 p4 p5 (wrS tk tv me (t * 4) (c t)) ms dk ((tcS tk (n + 1) ds du (t * 4) (c t)).1) ((tcS tk (n + 1) ds du (t * 4) (c t)).2))) := by
  refine Ct.ofW (by decide) (Nat.le_of_ble_eq_true rfl) ?_
  intro pX eX sX mX aX bX tX cX AX lsX HX oX QX zx zb zr zk zm zo zg zK zP zD zA zS zQ zl
  have zo : sX.vm.findClass R_X = some mX.cls := zo
  have zl : lv_has lsX 4 [(0, .ref x), (1, .int (nI t))] := zl
  refine lv_aload_n zx zb d_X_commit_0 rfl (lv_at zl 0 rfl) ?_
  refine lv_iload_n zx zb d_X_commit_1 rfl (lv_at zl 1 rfl) ?_
  refine ct_V (ws' := wX g x l0 t0 p0 ba h0 r0 un ++ wLog g l0 l1 l2 l3 l4 k o ke va n sy ++ wTr g t0 t1 t2 t3 t4 c f tk tv ++ wPg g p0 p1 p2 p3 p4 p5 me ms dk ds du) (rest := []) (st1 := [.int (nI 0)]) zx zb zm zo zg zK zP zD zS zA zl.1 (c_X_ref_o lL g x l0 t0 p0 ba h0 r0 un l1 l2 l3 l4 k o ke va n sy t1 t2 t3 t4 c f tk tv t (by omega) (by omega) (by omega) (by omega)) ok_X_refusalToEnd ov_X_refusalToEnd ml_X_80 (by decide) 0 0 rfl rfl rfl [0, 1, 2, 3, 4, 5, 6, 7, 8, 9, 10] [11, 12, 13, 14, 15, 16] 17 (by decide) rfl rfl rfl rfl (by decide) rfl rfl rfl (Nat.le_of_ble_eq_true rfl) d_X_commit_2 (fun HX oX zP zD zS => ?_)
  refine lv_istore_n (lv' := [(2, .int (nI 0)), (0, .ref x), (1, .int (nI t))]) zx zb d_X_commit_5 rfl zl (by decide) rfl (fun lsX zl => ?_)
  refine lv_iload_n zx zb d_X_commit_6 rfl (lv_at zl 0 rfl) ?_
  refine wn_ieq_T (tgt := 12) zx zb d_X_commit_7 (by decide) (by omega) (by omega) ?_
  refine lv_aload_n zx zb d_X_commit_12 rfl (lv_at zl 1 rfl) ?_
  refine wv_get zx zb zg hin_X rfl zo zK zP 0 rfl 0 (by decide) rfl fl_X_12 rfl d_X_commit_13 ?_
  refine lv_iconst (v := (nI 1)) zx zb d_X_commit_16 (by decide) ?_
  refine lv_iload_n zx zb d_X_commit_17 rfl (lv_at zl 2 rfl) ?_
  refine lv_iconst (v := (nI 0)) zx zb d_X_commit_18 (by decide) ?_
  refine lv_iconst (v := (nI 0)) zx zb d_X_commit_19 (by decide) ?_
  refine ct_V (ws' := wX g x l0 t0 p0 ba h0 r0 un ++ wLog g l0 l1 l2 l3 l4 (va_up k n 1) (va_up o n t) (va_up ke n 0) (upd va n (nI 0)) (n + 1) sy ++ wTr g t0 t1 t2 t3 t4 c f tk tv ++ wPg g p0 p1 p2 p3 p4 p5 me ms dk ds du) (rest := []) (st1 := [.int (nI (n + 1))]) zx zb zm zo zg zK zP zD zS zA zl.1 (c_Log_append lL g l0 l1 l2 l3 l4 k o ke va n sy 1 t 0 (nI 0) (by omega)) ok_Log_append ov_Log_append ml_X_76 (by decide) 1 1 rfl rfl rfl [1, 2, 3, 4, 5] [0, 6, 7, 8, 9, 10, 11, 12, 13, 14, 15, 16] 17 (by decide) rfl rfl rfl rfl (by decide) rfl rfl rfl (Nat.le_of_ble_eq_true rfl) d_X_commit_20 (fun HX oX zP zD zS => ?_)
  refine lv_istore_n (lv' := [(3, .int (nI (n + 1))), (2, .int (nI 0)), (0, .ref x), (1, .int (nI t))]) zx zb d_X_commit_23 rfl zl (by decide) rfl (fun lsX zl => ?_)
  refine lv_aload_n zx zb d_X_commit_24 rfl (lv_at zl 2 rfl) ?_
  refine wv_get zx zb zg hin_X rfl zo zK zP 0 rfl 2 (by decide) rfl fl_X_26 rfl d_X_commit_25 ?_
  refine lv_aload_n zx zb d_X_commit_28 rfl (lv_at zl 2 rfl) ?_
  refine wv_get zx zb zg hin_X rfl zo zK zP 0 rfl 1 (by decide) rfl fl_X_19 rfl d_X_commit_29 ?_
  refine lv_iload_n zx zb d_X_commit_32 rfl (lv_at zl 3 rfl) ?_
  refine lv_iload_n zx zb d_X_commit_33 rfl (lv_at zl 0 rfl) ?_
  refine ct_V (ws' := wX g x l0 t0 p0 ba h0 r0 un ++ wLog g l0 l1 l2 l3 l4 (va_up k n 1) (va_up o n t) (va_up ke n 0) (upd va n (nI 0)) (n + 1) sy ++ wTr g t0 t1 t2 t3 t4 c f tk tv ++ wPg g p0 p1 p2 p3 p4 p5 (wrS tk tv me (t * 4) (c t)) ms dk ((tcS tk (n + 1) ds du (t * 4) (c t)).1) ((tcS tk (n + 1) ds du (t * 4) (c t)).2)) (rest := []) (st1 := []) zx zb zm zo zg zK zP zD zS zA zl.1 (c_Pg_takeCommit lL g p0 p1 p2 p3 p4 p5 me ms dk ds du t0 t1 t2 t3 t4 c f tk tv t (n + 1) (by omega) (by omega) hk hd (by omega)) ok_Pg_takeCommit ov_Pg_takeCommit ml_X_84 (by decide) 11 3 rfl rfl rfl [11, 12, 13, 14, 15, 16, 6, 7, 8, 9, 10] [0, 1, 2, 3, 4, 5] 17 (by decide) rfl rfl rfl rfl (by decide) rfl rfl rfl (Nat.le_of_ble_eq_true rfl) d_X_commit_34 (fun HX oX zP zD zS => ?_)
  refine lv_aload_n zx zb d_X_commit_37 rfl (lv_at zl 2 rfl) ?_
  refine wv_get zx zb zg hin_X rfl zo zK zP 0 rfl 1 (by decide) rfl fl_X_19 rfl d_X_commit_38 ?_
  refine lv_iload_n zx zb d_X_commit_41 rfl (lv_at zl 3 rfl) ?_
  refine ct_V (ws' := wX g x l0 t0 p0 ba h0 r0 un ++ wLog g l0 l1 l2 l3 l4 (va_up k n 1) (va_up o n t) (va_up ke n 0) (upd va n (nI 0)) (n + 1) sy ++ wTr g t0 t1 t2 t3 t4 (va_up c t 0) f tk tv ++ wPg g p0 p1 p2 p3 p4 p5 (wrS tk tv me (t * 4) (c t)) ms dk ((tcS tk (n + 1) ds du (t * 4) (c t)).1) ((tcS tk (n + 1) ds du (t * 4) (c t)).2)) (rest := []) (st1 := []) zx zb zm zo zg zK zP zD zS zA zl.1 (c_Tr_close lL g t0 t1 t2 t3 t4 c f tk tv t (by omega)) ok_Tr_close ov_Tr_close ml_X_88 (by decide) 6 2 rfl rfl rfl [6, 7, 8, 9, 10] [0, 1, 2, 3, 4, 5, 11, 12, 13, 14, 15, 16] 17 (by decide) rfl rfl rfl rfl (by decide) rfl rfl rfl (Nat.le_of_ble_eq_true rfl) d_X_commit_42 (fun HX oX zP zD zS => ?_)
  refine lv_iload_n zx zb d_X_commit_45 rfl (lv_at zl 0 rfl) ?_
  exact ct_iret zQ zx zb zr zk zP zD zS d_X_commit_46 rfl (⟨rfl, rfl⟩)
set_option maxRecDepth 20000 in
theorem c_X_get_n (lL : Launch) (g : Gt) (x : Nat) (l0 : Nat) (t0 : Nat) (p0 : Nat) (ba : Nat) (h0 : Nat) (r0 : Nat) (un : Int32) (ky : Int32) (hk : ky < 0) : Ct lL g y_X_get (.code y_X_get b_X_get 2 (some .int)) 6 200 [.ref x, .int ky] (wX g x l0 t0 p0 ba h0 r0 un) (exP (some (.int (nI 0))) (wX g x l0 t0 p0 ba h0 r0 un)) := by
  refine Ct.ofW (by decide) (Nat.le_of_ble_eq_true rfl) ?_
  intro pX eX sX mX aX bX tX cX AX lsX HX oX QX zx zb zr zk zm zo zg zK zP zD zA zS zQ zl
  have zo : sX.vm.findClass R_X = some mX.cls := zo
  have zl : lv_has lsX 2 [(0, .ref x), (1, .int ky)] := zl
  refine lv_iload_n zx zb d_X_get_0 rfl (lv_at zl 1 rfl) ?_
  refine ct_Sx (ws' := wX g x l0 t0 p0 ba h0 r0 un) (rest := []) (st1 := [.int (nI 0)]) zx zb zm zo zg zK zP zD zS zA zl.1 (c_X_isKey_n lL g ky hk) ok_X_isKey os_X_isKey ml_X_59 (by decide) [] [0] 1 (by decide) rfl rfl rfl rfl (by decide) rfl rfl rfl (Nat.le_of_ble_eq_true rfl) d_X_get_1 (fun HX oX zP zD zS => ?_)
  refine wn_ieq_T (tgt := 19) zx zb d_X_get_4 (by decide) (by omega) (by omega) ?_
  refine lv_iconst (v := (nI 0)) zx zb d_X_get_19 (by decide) ?_
  exact ct_iret zQ zx zb zr zk zP zD zS d_X_get_20 rfl (⟨rfl, rfl⟩)
set_option maxRecDepth 20000 in
theorem c_X_get_g (lL : Launch) (g : Gt) (x : Nat) (l0 : Nat) (t0 : Nat) (p0 : Nat) (ba : Nat) (h0 : Nat) (r0 : Nat) (un : Int32) (ky : Nat) (hk : 32 ≤ ky) (hk2 : ky < 2147483648) : Ct lL g y_X_get (.code y_X_get b_X_get 2 (some .int)) 6 200 [.ref x, .int (nI ky)] (wX g x l0 t0 p0 ba h0 r0 un) (exP (some (.int (nI 0))) (wX g x l0 t0 p0 ba h0 r0 un)) := by
  refine Ct.ofW (by decide) (Nat.le_of_ble_eq_true rfl) ?_
  intro pX eX sX mX aX bX tX cX AX lsX HX oX QX zx zb zr zk zm zo zg zK zP zD zA zS zQ zl
  have zo : sX.vm.findClass R_X = some mX.cls := zo
  have zl : lv_has lsX 2 [(0, .ref x), (1, .int (nI ky))] := zl
  refine lv_iload_n zx zb d_X_get_0 rfl (lv_at zl 1 rfl) ?_
  refine ct_Sx (ws' := wX g x l0 t0 p0 ba h0 r0 un) (rest := []) (st1 := [.int (nI 0)]) zx zb zm zo zg zK zP zD zS zA zl.1 (c_X_isKey_g lL g ky (by omega) (by omega)) ok_X_isKey os_X_isKey ml_X_59 (by decide) [] [0] 1 (by decide) rfl rfl rfl rfl (by decide) rfl rfl rfl (Nat.le_of_ble_eq_true rfl) d_X_get_1 (fun HX oX zP zD zS => ?_)
  refine wn_ieq_T (tgt := 19) zx zb d_X_get_4 (by decide) (by omega) (by omega) ?_
  refine lv_iconst (v := (nI 0)) zx zb d_X_get_19 (by decide) ?_
  exact ct_iret zQ zx zb zr zk zP zD zS d_X_get_20 rfl (⟨rfl, rfl⟩)
set_option maxRecDepth 20000 in
theorem c_X_get_t (lL : Launch) (g : Gt) (x : Nat) (l0 : Nat) (t0 : Nat) (p0 : Nat) (ba : Nat) (h0 : Nat) (r0 : Nat) (un : Int32) (p1 : Nat) (p2 : Nat) (p3 : Nat) (p4 : Nat) (p5 : Nat) (me : Nat → Int32) (ms : Nat → Int32) (dk : Nat → Int32) (ds : Nat → Nat) (du : Nat → Nat) (ky : Nat) (hk : ky < 32) : Ct lL g y_X_get (.code y_X_get b_X_get 2 (some .int)) 6 200 [.ref x, .int (nI ky)] (wX g x l0 t0 p0 ba h0 r0 un ++ wPg g p0 p1 p2 p3 p4 p5 me ms dk ds du) (exP (some (.int (me ky))) (wX g x l0 t0 p0 ba h0 r0 un ++ wPg g p0 p1 p2 p3 p4 p5 me ms dk ds du)) := by
  refine Ct.ofW (by decide) (Nat.le_of_ble_eq_true rfl) ?_
  intro pX eX sX mX aX bX tX cX AX lsX HX oX QX zx zb zr zk zm zo zg zK zP zD zA zS zQ zl
  have zo : sX.vm.findClass R_X = some mX.cls := zo
  have zl : lv_has lsX 2 [(0, .ref x), (1, .int (nI ky))] := zl
  refine lv_iload_n zx zb d_X_get_0 rfl (lv_at zl 1 rfl) ?_
  refine ct_Sx (ws' := wX g x l0 t0 p0 ba h0 r0 un ++ wPg g p0 p1 p2 p3 p4 p5 me ms dk ds du) (rest := []) (st1 := [.int (nI 1)]) zx zb zm zo zg zK zP zD zS zA zl.1 (c_X_isKey_t lL g ky (by omega)) ok_X_isKey os_X_isKey ml_X_59 (by decide) [] [0, 1, 2, 3, 4, 5, 6] 7 (by decide) rfl rfl rfl rfl (by decide) rfl rfl rfl (Nat.le_of_ble_eq_true rfl) d_X_get_1 (fun HX oX zP zD zS => ?_)
  refine wn_ieq_F (tgt := 19) zx zb d_X_get_4 (by decide) (by omega) (by omega) ?_
  refine lv_aload_n zx zb d_X_get_7 rfl (lv_at zl 0 rfl) ?_
  refine wv_get zx zb zg hin_X rfl zo zK zP 0 rfl 2 (by decide) rfl fl_X_26 rfl d_X_get_8 ?_
  refine wv_get zx zb zg hin_Pg rfl zo zK zP 1 rfl 0 (by decide) rfl fl_X_92 rfl d_X_get_11 ?_
  refine lv_iload_n zx zb d_X_get_14 rfl (lv_at zl 1 rfl) ?_
  refine wv_iald zx zb zK zP 2 rfl (by omega) (by decide) d_X_get_15 ?_
  refine lv_goto (tgt := 20) zx zb d_X_get_16 (by decide) ?_
  exact ct_iret zQ zx zb zr zk zP zD zS d_X_get_20 rfl (⟨rfl, rfl⟩)
set_option maxRecDepth 20000 in
theorem c_X_restored_n (lL : Launch) (g : Gt) (x : Nat) (l0 : Nat) (t0 : Nat) (p0 : Nat) (ba : Nat) (h0 : Nat) (r0 : Nat) (un : Int32) (ky : Int32) (hk : ky < 0) : Ct lL g y_X_restored (.code y_X_restored b_X_restored 2 (some .int)) 6 200 [.ref x, .int ky] (wX g x l0 t0 p0 ba h0 r0 un) (exP (some (.int (nI 0))) (wX g x l0 t0 p0 ba h0 r0 un)) := by
  refine Ct.ofW (by decide) (Nat.le_of_ble_eq_true rfl) ?_
  intro pX eX sX mX aX bX tX cX AX lsX HX oX QX zx zb zr zk zm zo zg zK zP zD zA zS zQ zl
  have zo : sX.vm.findClass R_X = some mX.cls := zo
  have zl : lv_has lsX 2 [(0, .ref x), (1, .int ky)] := zl
  refine lv_iload_n zx zb d_X_restored_0 rfl (lv_at zl 1 rfl) ?_
  refine ct_Sx (ws' := wX g x l0 t0 p0 ba h0 r0 un) (rest := []) (st1 := [.int (nI 0)]) zx zb zm zo zg zK zP zD zS zA zl.1 (c_X_isKey_n lL g ky hk) ok_X_isKey os_X_isKey ml_X_59 (by decide) [] [0] 1 (by decide) rfl rfl rfl rfl (by decide) rfl rfl rfl (Nat.le_of_ble_eq_true rfl) d_X_restored_1 (fun HX oX zP zD zS => ?_)
  refine wn_ieq_T (tgt := 19) zx zb d_X_restored_4 (by decide) (by omega) (by omega) ?_
  refine lv_iconst (v := (nI 0)) zx zb d_X_restored_19 (by decide) ?_
  exact ct_iret zQ zx zb zr zk zP zD zS d_X_restored_20 rfl (⟨rfl, rfl⟩)
set_option maxRecDepth 20000 in
theorem c_X_restored_g (lL : Launch) (g : Gt) (x : Nat) (l0 : Nat) (t0 : Nat) (p0 : Nat) (ba : Nat) (h0 : Nat) (r0 : Nat) (un : Int32) (ky : Nat) (hk : 32 ≤ ky) (hk2 : ky < 2147483648) : Ct lL g y_X_restored (.code y_X_restored b_X_restored 2 (some .int)) 6 200 [.ref x, .int (nI ky)] (wX g x l0 t0 p0 ba h0 r0 un) (exP (some (.int (nI 0))) (wX g x l0 t0 p0 ba h0 r0 un)) := by
  refine Ct.ofW (by decide) (Nat.le_of_ble_eq_true rfl) ?_
  intro pX eX sX mX aX bX tX cX AX lsX HX oX QX zx zb zr zk zm zo zg zK zP zD zA zS zQ zl
  have zo : sX.vm.findClass R_X = some mX.cls := zo
  have zl : lv_has lsX 2 [(0, .ref x), (1, .int (nI ky))] := zl
  refine lv_iload_n zx zb d_X_restored_0 rfl (lv_at zl 1 rfl) ?_
  refine ct_Sx (ws' := wX g x l0 t0 p0 ba h0 r0 un) (rest := []) (st1 := [.int (nI 0)]) zx zb zm zo zg zK zP zD zS zA zl.1 (c_X_isKey_g lL g ky (by omega) (by omega)) ok_X_isKey os_X_isKey ml_X_59 (by decide) [] [0] 1 (by decide) rfl rfl rfl rfl (by decide) rfl rfl rfl (Nat.le_of_ble_eq_true rfl) d_X_restored_1 (fun HX oX zP zD zS => ?_)
  refine wn_ieq_T (tgt := 19) zx zb d_X_restored_4 (by decide) (by omega) (by omega) ?_
  refine lv_iconst (v := (nI 0)) zx zb d_X_restored_19 (by decide) ?_
  exact ct_iret zQ zx zb zr zk zP zD zS d_X_restored_20 rfl (⟨rfl, rfl⟩)
set_option maxRecDepth 20000 in
theorem c_X_restored_t (lL : Launch) (g : Gt) (x : Nat) (l0 : Nat) (t0 : Nat) (p0 : Nat) (ba : Nat) (h0 : Nat) (r0 : Nat) (un : Int32) (r1 : Nat) (s0 : Nat) (rv : Nat → Int32) (rr : Nat) (ky : Nat) (hk : ky < 32) : Ct lL g y_X_restored (.code y_X_restored b_X_restored 2 (some .int)) 6 200 [.ref x, .int (nI ky)] (wX g x l0 t0 p0 ba h0 r0 un ++ wRs g r0 r1 s0 rv rr) (exP (some (.int (rv ky))) (wX g x l0 t0 p0 ba h0 r0 un ++ wRs g r0 r1 s0 rv rr)) := by
  refine Ct.ofW (by decide) (Nat.le_of_ble_eq_true rfl) ?_
  intro pX eX sX mX aX bX tX cX AX lsX HX oX QX zx zb zr zk zm zo zg zK zP zD zA zS zQ zl
  have zo : sX.vm.findClass R_X = some mX.cls := zo
  have zl : lv_has lsX 2 [(0, .ref x), (1, .int (nI ky))] := zl
  refine lv_iload_n zx zb d_X_restored_0 rfl (lv_at zl 1 rfl) ?_
  refine ct_Sx (ws' := wX g x l0 t0 p0 ba h0 r0 un ++ wRs g r0 r1 s0 rv rr) (rest := []) (st1 := [.int (nI 1)]) zx zb zm zo zg zK zP zD zS zA zl.1 (c_X_isKey_t lL g ky (by omega)) ok_X_isKey os_X_isKey ml_X_59 (by decide) [] [0, 1, 2] 3 (by decide) rfl rfl rfl rfl (by decide) rfl rfl rfl (Nat.le_of_ble_eq_true rfl) d_X_restored_1 (fun HX oX zP zD zS => ?_)
  refine wn_ieq_F (tgt := 19) zx zb d_X_restored_4 (by decide) (by omega) (by omega) ?_
  refine lv_aload_n zx zb d_X_restored_7 rfl (lv_at zl 0 rfl) ?_
  refine wv_get zx zb zg hin_X rfl zo zK zP 0 rfl 5 (by decide) rfl fl_X_40 rfl d_X_restored_8 ?_
  refine wv_get zx zb zg hin_Rs rfl zo zK zP 1 rfl 0 (by decide) rfl fl_X_168 rfl d_X_restored_11 ?_
  refine lv_iload_n zx zb d_X_restored_14 rfl (lv_at zl 1 rfl) ?_
  refine wv_iald zx zb zK zP 2 rfl (by omega) (by decide) d_X_restored_15 ?_
  refine lv_goto (tgt := 20) zx zb d_X_restored_16 (by decide) ?_
  exact ct_iret zQ zx zb zr zk zP zD zS d_X_restored_20 rfl (⟨rfl, rfl⟩)
set_option maxRecDepth 20000 in
theorem c_X_replayed (lL : Launch) (g : Gt) (x : Nat) (l0 : Nat) (t0 : Nat) (p0 : Nat) (ba : Nat) (h0 : Nat) (r0 : Nat) (un : Int32) (r1 : Nat) (s0 : Nat) (rv : Nat → Int32) (rr : Nat)  : Ct lL g y_X_replayed (.code y_X_replayed b_X_replayed 1 (some .int)) 6 200 [.ref x] (wX g x l0 t0 p0 ba h0 r0 un ++ wRs g r0 r1 s0 rv rr) (exP (some (.int (nI rr))) (wX g x l0 t0 p0 ba h0 r0 un ++ wRs g r0 r1 s0 rv rr)) := by
  refine Ct.ofW (by decide) (Nat.le_of_ble_eq_true rfl) ?_
  intro pX eX sX mX aX bX tX cX AX lsX HX oX QX zx zb zr zk zm zo zg zK zP zD zA zS zQ zl
  have zo : sX.vm.findClass R_X = some mX.cls := zo
  have zl : lv_has lsX 1 [(0, .ref x)] := zl
  refine lv_aload_n zx zb d_X_replayed_0 rfl (lv_at zl 0 rfl) ?_
  refine wv_get zx zb zg hin_X rfl zo zK zP 0 rfl 5 (by decide) rfl fl_X_40 rfl d_X_replayed_1 ?_
  refine wv_get zx zb zg hin_Rs rfl zo zK zP 1 rfl 2 (by decide) rfl fl_X_171 rfl d_X_replayed_4 ?_
  exact ct_iret zQ zx zb zr zk zP zD zS d_X_replayed_7 rfl (⟨rfl, rfl⟩)
set_option maxRecDepth 20000 in
theorem c_X_position (lL : Launch) (g : Gt) (x : Nat) (l0 : Nat) (t0 : Nat) (p0 : Nat) (ba : Nat) (h0 : Nat) (r0 : Nat) (un : Int32) (l1 : Nat) (l2 : Nat) (l3 : Nat) (l4 : Nat) (k : Nat → Nat) (o : Nat → Nat) (ke : Nat → Nat) (va : Nat → Int32) (n : Nat) (sy : Nat)  : Ct lL g y_X_position (.code y_X_position b_X_position 1 (some .int)) 6 200 [.ref x] (wX g x l0 t0 p0 ba h0 r0 un ++ wLog g l0 l1 l2 l3 l4 k o ke va n sy) (exP (some (.int (nI n))) (wX g x l0 t0 p0 ba h0 r0 un ++ wLog g l0 l1 l2 l3 l4 k o ke va n sy)) := by
  refine Ct.ofW (by decide) (Nat.le_of_ble_eq_true rfl) ?_
  intro pX eX sX mX aX bX tX cX AX lsX HX oX QX zx zb zr zk zm zo zg zK zP zD zA zS zQ zl
  have zo : sX.vm.findClass R_X = some mX.cls := zo
  have zl : lv_has lsX 1 [(0, .ref x)] := zl
  refine lv_aload_n zx zb d_X_position_0 rfl (lv_at zl 0 rfl) ?_
  refine wv_get zx zb zg hin_X rfl zo zK zP 0 rfl 0 (by decide) rfl fl_X_12 rfl d_X_position_1 ?_
  refine wv_get zx zb zg hin_Log rfl zo zK zP 1 rfl 4 (by decide) rfl fl_X_69 rfl d_X_position_4 ?_
  exact ct_iret zQ zx zb zr zk zP zD zS d_X_position_7 rfl (⟨rfl, rfl⟩)
