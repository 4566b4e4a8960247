/-- does commit c set a key of the four from q on -/
def tiL (k : Nat → Nat) (o : Nat → Int32) (ke : Nat → Nat) (c : Nat) : Nat → Nat → Nat → Nat
  | _, 0, b => b
  | q, r + 1, b => tiL k o ke c (q + 1) r (if b ≠ 0 ∨ (k c = 1 ∧ (sfO k o ke (o c) q c).isSome = true) then 1 else 0)
def wtL (k : Nat → Nat) (o : Nat → Int32) (ke : Nat → Nat) (f p : Nat) : Nat → Nat
  | 0 => 0
  | c + 1 => if c < f then 0 else if tiL k o ke c (4 * p) 4 0 ≠ 0 then c + 1 else wtL k o ke f p c
theorem wtL_le (k : Nat → Nat) (o : Nat → Int32) (ke : Nat → Nat) (f p : Nat) : ∀ c, wtL k o ke f p c ≤ c
  | 0 => Nat.le_refl _
  | c + 1 => by
    have := wtL_le k o ke f p c
    unfold wtL
    split
    · omega
    · split <;> omega
def ffS (n : Nat) : (Nat → Nat) → Nat → Nat → (Nat → Nat)
  | fl, _, 0 => fl
  | fl, q, r + 1 => ffS n (va_up fl q n) (q + 1) r
def ckS (k : Nat → Nat) (o : Nat → Int32) (n : Nat) : Nat → Nat → Nat → Nat
  | _, 0, b => b
  | t, r + 1, b => ckS k o n (t + 1) r (match opO k o (nI t) n none with | some j => if j < b then j else b | none => b)
theorem ckS_le (k : Nat → Nat) (o : Nat → Int32) (n : Nat) : ∀ (r t b : Nat), ckS k o n t r b ≤ b
  | 0, t, b => Nat.le_refl _
  | r + 1, t, b => by
    have := ckS_le k o n r (t + 1) (match opO k o (nI t) n none with | some j => if j < b then j else b | none => b)
    show ckS k o n (t + 1) r (match opO k o (nI t) n none with | some j => if j < b then j else b | none => b) ≤ b
    refine Nat.le_trans this ?_
    split
    · split <;> omega
    · exact Nat.le_refl _
def crS (n : Nat) : (Nat → Nat) → Nat → Nat → (Nat → Nat)
  | fl, _, 0 => fl
  | fl, q, r + 1 => crS n (va_up fl q (if fl q < n then fl q else n)) (q + 1) r
def sgS : (Nat → Nat) → Nat → Nat → (Nat → Nat)
  | sg, _, 0 => sg
  | sg, q, r + 1 => sgS (va_up sg q (if sg q = 1 then 0 else sg q)) (q + 1) r
def hoS (hd : Nat → Nat) : Nat → Nat → Nat
  | _, 0 => 0
  | q, r + 1 => (if hd q ≠ 0 then 1 else 0) + hoS hd (q + 1) r
def dyS (k : Nat → Nat) (o : Nat → Int32) (ke fl : Nat → Nat) (n : Nat) : Nat → Nat → Nat
  | _, 0 => 0
  | q, r + 1 => (if 0 < wtL k o ke (fl q) q n then 1 else 0) + dyS k o ke fl n (q + 1) r
set_option maxRecDepth 20000 in
theorem c_M_tOk_t (lL : Launch) (g : Gt) (t : Nat) (ht : t < 3) : Ct lL g y_M_transactionOk (.code y_M_transactionOk b_M_transactionOk 1 (some .boolean)) 0 0 [.int (nI t)] (([] : va_W)) (exP (some (.int (nI 1))) (([] : va_W))) := by
  refine Ct.ofW (by decide) (Nat.le_of_ble_eq_true rfl) ?_
  intro pX eX sX mX aX bX tX cX AX lsX HX oX QX zx zb zr zk zm zo zg zK zP zD zA zS zQ zl
  have zo : sX.vm.findClass R_M = some mX.cls := zo
  have zl : lv_has lsX 1 [(0, .int (nI t))] := zl
  refine lv_iload_n zx zb d_M_transactionOk_0 rfl (lv_at zl 0 rfl) ?_
  refine wn_ilt_F (tgt := 13) zx zb d_M_transactionOk_1 (by decide) (by omega) (trivial) ?_
  refine lv_iload_n zx zb d_M_transactionOk_4 rfl (lv_at zl 0 rfl) ?_
  refine lv_iconst (v := (nI 2)) zx zb d_M_transactionOk_5 (by decide) ?_
  refine wn_cgt_F (tgt := 13) zx zb d_M_transactionOk_6 (by decide) (by omega) (by omega) (by omega) ?_
  refine lv_iconst (v := (nI 1)) zx zb d_M_transactionOk_9 (by decide) ?_
  refine lv_goto (tgt := 14) zx zb d_M_transactionOk_10 (by decide) ?_
  exact ct_zret zQ zx zb zr zk zP zD zS d_M_transactionOk_14 rfl (by decide) (⟨rfl, rfl⟩)
set_option maxRecDepth 20000 in
theorem c_M_tOk_g (lL : Launch) (g : Gt) (t : Nat) (ht : 3 ≤ t) (ht2 : t < 2147483648) : Ct lL g y_M_transactionOk (.code y_M_transactionOk b_M_transactionOk 1 (some .boolean)) 0 0 [.int (nI t)] (([] : va_W)) (exP (some (.int (nI 0))) (([] : va_W))) := by
  refine Ct.ofW (by decide) (Nat.le_of_ble_eq_true rfl) ?_
  intro pX eX sX mX aX bX tX cX AX lsX HX oX QX zx zb zr zk zm zo zg zK zP zD zA zS zQ zl
  have zo : sX.vm.findClass R_M = some mX.cls := zo
  have zl : lv_has lsX 1 [(0, .int (nI t))] := zl
  refine lv_iload_n zx zb d_M_transactionOk_0 rfl (lv_at zl 0 rfl) ?_
  refine wn_ilt_F (tgt := 13) zx zb d_M_transactionOk_1 (by decide) (by omega) (trivial) ?_
  refine lv_iload_n zx zb d_M_transactionOk_4 rfl (lv_at zl 0 rfl) ?_
  refine lv_iconst (v := (nI 2)) zx zb d_M_transactionOk_5 (by decide) ?_
  refine wn_cgt_T (tgt := 13) zx zb d_M_transactionOk_6 (by decide) (by omega) (by omega) (by omega) ?_
  refine lv_iconst (v := (nI 0)) zx zb d_M_transactionOk_13 (by decide) ?_
  exact ct_zret zQ zx zb zr zk zP zD zS d_M_transactionOk_14 rfl (by decide) (⟨rfl, rfl⟩)
set_option maxRecDepth 20000 in
theorem c_M_tOk_n (lL : Launch) (g : Gt) (t : Int32) (ht : t < 0) : Ct lL g y_M_transactionOk (.code y_M_transactionOk b_M_transactionOk 1 (some .boolean)) 0 0 [.int t] (([] : va_W)) (exP (some (.int (nI 0))) (([] : va_W))) := by
  refine Ct.ofW (by decide) (Nat.le_of_ble_eq_true rfl) ?_
  intro pX eX sX mX aX bX tX cX AX lsX HX oX QX zx zb zr zk zm zo zg zK zP zD zA zS zQ zl
  have zo : sX.vm.findClass R_M = some mX.cls := zo
  have zl : lv_has lsX 1 [(0, .int t)] := zl
  refine lv_iload_n zx zb d_M_transactionOk_0 rfl (lv_at zl 0 rfl) ?_
  refine lv_if_lt (tgt := 13) zx zb d_M_transactionOk_1 (by decide) (fun _ => ?_) (fun h => absurd h (fun h => h ht))
  refine lv_iconst (v := (nI 0)) zx zb d_M_transactionOk_13 (by decide) ?_
  exact ct_zret zQ zx zb zr zk zP zD zS d_M_transactionOk_14 rfl (by decide) (⟨rfl, rfl⟩)
set_option maxRecDepth 20000 in
theorem c_M_set_tn (lL : Launch) (g : Gt) (m0 : Nat) (m1 : Nat) (m2 : Nat) (m3 : Nat) (m4 : Nat) (m5 : Nat) (m6 : Nat) (m7 : Nat) (m8 : Nat) (m9 : Nat) (m10 : Nat) (n : Nat) (sy : Nat) (k : Nat → Nat) (o : Nat → Int32) (ke : Nat → Nat) (va : Nat → Int32) (fl : Nat → Nat) (sg : Nat → Nat) (cp : Nat → Nat) (fs : Nat → Nat) (la : Nat → Nat) (nx : Nat) (hd : Nat → Nat) (dn : Nat) (tg : Nat) (bh : Nat) (t : Int32) (ky : Int32) (vl : Int32) (ht : t < 0) : Ct lL g y_M_set (.code y_M_set b_M_set 4 (some .int)) 6 200 [.ref m0, .int t, .int ky, .int vl] (wM g m0 m1 m2 m3 m4 m5 m6 m7 m8 m9 m10 n sy k o ke va fl sg cp fs la nx hd dn tg bh) (exP (some (.int (-1))) (wM g m0 m1 m2 m3 m4 m5 m6 m7 m8 m9 m10 n sy k o ke va fl sg cp fs la nx hd dn tg bh)) := by
  refine Ct.ofW (by decide) (Nat.le_of_ble_eq_true rfl) ?_
  intro pX eX sX mX aX bX tX cX AX lsX HX oX QX zx zb zr zk zm zo zg zK zP zD zA zS zQ zl
  have zo : sX.vm.findClass R_M = some mX.cls := zo
  have zl : lv_has lsX 4 [(0, .ref m0), (1, .int t), (2, .int ky), (3, .int vl)] := zl
  refine lv_iload_n zx zb d_M_set_0 rfl (lv_at zl 1 rfl) ?_
  refine ct_Sx (ws' := wM g m0 m1 m2 m3 m4 m5 m6 m7 m8 m9 m10 n sy k o ke va fl sg cp fs la nx hd dn tg bh) (rest := []) (st1 := [.int (nI 0)]) zx zb zm zo zg zK zP zD zS zA zl.1 (c_M_tOk_n lL g t ht) ok_M_transactionOk os_M_transactionOk ml_M_53 (by decide) [] [0, 1, 2, 3, 4, 5, 6, 7, 8, 9, 10] 11 (by decide) rfl rfl rfl rfl (by decide) rfl rfl rfl (Nat.le_of_ble_eq_true rfl) d_M_set_1 (fun HX oX zP zD zS => ?_)
  refine wn_ieq_T (tgt := 17) zx zb d_M_set_4 (by decide) (by omega) (by omega) ?_
  refine lv_iconst (v := (-1)) zx zb d_M_set_17 (by decide) ?_
  exact ct_iret zQ zx zb zr zk zP zD zS d_M_set_18 rfl (⟨rfl, rfl⟩)
set_option maxRecDepth 20000 in
theorem c_M_set_tg (lL : Launch) (g : Gt) (m0 : Nat) (m1 : Nat) (m2 : Nat) (m3 : Nat) (m4 : Nat) (m5 : Nat) (m6 : Nat) (m7 : Nat) (m8 : Nat) (m9 : Nat) (m10 : Nat) (n : Nat) (sy : Nat) (k : Nat → Nat) (o : Nat → Int32) (ke : Nat → Nat) (va : Nat → Int32) (fl : Nat → Nat) (sg : Nat → Nat) (cp : Nat → Nat) (fs : Nat → Nat) (la : Nat → Nat) (nx : Nat) (hd : Nat → Nat) (dn : Nat) (tg : Nat) (bh : Nat) (t : Nat) (ky : Int32) (vl : Int32) (ht : 3 ≤ t) (ht2 : t < 2147483648) : Ct lL g y_M_set (.code y_M_set b_M_set 4 (some .int)) 6 200 [.ref m0, .int (nI t), .int ky, .int vl] (wM g m0 m1 m2 m3 m4 m5 m6 m7 m8 m9 m10 n sy k o ke va fl sg cp fs la nx hd dn tg bh) (exP (some (.int (-1))) (wM g m0 m1 m2 m3 m4 m5 m6 m7 m8 m9 m10 n sy k o ke va fl sg cp fs la nx hd dn tg bh)) := by
  refine Ct.ofW (by decide) (Nat.le_of_ble_eq_true rfl) ?_
  intro pX eX sX mX aX bX tX cX AX lsX HX oX QX zx zb zr zk zm zo zg zK zP zD zA zS zQ zl
  have zo : sX.vm.findClass R_M = some mX.cls := zo
  have zl : lv_has lsX 4 [(0, .ref m0), (1, .int (nI t)), (2, .int ky), (3, .int vl)] := zl
  refine lv_iload_n zx zb d_M_set_0 rfl (lv_at zl 1 rfl) ?_
  refine ct_Sx (ws' := wM g m0 m1 m2 m3 m4 m5 m6 m7 m8 m9 m10 n sy k o ke va fl sg cp fs la nx hd dn tg bh) (rest := []) (st1 := [.int (nI 0)]) zx zb zm zo zg zK zP zD zS zA zl.1 (c_M_tOk_g lL g t (by omega) (by omega)) ok_M_transactionOk os_M_transactionOk ml_M_53 (by decide) [] [0, 1, 2, 3, 4, 5, 6, 7, 8, 9, 10] 11 (by decide) rfl rfl rfl rfl (by decide) rfl rfl rfl (Nat.le_of_ble_eq_true rfl) d_M_set_1 (fun HX oX zP zD zS => ?_)
  refine wn_ieq_T (tgt := 17) zx zb d_M_set_4 (by decide) (by omega) (by omega) ?_
  refine lv_iconst (v := (-1)) zx zb d_M_set_17 (by decide) ?_
  exact ct_iret zQ zx zb zr zk zP zD zS d_M_set_18 rfl (⟨rfl, rfl⟩)
set_option maxRecDepth 20000 in
theorem c_M_set_kn (lL : Launch) (g : Gt) (m0 : Nat) (m1 : Nat) (m2 : Nat) (m3 : Nat) (m4 : Nat) (m5 : Nat) (m6 : Nat) (m7 : Nat) (m8 : Nat) (m9 : Nat) (m10 : Nat) (n : Nat) (sy : Nat) (k : Nat → Nat) (o : Nat → Int32) (ke : Nat → Nat) (va : Nat → Int32) (fl : Nat → Nat) (sg : Nat → Nat) (cp : Nat → Nat) (fs : Nat → Nat) (la : Nat → Nat) (nx : Nat) (hd : Nat → Nat) (dn : Nat) (tg : Nat) (bh : Nat) (t : Nat) (ky : Int32) (vl : Int32) (ht : t < 3) (hky : ky < 0) : Ct lL g y_M_set (.code y_M_set b_M_set 4 (some .int)) 6 200 [.ref m0, .int (nI t), .int ky, .int vl] (wM g m0 m1 m2 m3 m4 m5 m6 m7 m8 m9 m10 n sy k o ke va fl sg cp fs la nx hd dn tg bh) (exP (some (.int (-1))) (wM g m0 m1 m2 m3 m4 m5 m6 m7 m8 m9 m10 n sy k o ke va fl sg cp fs la nx hd dn tg bh)) := by
  refine Ct.ofW (by decide) (Nat.le_of_ble_eq_true rfl) ?_
  intro pX eX sX mX aX bX tX cX AX lsX HX oX QX zx zb zr zk zm zo zg zK zP zD zA zS zQ zl
  have zo : sX.vm.findClass R_M = some mX.cls := zo
  have zl : lv_has lsX 4 [(0, .ref m0), (1, .int (nI t)), (2, .int ky), (3, .int vl)] := zl
  refine lv_iload_n zx zb d_M_set_0 rfl (lv_at zl 1 rfl) ?_
  refine ct_Sx (ws' := wM g m0 m1 m2 m3 m4 m5 m6 m7 m8 m9 m10 n sy k o ke va fl sg cp fs la nx hd dn tg bh) (rest := []) (st1 := [.int (nI 1)]) zx zb zm zo zg zK zP zD zS zA zl.1 (c_M_tOk_t lL g t (by omega)) ok_M_transactionOk os_M_transactionOk ml_M_53 (by decide) [] [0, 1, 2, 3, 4, 5, 6, 7, 8, 9, 10] 11 (by decide) rfl rfl rfl rfl (by decide) rfl rfl rfl (Nat.le_of_ble_eq_true rfl) d_M_set_1 (fun HX oX zP zD zS => ?_)
  refine wn_ieq_F (tgt := 17) zx zb d_M_set_4 (by decide) (by omega) (by omega) ?_
  refine lv_iload_n zx zb d_M_set_7 rfl (lv_at zl 2 rfl) ?_
  refine lv_if_lt (tgt := 17) zx zb d_M_set_8 (by decide) (fun _ => ?_) (fun h => absurd h (fun h => h hky))
  refine lv_iconst (v := (-1)) zx zb d_M_set_17 (by decide) ?_
  exact ct_iret zQ zx zb zr zk zP zD zS d_M_set_18 rfl (⟨rfl, rfl⟩)
set_option maxRecDepth 20000 in
theorem c_M_set_kg (lL : Launch) (g : Gt) (m0 : Nat) (m1 : Nat) (m2 : Nat) (m3 : Nat) (m4 : Nat) (m5 : Nat) (m6 : Nat) (m7 : Nat) (m8 : Nat) (m9 : Nat) (m10 : Nat) (n : Nat) (sy : Nat) (k : Nat → Nat) (o : Nat → Int32) (ke : Nat → Nat) (va : Nat → Int32) (fl : Nat → Nat) (sg : Nat → Nat) (cp : Nat → Nat) (fs : Nat → Nat) (la : Nat → Nat) (nx : Nat) (hd : Nat → Nat) (dn : Nat) (tg : Nat) (bh : Nat) (t : Nat) (ky : Nat) (vl : Int32) (ht : t < 3) (hky : 32 ≤ ky) (hky2 : ky < 2147483648) : Ct lL g y_M_set (.code y_M_set b_M_set 4 (some .int)) 6 200 [.ref m0, .int (nI t), .int (nI ky), .int vl] (wM g m0 m1 m2 m3 m4 m5 m6 m7 m8 m9 m10 n sy k o ke va fl sg cp fs la nx hd dn tg bh) (exP (some (.int (-1))) (wM g m0 m1 m2 m3 m4 m5 m6 m7 m8 m9 m10 n sy k o ke va fl sg cp fs la nx hd dn tg bh)) := by
  refine Ct.ofW (by decide) (Nat.le_of_ble_eq_true rfl) ?_
  intro pX eX sX mX aX bX tX cX AX lsX HX oX QX zx zb zr zk zm zo zg zK zP zD zA zS zQ zl
  have zo : sX.vm.findClass R_M = some mX.cls := zo
  have zl : lv_has lsX 4 [(0, .ref m0), (1, .int (nI t)), (2, .int (nI ky)), (3, .int vl)] := zl
  refine lv_iload_n zx zb d_M_set_0 rfl (lv_at zl 1 rfl) ?_
  refine ct_Sx (ws' := wM g m0 m1 m2 m3 m4 m5 m6 m7 m8 m9 m10 n sy k o ke va fl sg cp fs la nx hd dn tg bh) (rest := []) (st1 := [.int (nI 1)]) zx zb zm zo zg zK zP zD zS zA zl.1 (c_M_tOk_t lL g t (by omega)) ok_M_transactionOk os_M_transactionOk ml_M_53 (by decide) [] [0, 1, 2, 3, 4, 5, 6, 7, 8, 9, 10] 11 (by decide) rfl rfl rfl rfl (by decide) rfl rfl rfl (Nat.le_of_ble_eq_true rfl) d_M_set_1 (fun HX oX zP zD zS => ?_)
  refine wn_ieq_F (tgt := 17) zx zb d_M_set_4 (by decide) (by omega) (by omega) ?_
  refine lv_iload_n zx zb d_M_set_7 rfl (lv_at zl 2 rfl) ?_
  refine wn_ilt_F (tgt := 17) zx zb d_M_set_8 (by decide) (by omega) (trivial) ?_
  refine lv_iload_n zx zb d_M_set_11 rfl (lv_at zl 2 rfl) ?_
  refine lv_bipush (v := (nI 31)) zx zb d_M_set_12 (by decide) ?_
  refine wn_cle_F (tgt := 19) zx zb d_M_set_14 (by decide) (by omega) (by omega) (by omega) ?_
  refine lv_iconst (v := (-1)) zx zb d_M_set_17 (by decide) ?_
  exact ct_iret zQ zx zb zr zk zP zD zS d_M_set_18 rfl (⟨rfl, rfl⟩)
set_option maxRecDepth 20000 in
theorem c_M_set_full (lL : Launch) (g : Gt) (m0 : Nat) (m1 : Nat) (m2 : Nat) (m3 : Nat) (m4 : Nat) (m5 : Nat) (m6 : Nat) (m7 : Nat) (m8 : Nat) (m9 : Nat) (m10 : Nat) (n : Nat) (sy : Nat) (k : Nat → Nat) (o : Nat → Int32) (ke : Nat → Nat) (va : Nat → Int32) (fl : Nat → Nat) (sg : Nat → Nat) (cp : Nat → Nat) (fs : Nat → Nat) (la : Nat → Nat) (nx : Nat) (hd : Nat → Nat) (dn : Nat) (tg : Nat) (bh : Nat) (t : Nat) (ky : Nat) (vl : Int32) (ht : t < 3) (hky : ky < 32) (hn5 : n < 520) (hk4 : ∀ i, i < n → k i < 4) (hse : seL k o (nI t) n 0 = 4) : Ct lL g y_M_set (.code y_M_set b_M_set 4 (some .int)) 6 200 [.ref m0, .int (nI t), .int (nI ky), .int vl] (wM g m0 m1 m2 m3 m4 m5 m6 m7 m8 m9 m10 n sy k o ke va fl sg cp fs la nx hd dn tg bh) (exP (some (.int (-2))) (wM g m0 m1 m2 m3 m4 m5 m6 m7 m8 m9 m10 n sy k o ke va fl sg cp fs la nx hd dn tg bh)) := by
  refine Ct.ofW (by decide) (Nat.le_of_ble_eq_true rfl) ?_
  intro pX eX sX mX aX bX tX cX AX lsX HX oX QX zx zb zr zk zm zo zg zK zP zD zA zS zQ zl
  have zo : sX.vm.findClass R_M = some mX.cls := zo
  have zl : lv_has lsX 4 [(0, .ref m0), (1, .int (nI t)), (2, .int (nI ky)), (3, .int vl)] := zl
  refine lv_iload_n zx zb d_M_set_0 rfl (lv_at zl 1 rfl) ?_
  refine ct_Sx (ws' := wM g m0 m1 m2 m3 m4 m5 m6 m7 m8 m9 m10 n sy k o ke va fl sg cp fs la nx hd dn tg bh) (rest := []) (st1 := [.int (nI 1)]) zx zb zm zo zg zK zP zD zS zA zl.1 (c_M_tOk_t lL g t (by omega)) ok_M_transactionOk os_M_transactionOk ml_M_53 (by decide) [] [0, 1, 2, 3, 4, 5, 6, 7, 8, 9, 10] 11 (by decide) rfl rfl rfl rfl (by decide) rfl rfl rfl (Nat.le_of_ble_eq_true rfl) d_M_set_1 (fun HX oX zP zD zS => ?_)
  refine wn_ieq_F (tgt := 17) zx zb d_M_set_4 (by decide) (by omega) (by omega) ?_
  refine lv_iload_n zx zb d_M_set_7 rfl (lv_at zl 2 rfl) ?_
  refine wn_ilt_F (tgt := 17) zx zb d_M_set_8 (by decide) (by omega) (trivial) ?_
  refine lv_iload_n zx zb d_M_set_11 rfl (lv_at zl 2 rfl) ?_
  refine lv_bipush (v := (nI 31)) zx zb d_M_set_12 (by decide) ?_
  refine wn_cle_T (tgt := 19) zx zb d_M_set_14 (by decide) (by omega) (by omega) (by omega) ?_
  refine lv_aload_n zx zb d_M_set_19 rfl (lv_at zl 0 rfl) ?_
  refine lv_iload_n zx zb d_M_set_20 rfl (lv_at zl 1 rfl) ?_
  refine ct_V (ws' := wM g m0 m1 m2 m3 m4 m5 m6 m7 m8 m9 m10 n sy k o ke va fl sg cp fs la nx hd dn tg bh) (rest := []) (st1 := [.int (nI (seL k o (nI t) n 0))]) zx zb zm zo zg zK zP zD zS zA zl.1 (c_M_sets lL g m0 m1 m2 m3 m4 m5 m6 m7 m8 m9 m10 n sy k o ke va fl sg cp fs la nx hd dn tg bh (nI t) (by omega) hk4) ok_M_sets ov_M_sets ml_M_57 (by decide) 0 7 rfl rfl rfl [0, 1, 2, 3, 4, 5, 6, 7, 8, 9, 10] [] 11 (by decide) rfl rfl rfl rfl (by decide) rfl rfl rfl (Nat.le_of_ble_eq_true rfl) d_M_set_21 (fun HX oX zP zD zS => ?_)
  refine lv_iconst (v := (nI 4)) zx zb d_M_set_24 (by decide) ?_
  refine wn_cne_F (tgt := 31) zx zb d_M_set_25 (by decide) (by omega) (by omega) (by omega) ?_
  refine lv_bipush (v := (-2)) zx zb d_M_set_28 (by decide) ?_
  exact ct_iret zQ zx zb zr zk zP zD zS d_M_set_30 rfl (⟨rfl, rfl⟩)
set_option maxRecDepth 20000 in
theorem c_M_set_ok (lL : Launch) (g : Gt) (m0 : Nat) (m1 : Nat) (m2 : Nat) (m3 : Nat) (m4 : Nat) (m5 : Nat) (m6 : Nat) (m7 : Nat) (m8 : Nat) (m9 : Nat) (m10 : Nat) (n : Nat) (sy : Nat) (k : Nat → Nat) (o : Nat → Int32) (ke : Nat → Nat) (va : Nat → Int32) (fl : Nat → Nat) (sg : Nat → Nat) (cp : Nat → Nat) (fs : Nat → Nat) (la : Nat → Nat) (nx : Nat) (hd : Nat → Nat) (dn : Nat) (tg : Nat) (bh : Nat) (t : Nat) (ky : Nat) (vl : Int32) (ht : t < 3) (hky : ky < 32) (hn5 : n < 520) (hk4 : ∀ i, i < n → k i < 4) (hse : seL k o (nI t) n 0 < 4) : Ct lL g y_M_set (.code y_M_set b_M_set 4 (some .int)) 6 200 [.ref m0, .int (nI t), .int (nI ky), .int vl] (wM g m0 m1 m2 m3 m4 m5 m6 m7 m8 m9 m10 n sy k o ke va fl sg cp fs la nx hd dn tg bh) (exP (some (.int (nI (n + 1)))) (wM g m0 m1 m2 m3 m4 m5 m6 m7 m8 m9 m10 (n + 1) sy (va_up k n 0) (upd o n (nI t)) (va_up ke n ky) (upd va n vl) fl sg cp fs la nx hd dn tg bh)) := by
  refine Ct.ofW (by decide) (Nat.le_of_ble_eq_true rfl) ?_
  intro pX eX sX mX aX bX tX cX AX lsX HX oX QX zx zb zr zk zm zo zg zK zP zD zA zS zQ zl
  have zo : sX.vm.findClass R_M = some mX.cls := zo
  have zl : lv_has lsX 4 [(0, .ref m0), (1, .int (nI t)), (2, .int (nI ky)), (3, .int vl)] := zl
  refine lv_iload_n zx zb d_M_set_0 rfl (lv_at zl 1 rfl) ?_
  refine ct_Sx (ws' := wM g m0 m1 m2 m3 m4 m5 m6 m7 m8 m9 m10 n sy k o ke va fl sg cp fs la nx hd dn tg bh) (rest := []) (st1 := [.int (nI 1)]) zx zb zm zo zg zK zP zD zS zA zl.1 (c_M_tOk_t lL g t (by omega)) ok_M_transactionOk os_M_transactionOk ml_M_53 (by decide) [] [0, 1, 2, 3, 4, 5, 6, 7, 8, 9, 10] 11 (by decide) rfl rfl rfl rfl (by decide) rfl rfl rfl (Nat.le_of_ble_eq_true rfl) d_M_set_1 (fun HX oX zP zD zS => ?_)
  refine wn_ieq_F (tgt := 17) zx zb d_M_set_4 (by decide) (by omega) (by omega) ?_
  refine lv_iload_n zx zb d_M_set_7 rfl (lv_at zl 2 rfl) ?_
  refine wn_ilt_F (tgt := 17) zx zb d_M_set_8 (by decide) (by omega) (trivial) ?_
  refine lv_iload_n zx zb d_M_set_11 rfl (lv_at zl 2 rfl) ?_
  refine lv_bipush (v := (nI 31)) zx zb d_M_set_12 (by decide) ?_
  refine wn_cle_T (tgt := 19) zx zb d_M_set_14 (by decide) (by omega) (by omega) (by omega) ?_
  refine lv_aload_n zx zb d_M_set_19 rfl (lv_at zl 0 rfl) ?_
  refine lv_iload_n zx zb d_M_set_20 rfl (lv_at zl 1 rfl) ?_
  refine ct_V (ws' := wM g m0 m1 m2 m3 m4 m5 m6 m7 m8 m9 m10 n sy k o ke va fl sg cp fs la nx hd dn tg bh) (rest := []) (st1 := [.int (nI (seL k o (nI t) n 0))]) zx zb zm zo zg zK zP zD zS zA zl.1 (c_M_sets lL g m0 m1 m2 m3 m4 m5 m6 m7 m8 m9 m10 n sy k o ke va fl sg cp fs la nx hd dn tg bh (nI t) (by omega) hk4) ok_M_sets ov_M_sets ml_M_57 (by decide) 0 7 rfl rfl rfl [0, 1, 2, 3, 4, 5, 6, 7, 8, 9, 10] [] 11 (by decide) rfl rfl rfl rfl (by decide) rfl rfl rfl (Nat.le_of_ble_eq_true rfl) d_M_set_21 (fun HX oX zP zD zS => ?_)
  refine lv_iconst (v := (nI 4)) zx zb d_M_set_24 (by decide) ?_
  refine wn_cne_T (tgt := 31) zx zb d_M_set_25 (by decide) (by omega) (by omega) (by omega) ?_
  refine lv_aload_n zx zb d_M_set_31 rfl (lv_at zl 0 rfl) ?_
  refine lv_iconst (v := (nI 0)) zx zb d_M_set_32 (by decide) ?_
  refine lv_iload_n zx zb d_M_set_33 rfl (lv_at zl 1 rfl) ?_
  refine lv_iload_n zx zb d_M_set_34 rfl (lv_at zl 2 rfl) ?_
  refine lv_iload_n zx zb d_M_set_35 rfl (lv_at zl 3 rfl) ?_
  refine ct_V (ws' := wM g m0 m1 m2 m3 m4 m5 m6 m7 m8 m9 m10 (n + 1) sy (va_up k n 0) (upd o n (nI t)) (va_up ke n ky) (upd va n vl) fl sg cp fs la nx hd dn tg bh) (rest := []) (st1 := [.int (nI (n + 1))]) zx zb zm zo zg zK zP zD zS zA zl.1 (c_M_add lL g m0 m1 m2 m3 m4 m5 m6 m7 m8 m9 m10 n sy k o ke va fl sg cp fs la nx hd dn tg bh 0 (nI t) ky vl (by omega)) ok_M_add ov_M_add ml_M_61 (by decide) 0 7 rfl rfl rfl [0, 1, 2, 3, 4, 5, 6, 7, 8, 9, 10] [] 11 (by decide) rfl rfl rfl rfl (by decide) rfl rfl rfl (Nat.le_of_ble_eq_true rfl) d_M_set_36 (fun HX oX zP zD zS => ?_)
  exact ct_iret zQ zx zb zr zk zP zD zS d_M_set_39 rfl (⟨rfl, rfl⟩)
set_option maxRecDepth 20000 in
theorem c_M_end_n (lL : Launch) (g : Gt) (m0 : Nat) (m1 : Nat) (m2 : Nat) (m3 : Nat) (m4 : Nat) (m5 : Nat) (m6 : Nat) (m7 : Nat) (m8 : Nat) (m9 : Nat) (m10 : Nat) (n : Nat) (sy : Nat) (k : Nat → Nat) (o : Nat → Int32) (ke : Nat → Nat) (va : Nat → Int32) (fl : Nat → Nat) (sg : Nat → Nat) (cp : Nat → Nat) (fs : Nat → Nat) (la : Nat → Nat) (nx : Nat) (hd : Nat → Nat) (dn : Nat) (tg : Nat) (bh : Nat) (t : Int32) (hw : Nat) (ht : t < 0) : Ct lL g y_M_end (.code y_M_end b_M_end 3 (some .int)) 1 20 [.ref m0, .int t, .int (nI hw)] (wM g m0 m1 m2 m3 m4 m5 m6 m7 m8 m9 m10 n sy k o ke va fl sg cp fs la nx hd dn tg bh) (exP (some (.int (-1))) (wM g m0 m1 m2 m3 m4 m5 m6 m7 m8 m9 m10 n sy k o ke va fl sg cp fs la nx hd dn tg bh)) := by
  refine Ct.ofW (by decide) (Nat.le_of_ble_eq_true rfl) ?_
  intro pX eX sX mX aX bX tX cX AX lsX HX oX QX zx zb zr zk zm zo zg zK zP zD zA zS zQ zl
  have zo : sX.vm.findClass R_M = some mX.cls := zo
  have zl : lv_has lsX 3 [(0, .ref m0), (1, .int t), (2, .int (nI hw))] := zl
  refine lv_iload_n zx zb d_M_end_0 rfl (lv_at zl 1 rfl) ?_
  refine ct_Sx (ws' := wM g m0 m1 m2 m3 m4 m5 m6 m7 m8 m9 m10 n sy k o ke va fl sg cp fs la nx hd dn tg bh) (rest := []) (st1 := [.int (nI 0)]) zx zb zm zo zg zK zP zD zS zA zl.1 (c_M_tOk_n lL g t ht) ok_M_transactionOk os_M_transactionOk ml_M_53 (by decide) [] [0, 1, 2, 3, 4, 5, 6, 7, 8, 9, 10] 11 (by decide) rfl rfl rfl rfl (by decide) rfl rfl rfl (Nat.le_of_ble_eq_true rfl) d_M_end_1 (fun HX oX zP zD zS => ?_)
  refine wn_ine_F (tgt := 9) zx zb d_M_end_4 (by decide) (by omega) (by omega) ?_
  refine lv_iconst (v := (-1)) zx zb d_M_end_7 (by decide) ?_
  exact ct_iret zQ zx zb zr zk zP zD zS d_M_end_8 rfl (⟨rfl, rfl⟩)
set_option maxRecDepth 20000 in
theorem c_M_end_g (lL : Launch) (g : Gt) (m0 : Nat) (m1 : Nat) (m2 : Nat) (m3 : Nat) (m4 : Nat) (m5 : Nat) (m6 : Nat) (m7 : Nat) (m8 : Nat) (m9 : Nat) (m10 : Nat) (n : Nat) (sy : Nat) (k : Nat → Nat) (o : Nat → Int32) (ke : Nat → Nat) (va : Nat → Int32) (fl : Nat → Nat) (sg : Nat → Nat) (cp : Nat → Nat) (fs : Nat → Nat) (la : Nat → Nat) (nx : Nat) (hd : Nat → Nat) (dn : Nat) (tg : Nat) (bh : Nat) (t : Nat) (hw : Nat) (ht : 3 ≤ t) (ht2 : t < 2147483648) : Ct lL g y_M_end (.code y_M_end b_M_end 3 (some .int)) 1 20 [.ref m0, .int (nI t), .int (nI hw)] (wM g m0 m1 m2 m3 m4 m5 m6 m7 m8 m9 m10 n sy k o ke va fl sg cp fs la nx hd dn tg bh) (exP (some (.int (-1))) (wM g m0 m1 m2 m3 m4 m5 m6 m7 m8 m9 m10 n sy k o ke va fl sg cp fs la nx hd dn tg bh)) := by
  refine Ct.ofW (by decide) (Nat.le_of_ble_eq_true rfl) ?_
  intro pX eX sX mX aX bX tX cX AX lsX HX oX QX zx zb zr zk zm zo zg zK zP zD zA zS zQ zl
  have zo : sX.vm.findClass R_M = some mX.cls := zo
  have zl : lv_has lsX 3 [(0, .ref m0), (1, .int (nI t)), (2, .int (nI hw))] := zl
  refine lv_iload_n zx zb d_M_end_0 rfl (lv_at zl 1 rfl) ?_
  refine ct_Sx (ws' := wM g m0 m1 m2 m3 m4 m5 m6 m7 m8 m9 m10 n sy k o ke va fl sg cp fs la nx hd dn tg bh) (rest := []) (st1 := [.int (nI 0)]) zx zb zm zo zg zK zP zD zS zA zl.1 (c_M_tOk_g lL g t (by omega) (by omega)) ok_M_transactionOk os_M_transactionOk ml_M_53 (by decide) [] [0, 1, 2, 3, 4, 5, 6, 7, 8, 9, 10] 11 (by decide) rfl rfl rfl rfl (by decide) rfl rfl rfl (Nat.le_of_ble_eq_true rfl) d_M_end_1 (fun HX oX zP zD zS => ?_)
  refine wn_ine_F (tgt := 9) zx zb d_M_end_4 (by decide) (by omega) (by omega) ?_
  refine lv_iconst (v := (-1)) zx zb d_M_end_7 (by decide) ?_
  exact ct_iret zQ zx zb zr zk zP zD zS d_M_end_8 rfl (⟨rfl, rfl⟩)
set_option maxRecDepth 20000 in
theorem c_M_end_c (lL : Launch) (g : Gt) (m0 : Nat) (m1 : Nat) (m2 : Nat) (m3 : Nat) (m4 : Nat) (m5 : Nat) (m6 : Nat) (m7 : Nat) (m8 : Nat) (m9 : Nat) (m10 : Nat) (n : Nat) (sy : Nat) (k : Nat → Nat) (o : Nat → Int32) (ke : Nat → Nat) (va : Nat → Int32) (fl : Nat → Nat) (sg : Nat → Nat) (cp : Nat → Nat) (fs : Nat → Nat) (la : Nat → Nat) (nx : Nat) (hd : Nat → Nat) (dn : Nat) (tg : Nat) (bh : Nat) (t : Nat) (hw : Nat) (ht : t < 3) (hn5 : n < 520) (hk4 : ∀ i, i < n → k i < 4) (hop : opO k o (nI t) n none = none) : Ct lL g y_M_end (.code y_M_end b_M_end 3 (some .int)) 2 46 [.ref m0, .int (nI t), .int (nI hw)] (wM g m0 m1 m2 m3 m4 m5 m6 m7 m8 m9 m10 n sy k o ke va fl sg cp fs la nx hd dn tg bh) (exP (some (.int (-3))) (wM g m0 m1 m2 m3 m4 m5 m6 m7 m8 m9 m10 n sy k o ke va fl sg cp fs la nx hd dn tg bh)) := by
  refine Ct.ofW (by decide) (Nat.le_of_ble_eq_true rfl) ?_
  intro pX eX sX mX aX bX tX cX AX lsX HX oX QX zx zb zr zk zm zo zg zK zP zD zA zS zQ zl
  have zo : sX.vm.findClass R_M = some mX.cls := zo
  have zl : lv_has lsX 3 [(0, .ref m0), (1, .int (nI t)), (2, .int (nI hw))] := zl
  refine lv_iload_n zx zb d_M_end_0 rfl (lv_at zl 1 rfl) ?_
  refine ct_Sx (ws' := wM g m0 m1 m2 m3 m4 m5 m6 m7 m8 m9 m10 n sy k o ke va fl sg cp fs la nx hd dn tg bh) (rest := []) (st1 := [.int (nI 1)]) zx zb zm zo zg zK zP zD zS zA zl.1 (c_M_tOk_t lL g t (by omega)) ok_M_transactionOk os_M_transactionOk ml_M_53 (by decide) [] [0, 1, 2, 3, 4, 5, 6, 7, 8, 9, 10] 11 (by decide) rfl rfl rfl rfl (by decide) rfl rfl rfl (Nat.le_of_ble_eq_true rfl) d_M_end_1 (fun HX oX zP zD zS => ?_)
  refine wn_ine_T (tgt := 9) zx zb d_M_end_4 (by decide) (by omega) (by omega) ?_
  refine lv_aload_n zx zb d_M_end_9 rfl (lv_at zl 0 rfl) ?_
  refine lv_iload_n zx zb d_M_end_10 rfl (lv_at zl 1 rfl) ?_
  refine lv_aload_n zx zb d_M_end_11 rfl (lv_at zl 0 rfl) ?_
  refine wv_get zx zb zg hin_M rfl zo zK zP 0 rfl 0 (by decide) rfl fl_M_41 rfl d_M_end_12 ?_
  refine ct_V (ws' := wM g m0 m1 m2 m3 m4 m5 m6 m7 m8 m9 m10 n sy k o ke va fl sg cp fs la nx hd dn tg bh) (rest := []) (st1 := [.int (-1)]) zx zb zm zo zg zK zP zD zS zA zl.1 (c_M_opened_n lL g m0 m1 m2 m3 m4 m5 m6 m7 m8 m9 m10 n sy k o ke va fl sg cp fs la nx hd dn tg bh (nI t) n (by omega) hk4 hop) ok_M_opened ov_M_opened ml_M_65 (by decide) 0 7 rfl rfl rfl [0, 1, 2, 3, 4, 5, 6, 7, 8, 9, 10] [] 11 (by decide) rfl rfl rfl rfl (by decide) rfl rfl rfl (Nat.le_of_ble_eq_true rfl) d_M_end_15 (fun HX oX zP zD zS => ?_)
  refine lv_if_ge (tgt := 24) zx zb d_M_end_18 (by decide) (fun h => absurd h (by decide)) (fun _ => ?_)
  refine lv_bipush (v := (-3)) zx zb d_M_end_21 (by decide) ?_
  exact ct_iret zQ zx zb zr zk zP zD zS d_M_end_23 rfl (⟨rfl, rfl⟩)
set_option maxRecDepth 20000 in
theorem c_M_end_o (lL : Launch) (g : Gt) (m0 : Nat) (m1 : Nat) (m2 : Nat) (m3 : Nat) (m4 : Nat) (m5 : Nat) (m6 : Nat) (m7 : Nat) (m8 : Nat) (m9 : Nat) (m10 : Nat) (n : Nat) (sy : Nat) (k : Nat → Nat) (o : Nat → Int32) (ke : Nat → Nat) (va : Nat → Int32) (fl : Nat → Nat) (sg : Nat → Nat) (cp : Nat → Nat) (fs : Nat → Nat) (la : Nat → Nat) (nx : Nat) (hd : Nat → Nat) (dn : Nat) (tg : Nat) (bh : Nat) (t : Nat) (hw : Nat) (j : Nat) (ht : t < 3) (hn5 : n < 520) (hk4 : ∀ i, i < n → k i < 4) (hop : opO k o (nI t) n none = some j) (hj5 : j < 520) : Ct lL g y_M_end (.code y_M_end b_M_end 3 (some .int)) 2 46 [.ref m0, .int (nI t), .int (nI hw)] (wM g m0 m1 m2 m3 m4 m5 m6 m7 m8 m9 m10 n sy k o ke va fl sg cp fs la nx hd dn tg bh) (exP (some (.int (nI (n + 1)))) (wM g m0 m1 m2 m3 m4 m5 m6 m7 m8 m9 m10 (n + 1) sy (va_up k n hw) (upd o n (nI t)) (va_up ke n 0) (upd va n (nI 0)) fl sg cp fs la nx hd dn tg bh)) := by
  refine Ct.ofW (by decide) (Nat.le_of_ble_eq_true rfl) ?_
  intro pX eX sX mX aX bX tX cX AX lsX HX oX QX zx zb zr zk zm zo zg zK zP zD zA zS zQ zl
  have zo : sX.vm.findClass R_M = some mX.cls := zo
  have zl : lv_has lsX 3 [(0, .ref m0), (1, .int (nI t)), (2, .int (nI hw))] := zl
  refine lv_iload_n zx zb d_M_end_0 rfl (lv_at zl 1 rfl) ?_
  refine ct_Sx (ws' := wM g m0 m1 m2 m3 m4 m5 m6 m7 m8 m9 m10 n sy k o ke va fl sg cp fs la nx hd dn tg bh) (rest := []) (st1 := [.int (nI 1)]) zx zb zm zo zg zK zP zD zS zA zl.1 (c_M_tOk_t lL g t (by omega)) ok_M_transactionOk os_M_transactionOk ml_M_53 (by decide) [] [0, 1, 2, 3, 4, 5, 6, 7, 8, 9, 10] 11 (by decide) rfl rfl rfl rfl (by decide) rfl rfl rfl (Nat.le_of_ble_eq_true rfl) d_M_end_1 (fun HX oX zP zD zS => ?_)
  refine wn_ine_T (tgt := 9) zx zb d_M_end_4 (by decide) (by omega) (by omega) ?_
  refine lv_aload_n zx zb d_M_end_9 rfl (lv_at zl 0 rfl) ?_
  refine lv_iload_n zx zb d_M_end_10 rfl (lv_at zl 1 rfl) ?_
  refine lv_aload_n zx zb d_M_end_11 rfl (lv_at zl 0 rfl) ?_
  refine wv_get zx zb zg hin_M rfl zo zK zP 0 rfl 0 (by decide) rfl fl_M_41 rfl d_M_end_12 ?_
  refine ct_V (ws' := wM g m0 m1 m2 m3 m4 m5 m6 m7 m8 m9 m10 n sy k o ke va fl sg cp fs la nx hd dn tg bh) (rest := []) (st1 := [.int (nI j)]) zx zb zm zo zg zK zP zD zS zA zl.1 (c_M_opened_s lL g m0 m1 m2 m3 m4 m5 m6 m7 m8 m9 m10 n sy k o ke va fl sg cp fs la nx hd dn tg bh (nI t) n j (by omega) hk4 hop) ok_M_opened ov_M_opened ml_M_65 (by decide) 0 7 rfl rfl rfl [0, 1, 2, 3, 4, 5, 6, 7, 8, 9, 10] [] 11 (by decide) rfl rfl rfl rfl (by decide) rfl rfl rfl (Nat.le_of_ble_eq_true rfl) d_M_end_15 (fun HX oX zP zD zS => ?_)
  refine wn_ige_T (tgt := 24) zx zb d_M_end_18 (by decide) (by omega) (trivial) ?_
  refine lv_aload_n zx zb d_M_end_24 rfl (lv_at zl 0 rfl) ?_
  refine lv_iload_n zx zb d_M_end_25 rfl (lv_at zl 2 rfl) ?_
  refine lv_iload_n zx zb d_M_end_26 rfl (lv_at zl 1 rfl) ?_
  refine lv_iconst (v := (nI 0)) zx zb d_M_end_27 (by decide) ?_
  refine lv_iconst (v := (nI 0)) zx zb d_M_end_28 (by decide) ?_
  refine ct_V (ws' := wM g m0 m1 m2 m3 m4 m5 m6 m7 m8 m9 m10 (n + 1) sy (va_up k n hw) (upd o n (nI t)) (va_up ke n 0) (upd va n (nI 0)) fl sg cp fs la nx hd dn tg bh) (rest := []) (st1 := [.int (nI (n + 1))]) zx zb zm zo zg zK zP zD zS zA zl.1 (c_M_add lL g m0 m1 m2 m3 m4 m5 m6 m7 m8 m9 m10 n sy k o ke va fl sg cp fs la nx hd dn tg bh hw (nI t) 0 (nI 0) (by omega)) ok_M_add ov_M_add ml_M_61 (by decide) 0 7 rfl rfl rfl [0, 1, 2, 3, 4, 5, 6, 7, 8, 9, 10] [] 11 (by decide) rfl rfl rfl rfl (by decide) rfl rfl rfl (Nat.le_of_ble_eq_true rfl) d_M_end_29 (fun HX oX zP zD zS => ?_)
  exact ct_iret zQ zx zb zr zk zP zD zS d_M_end_32 rfl (⟨rfl, rfl⟩)
set_option maxRecDepth 20000 in
theorem c_M_commit_n (lL : Launch) (g : Gt) (m0 : Nat) (m1 : Nat) (m2 : Nat) (m3 : Nat) (m4 : Nat) (m5 : Nat) (m6 : Nat) (m7 : Nat) (m8 : Nat) (m9 : Nat) (m10 : Nat) (n : Nat) (sy : Nat) (k : Nat → Nat) (o : Nat → Int32) (ke : Nat → Nat) (va : Nat → Int32) (fl : Nat → Nat) (sg : Nat → Nat) (cp : Nat → Nat) (fs : Nat → Nat) (la : Nat → Nat) (nx : Nat) (hd : Nat → Nat) (dn : Nat) (tg : Nat) (bh : Nat) (t : Int32) (ht : t < 0) : Ct lL g y_M_commit (.code y_M_commit b_M_commit 2 (some .int)) 6 200 [.ref m0, .int t] (wM g m0 m1 m2 m3 m4 m5 m6 m7 m8 m9 m10 n sy k o ke va fl sg cp fs la nx hd dn tg bh) (exP (some (.int (-1))) (wM g m0 m1 m2 m3 m4 m5 m6 m7 m8 m9 m10 n sy k o ke va fl sg cp fs la nx hd dn tg bh)) := by
  refine Ct.ofW (by decide) (Nat.le_of_ble_eq_true rfl) ?_
  intro pX eX sX mX aX bX tX cX AX lsX HX oX QX zx zb zr zk zm zo zg zK zP zD zA zS zQ zl
  have zo : sX.vm.findClass R_M = some mX.cls := zo
  have zl : lv_has lsX 2 [(0, .ref m0), (1, .int t)] := zl
  refine lv_aload_n zx zb d_M_commit_0 rfl (lv_at zl 0 rfl) ?_
  refine lv_iload_n zx zb d_M_commit_1 rfl (lv_at zl 1 rfl) ?_
  refine lv_iconst (v := (nI 1)) zx zb d_M_commit_2 (by decide) ?_
  refine ct_V (ws' := wM g m0 m1 m2 m3 m4 m5 m6 m7 m8 m9 m10 n sy k o ke va fl sg cp fs la nx hd dn tg bh) (rest := []) (st1 := [.int (-1)]) zx zb zm zo zg zK zP zD zS zA zl.1 (c_M_end_n lL g m0 m1 m2 m3 m4 m5 m6 m7 m8 m9 m10 n sy k o ke va fl sg cp fs la nx hd dn tg bh t 1 ht) ok_M_end ov_M_end ml_M_68 (by decide) 0 7 rfl rfl rfl [0, 1, 2, 3, 4, 5, 6, 7, 8, 9, 10] [] 11 (by decide) rfl rfl rfl rfl (by decide) rfl rfl rfl (Nat.le_of_ble_eq_true rfl) d_M_commit_3 (fun HX oX zP zD zS => ?_)
  exact ct_iret zQ zx zb zr zk zP zD zS d_M_commit_6 rfl (⟨rfl, rfl⟩)
set_option maxRecDepth 20000 in
theorem c_M_commit_g (lL : Launch) (g : Gt) (m0 : Nat) (m1 : Nat) (m2 : Nat) (m3 : Nat) (m4 : Nat) (m5 : Nat) (m6 : Nat) (m7 : Nat) (m8 : Nat) (m9 : Nat) (m10 : Nat) (n : Nat) (sy : Nat) (k : Nat → Nat) (o : Nat → Int32) (ke : Nat → Nat) (va : Nat → Int32) (fl : Nat → Nat) (sg : Nat → Nat) (cp : Nat → Nat) (fs : Nat → Nat) (la : Nat → Nat) (nx : Nat) (hd : Nat → Nat) (dn : Nat) (tg : Nat) (bh : Nat) (t : Nat) (ht : 3 ≤ t) (ht2 : t < 2147483648) : Ct lL g y_M_commit (.code y_M_commit b_M_commit 2 (some .int)) 6 200 [.ref m0, .int (nI t)] (wM g m0 m1 m2 m3 m4 m5 m6 m7 m8 m9 m10 n sy k o ke va fl sg cp fs la nx hd dn tg bh) (exP (some (.int (-1))) (wM g m0 m1 m2 m3 m4 m5 m6 m7 m8 m9 m10 n sy k o ke va fl sg cp fs la nx hd dn tg bh)) := by
  refine Ct.ofW (by decide) (Nat.le_of_ble_eq_true rfl) ?_
  intro pX eX sX mX aX bX tX cX AX lsX HX oX QX zx zb zr zk zm zo zg zK zP zD zA zS zQ zl
  have zo : sX.vm.findClass R_M = some mX.cls := zo
  have zl : lv_has lsX 2 [(0, .ref m0), (1, .int (nI t))] := zl
  refine lv_aload_n zx zb d_M_commit_0 rfl (lv_at zl 0 rfl) ?_
  refine lv_iload_n zx zb d_M_commit_1 rfl (lv_at zl 1 rfl) ?_
  refine lv_iconst (v := (nI 1)) zx zb d_M_commit_2 (by decide) ?_
  refine ct_V (ws' := wM g m0 m1 m2 m3 m4 m5 m6 m7 m8 m9 m10 n sy k o ke va fl sg cp fs la nx hd dn tg bh) (rest := []) (st1 := [.int (-1)]) zx zb zm zo zg zK zP zD zS zA zl.1 (c_M_end_g lL g m0 m1 m2 m3 m4 m5 m6 m7 m8 m9 m10 n sy k o ke va fl sg cp fs la nx hd dn tg bh t 1 ht (by omega)) ok_M_end ov_M_end ml_M_68 (by decide) 0 7 rfl rfl rfl [0, 1, 2, 3, 4, 5, 6, 7, 8, 9, 10] [] 11 (by decide) rfl rfl rfl rfl (by decide) rfl rfl rfl (Nat.le_of_ble_eq_true rfl) d_M_commit_3 (fun HX oX zP zD zS => ?_)
  exact ct_iret zQ zx zb zr zk zP zD zS d_M_commit_6 rfl (⟨rfl, rfl⟩)
set_option maxRecDepth 20000 in
theorem c_M_commit_c (lL : Launch) (g : Gt) (m0 : Nat) (m1 : Nat) (m2 : Nat) (m3 : Nat) (m4 : Nat) (m5 : Nat) (m6 : Nat) (m7 : Nat) (m8 : Nat) (m9 : Nat) (m10 : Nat) (n : Nat) (sy : Nat) (k : Nat → Nat) (o : Nat → Int32) (ke : Nat → Nat) (va : Nat → Int32) (fl : Nat → Nat) (sg : Nat → Nat) (cp : Nat → Nat) (fs : Nat → Nat) (la : Nat → Nat) (nx : Nat) (hd : Nat → Nat) (dn : Nat) (tg : Nat) (bh : Nat) (t : Nat) (ht : t < 3) (hn5 : n < 520) (hk4 : ∀ i, i < n → k i < 4) (hop : opO k o (nI t) n none = none) : Ct lL g y_M_commit (.code y_M_commit b_M_commit 2 (some .int)) 6 200 [.ref m0, .int (nI t)] (wM g m0 m1 m2 m3 m4 m5 m6 m7 m8 m9 m10 n sy k o ke va fl sg cp fs la nx hd dn tg bh) (exP (some (.int (-3))) (wM g m0 m1 m2 m3 m4 m5 m6 m7 m8 m9 m10 n sy k o ke va fl sg cp fs la nx hd dn tg bh)) := by
  refine Ct.ofW (by decide) (Nat.le_of_ble_eq_true rfl) ?_
  intro pX eX sX mX aX bX tX cX AX lsX HX oX QX zx zb zr zk zm zo zg zK zP zD zA zS zQ zl
  have zo : sX.vm.findClass R_M = some mX.cls := zo
  have zl : lv_has lsX 2 [(0, .ref m0), (1, .int (nI t))] := zl
  refine lv_aload_n zx zb d_M_commit_0 rfl (lv_at zl 0 rfl) ?_
  refine lv_iload_n zx zb d_M_commit_1 rfl (lv_at zl 1 rfl) ?_
  refine lv_iconst (v := (nI 1)) zx zb d_M_commit_2 (by decide) ?_
  refine ct_V (ws' := wM g m0 m1 m2 m3 m4 m5 m6 m7 m8 m9 m10 n sy k o ke va fl sg cp fs la nx hd dn tg bh) (rest := []) (st1 := [.int (-3)]) zx zb zm zo zg zK zP zD zS zA zl.1 (c_M_end_c lL g m0 m1 m2 m3 m4 m5 m6 m7 m8 m9 m10 n sy k o ke va fl sg cp fs la nx hd dn tg bh t 1 ht (by omega) hk4 hop) ok_M_end ov_M_end ml_M_68 (by decide) 0 7 rfl rfl rfl [0, 1, 2, 3, 4, 5, 6, 7, 8, 9, 10] [] 11 (by decide) rfl rfl rfl rfl (by decide) rfl rfl rfl (Nat.le_of_ble_eq_true rfl) d_M_commit_3 (fun HX oX zP zD zS => ?_)
  exact ct_iret zQ zx zb zr zk zP zD zS d_M_commit_6 rfl (⟨rfl, rfl⟩)
set_option maxRecDepth 20000 in
theorem c_M_commit_o (lL : Launch) (g : Gt) (m0 : Nat) (m1 : Nat) (m2 : Nat) (m3 : Nat) (m4 : Nat) (m5 : Nat) (m6 : Nat) (m7 : Nat) (m8 : Nat) (m9 : Nat) (m10 : Nat) (n : Nat) (sy : Nat) (k : Nat → Nat) (o : Nat → Int32) (ke : Nat → Nat) (va : Nat → Int32) (fl : Nat → Nat) (sg : Nat → Nat) (cp : Nat → Nat) (fs : Nat → Nat) (la : Nat → Nat) (nx : Nat) (hd : Nat → Nat) (dn : Nat) (tg : Nat) (bh : Nat) (t : Nat) (j : Nat) (ht : t < 3) (hn5 : n < 520) (hk4 : ∀ i, i < n → k i < 4) (hop : opO k o (nI t) n none = some j) (hj5 : j < 520) : Ct lL g y_M_commit (.code y_M_commit b_M_commit 2 (some .int)) 6 200 [.ref m0, .int (nI t)] (wM g m0 m1 m2 m3 m4 m5 m6 m7 m8 m9 m10 n sy k o ke va fl sg cp fs la nx hd dn tg bh) (exP (some (.int (nI (n + 1)))) (wM g m0 m1 m2 m3 m4 m5 m6 m7 m8 m9 m10 (n + 1) sy (va_up k n 1) (upd o n (nI t)) (va_up ke n 0) (upd va n (nI 0)) fl sg cp fs la nx hd dn tg bh)) := by
  refine Ct.ofW (by decide) (Nat.le_of_ble_eq_true rfl) ?_
  intro pX eX sX mX aX bX tX cX AX lsX HX oX QX zx zb zr zk zm zo zg zK zP zD zA zS zQ zl
  have zo : sX.vm.findClass R_M = some mX.cls := zo
  have zl : lv_has lsX 2 [(0, .ref m0), (1, .int (nI t))] := zl
  refine lv_aload_n zx zb d_M_commit_0 rfl (lv_at zl 0 rfl) ?_
  refine lv_iload_n zx zb d_M_commit_1 rfl (lv_at zl 1 rfl) ?_
  refine lv_iconst (v := (nI 1)) zx zb d_M_commit_2 (by decide) ?_
  refine ct_V (ws' := wM g m0 m1 m2 m3 m4 m5 m6 m7 m8 m9 m10 (n + 1) sy (va_up k n 1) (upd o n (nI t)) (va_up ke n 0) (upd va n (nI 0)) fl sg cp fs la nx hd dn tg bh) (rest := []) (st1 := [.int (nI (n + 1))]) zx zb zm zo zg zK zP zD zS zA zl.1 (c_M_end_o lL g m0 m1 m2 m3 m4 m5 m6 m7 m8 m9 m10 n sy k o ke va fl sg cp fs la nx hd dn tg bh t 1 j ht (by omega) hk4 hop (by omega)) ok_M_end ov_M_end ml_M_68 (by decide) 0 7 rfl rfl rfl [0, 1, 2, 3, 4, 5, 6, 7, 8, 9, 10] [] 11 (by decide) rfl rfl rfl rfl (by decide) rfl rfl rfl (Nat.le_of_ble_eq_true rfl) d_M_commit_3 (fun HX oX zP zD zS => ?_)
  exact ct_iret zQ zx zb zr zk zP zD zS d_M_commit_6 rfl (⟨rfl, rfl⟩)
set_option maxRecDepth 20000 in
theorem c_M_abort_n (lL : Launch) (g : Gt) (m0 : Nat) (m1 : Nat) (m2 : Nat) (m3 : Nat) (m4 : Nat) (m5 : Nat) (m6 : Nat) (m7 : Nat) (m8 : Nat) (m9 : Nat) (m10 : Nat) (n : Nat) (sy : Nat) (k : Nat → Nat) (o : Nat → Int32) (ke : Nat → Nat) (va : Nat → Int32) (fl : Nat → Nat) (sg : Nat → Nat) (cp : Nat → Nat) (fs : Nat → Nat) (la : Nat → Nat) (nx : Nat) (hd : Nat → Nat) (dn : Nat) (tg : Nat) (bh : Nat) (t : Int32) (ht : t < 0) : Ct lL g y_M_abort (.code y_M_abort b_M_abort 2 (some .int)) 6 200 [.ref m0, .int t] (wM g m0 m1 m2 m3 m4 m5 m6 m7 m8 m9 m10 n sy k o ke va fl sg cp fs la nx hd dn tg bh) (exP (some (.int (-1))) (wM g m0 m1 m2 m3 m4 m5 m6 m7 m8 m9 m10 n sy k o ke va fl sg cp fs la nx hd dn tg bh)) := by
  refine Ct.ofW (by decide) (Nat.le_of_ble_eq_true rfl) ?_
  intro pX eX sX mX aX bX tX cX AX lsX HX oX QX zx zb zr zk zm zo zg zK zP zD zA zS zQ zl
  have zo : sX.vm.findClass R_M = some mX.cls := zo
  have zl : lv_has lsX 2 [(0, .ref m0), (1, .int t)] := zl
  refine lv_aload_n zx zb d_M_abort_0 rfl (lv_at zl 0 rfl) ?_
  refine lv_iload_n zx zb d_M_abort_1 rfl (lv_at zl 1 rfl) ?_
  refine lv_iconst (v := (nI 2)) zx zb d_M_abort_2 (by decide) ?_
  refine ct_V (ws' := wM g m0 m1 m2 m3 m4 m5 m6 m7 m8 m9 m10 n sy k o ke va fl sg cp fs la nx hd dn tg bh) (rest := []) (st1 := [.int (-1)]) zx zb zm zo zg zK zP zD zS zA zl.1 (c_M_end_n lL g m0 m1 m2 m3 m4 m5 m6 m7 m8 m9 m10 n sy k o ke va fl sg cp fs la nx hd dn tg bh t 2 ht) ok_M_end ov_M_end ml_M_68 (by decide) 0 7 rfl rfl rfl [0, 1, 2, 3, 4, 5, 6, 7, 8, 9, 10] [] 11 (by decide) rfl rfl rfl rfl (by decide) rfl rfl rfl (Nat.le_of_ble_eq_true rfl) d_M_abort_3 (fun HX oX zP zD zS => ?_)
  exact ct_iret zQ zx zb zr zk zP zD zS d_M_abort_6 rfl (⟨rfl, rfl⟩)
set_option maxRecDepth 20000 in
theorem c_M_abort_g (lL : Launch) (g : Gt) (m0 : Nat) (m1 : Nat) (m2 : Nat) (m3 : Nat) (m4 : Nat) (m5 : Nat) (m6 : Nat) (m7 : Nat) (m8 : Nat) (m9 : Nat) (m10 : Nat) (n : Nat) (sy : Nat) (k : Nat → Nat) (o : Nat → Int32) (ke : Nat → Nat) (va : Nat → Int32) (fl : Nat → Nat) (sg : Nat → Nat) (cp : Nat → Nat) (fs : Nat → Nat) (la : Nat → Nat) (nx : Nat) (hd : Nat → Nat) (dn : Nat) (tg : Nat) (bh : Nat) (t : Nat) (ht : 3 ≤ t) (ht2 : t < 2147483648) : Ct lL g y_M_abort (.code y_M_abort b_M_abort 2 (some .int)) 6 200 [.ref m0, .int (nI t)] (wM g m0 m1 m2 m3 m4 m5 m6 m7 m8 m9 m10 n sy k o ke va fl sg cp fs la nx hd dn tg bh) (exP (some (.int (-1))) (wM g m0 m1 m2 m3 m4 m5 m6 m7 m8 m9 m10 n sy k o ke va fl sg cp fs la nx hd dn tg bh)) := by
  refine Ct.ofW (by decide) (Nat.le_of_ble_eq_true rfl) ?_
  intro pX eX sX mX aX bX tX cX AX lsX HX oX QX zx zb zr zk zm zo zg zK zP zD zA zS zQ zl
  have zo : sX.vm.findClass R_M = some mX.cls := zo
  have zl : lv_has lsX 2 [(0, .ref m0), (1, .int (nI t))] := zl
  refine lv_aload_n zx zb d_M_abort_0 rfl (lv_at zl 0 rfl) ?_
  refine lv_iload_n zx zb d_M_abort_1 rfl (lv_at zl 1 rfl) ?_
  refine lv_iconst (v := (nI 2)) zx zb d_M_abort_2 (by decide) ?_
  refine ct_V (ws' := wM g m0 m1 m2 m3 m4 m5 m6 m7 m8 m9 m10 n sy k o ke va fl sg cp fs la nx hd dn tg bh) (rest := []) (st1 := [.int (-1)]) zx zb zm zo zg zK zP zD zS zA zl.1 (c_M_end_g lL g m0 m1 m2 m3 m4 m5 m6 m7 m8 m9 m10 n sy k o ke va fl sg cp fs la nx hd dn tg bh t 2 ht (by omega)) ok_M_end ov_M_end ml_M_68 (by decide) 0 7 rfl rfl rfl [0, 1, 2, 3, 4, 5, 6, 7, 8, 9, 10] [] 11 (by decide) rfl rfl rfl rfl (by decide) rfl rfl rfl (Nat.le_of_ble_eq_true rfl) d_M_abort_3 (fun HX oX zP zD zS => ?_)
  exact ct_iret zQ zx zb zr zk zP zD zS d_M_abort_6 rfl (⟨rfl, rfl⟩)
set_option maxRecDepth 20000 in
theorem c_M_abort_c (lL : Launch) (g : Gt) (m0 : Nat) (m1 : Nat) (m2 : Nat) (m3 : Nat) (m4 : Nat) (m5 : Nat) (m6 : Nat) (m7 : Nat) (m8 : Nat) (m9 : Nat) (m10 : Nat) (n : Nat) (sy : Nat) (k : Nat → Nat) (o : Nat → Int32) (ke : Nat → Nat) (va : Nat → Int32) (fl : Nat → Nat) (sg : Nat → Nat) (cp : Nat → Nat) (fs : Nat → Nat) (la : Nat → Nat) (nx : Nat) (hd : Nat → Nat) (dn : Nat) (tg : Nat) (bh : Nat) (t : Nat) (ht : t < 3) (hn5 : n < 520) (hk4 : ∀ i, i < n → k i < 4) (hop : opO k o (nI t) n none = none) : Ct lL g y_M_abort (.code y_M_abort b_M_abort 2 (some .int)) 6 200 [.ref m0, .int (nI t)] (wM g m0 m1 m2 m3 m4 m5 m6 m7 m8 m9 m10 n sy k o ke va fl sg cp fs la nx hd dn tg bh) (exP (some (.int (-3))) (wM g m0 m1 m2 m3 m4 m5 m6 m7 m8 m9 m10 n sy k o ke va fl sg cp fs la nx hd dn tg bh)) := by
  refine Ct.ofW (by decide) (Nat.le_of_ble_eq_true rfl) ?_
  intro pX eX sX mX aX bX tX cX AX lsX HX oX QX zx zb zr zk zm zo zg zK zP zD zA zS zQ zl
  have zo : sX.vm.findClass R_M = some mX.cls := zo
  have zl : lv_has lsX 2 [(0, .ref m0), (1, .int (nI t))] := zl
  refine lv_aload_n zx zb d_M_abort_0 rfl (lv_at zl 0 rfl) ?_
  refine lv_iload_n zx zb d_M_abort_1 rfl (lv_at zl 1 rfl) ?_
  refine lv_iconst (v := (nI 2)) zx zb d_M_abort_2 (by decide) ?_
  refine ct_V (ws' := wM g m0 m1 m2 m3 m4 m5 m6 m7 m8 m9 m10 n sy k o ke va fl sg cp fs la nx hd dn tg bh) (rest := []) (st1 := [.int (-3)]) zx zb zm zo zg zK zP zD zS zA zl.1 (c_M_end_c lL g m0 m1 m2 m3 m4 m5 m6 m7 m8 m9 m10 n sy k o ke va fl sg cp fs la nx hd dn tg bh t 2 ht (by omega) hk4 hop) ok_M_end ov_M_end ml_M_68 (by decide) 0 7 rfl rfl rfl [0, 1, 2, 3, 4, 5, 6, 7, 8, 9, 10] [] 11 (by decide) rfl rfl rfl rfl (by decide) rfl rfl rfl (Nat.le_of_ble_eq_true rfl) d_M_abort_3 (fun HX oX zP zD zS => ?_)
  exact ct_iret zQ zx zb zr zk zP zD zS d_M_abort_6 rfl (⟨rfl, rfl⟩)
set_option maxRecDepth 20000 in
theorem c_M_abort_o (lL : Launch) (g : Gt) (m0 : Nat) (m1 : Nat) (m2 : Nat) (m3 : Nat) (m4 : Nat) (m5 : Nat) (m6 : Nat) (m7 : Nat) (m8 : Nat) (m9 : Nat) (m10 : Nat) (n : Nat) (sy : Nat) (k : Nat → Nat) (o : Nat → Int32) (ke : Nat → Nat) (va : Nat → Int32) (fl : Nat → Nat) (sg : Nat → Nat) (cp : Nat → Nat) (fs : Nat → Nat) (la : Nat → Nat) (nx : Nat) (hd : Nat → Nat) (dn : Nat) (tg : Nat) (bh : Nat) (t : Nat) (j : Nat) (ht : t < 3) (hn5 : n < 520) (hk4 : ∀ i, i < n → k i < 4) (hop : opO k o (nI t) n none = some j) (hj5 : j < 520) : Ct lL g y_M_abort (.code y_M_abort b_M_abort 2 (some .int)) 6 200 [.ref m0, .int (nI t)] (wM g m0 m1 m2 m3 m4 m5 m6 m7 m8 m9 m10 n sy k o ke va fl sg cp fs la nx hd dn tg bh) (exP (some (.int (nI (n + 1)))) (wM g m0 m1 m2 m3 m4 m5 m6 m7 m8 m9 m10 (n + 1) sy (va_up k n 2) (upd o n (nI t)) (va_up ke n 0) (upd va n (nI 0)) fl sg cp fs la nx hd dn tg bh)) := by
  refine Ct.ofW (by decide) (Nat.le_of_ble_eq_true rfl) ?_
  intro pX eX sX mX aX bX tX cX AX lsX HX oX QX zx zb zr zk zm zo zg zK zP zD zA zS zQ zl
  have zo : sX.vm.findClass R_M = some mX.cls := zo
  have zl : lv_has lsX 2 [(0, .ref m0), (1, .int (nI t))] := zl
  refine lv_aload_n zx zb d_M_abort_0 rfl (lv_at zl 0 rfl) ?_
  refine lv_iload_n zx zb d_M_abort_1 rfl (lv_at zl 1 rfl) ?_
  refine lv_iconst (v := (nI 2)) zx zb d_M_abort_2 (by decide) ?_
  refine ct_V (ws' := wM g m0 m1 m2 m3 m4 m5 m6 m7 m8 m9 m10 (n + 1) sy (va_up k n 2) (upd o n (nI t)) (va_up ke n 0) (upd va n (nI 0)) fl sg cp fs la nx hd dn tg bh) (rest := []) (st1 := [.int (nI (n + 1))]) zx zb zm zo zg zK zP zD zS zA zl.1 (c_M_end_o lL g m0 m1 m2 m3 m4 m5 m6 m7 m8 m9 m10 n sy k o ke va fl sg cp fs la nx hd dn tg bh t 2 j ht (by omega) hk4 hop (by omega)) ok_M_end ov_M_end ml_M_68 (by decide) 0 7 rfl rfl rfl [0, 1, 2, 3, 4, 5, 6, 7, 8, 9, 10] [] 11 (by decide) rfl rfl rfl rfl (by decide) rfl rfl rfl (Nat.le_of_ble_eq_true rfl) d_M_abort_3 (fun HX oX zP zD zS => ?_)
  exact ct_iret zQ zx zb zr zk zP zD zS d_M_abort_6 rfl (⟨rfl, rfl⟩)
set_option maxRecDepth 20000 in
theorem c_M_get_n (lL : Launch) (g : Gt) (m0 : Nat) (m1 : Nat) (m2 : Nat) (m3 : Nat) (m4 : Nat) (m5 : Nat) (m6 : Nat) (m7 : Nat) (m8 : Nat) (m9 : Nat) (m10 : Nat) (n : Nat) (sy : Nat) (k : Nat → Nat) (o : Nat → Int32) (ke : Nat → Nat) (va : Nat → Int32) (fl : Nat → Nat) (sg : Nat → Nat) (cp : Nat → Nat) (fs : Nat → Nat) (la : Nat → Nat) (nx : Nat) (hd : Nat → Nat) (dn : Nat) (tg : Nat) (bh : Nat) (ky : Int32) (hky : ky < 0) : Ct lL g y_M_get (.code y_M_get b_M_get 2 (some .int)) 6 200 [.ref m0, .int ky] (wM g m0 m1 m2 m3 m4 m5 m6 m7 m8 m9 m10 n sy k o ke va fl sg cp fs la nx hd dn tg bh) (exP (some (.int (nI 0))) (wM g m0 m1 m2 m3 m4 m5 m6 m7 m8 m9 m10 n sy k o ke va fl sg cp fs la nx hd dn tg bh)) := by
  refine Ct.ofW (by decide) (Nat.le_of_ble_eq_true rfl) ?_
  intro pX eX sX mX aX bX tX cX AX lsX HX oX QX zx zb zr zk zm zo zg zK zP zD zA zS zQ zl
  have zo : sX.vm.findClass R_M = some mX.cls := zo
  have zl : lv_has lsX 2 [(0, .ref m0), (1, .int ky)] := zl
  refine lv_iload_n zx zb d_M_get_0 rfl (lv_at zl 1 rfl) ?_
  refine lv_if_lt (tgt := 10) zx zb d_M_get_1 (by decide) (fun _ => ?_) (fun h => absurd h (fun h => h hky))
  refine lv_iconst (v := (nI 0)) zx zb d_M_get_10 (by decide) ?_
  refine lv_goto (tgt := 23) zx zb d_M_get_11 (by decide) ?_
  exact ct_iret zQ zx zb zr zk zP zD zS d_M_get_23 rfl (⟨rfl, rfl⟩)
set_option maxRecDepth 20000 in
theorem c_M_get_g (lL : Launch) (g : Gt) (m0 : Nat) (m1 : Nat) (m2 : Nat) (m3 : Nat) (m4 : Nat) (m5 : Nat) (m6 : Nat) (m7 : Nat) (m8 : Nat) (m9 : Nat) (m10 : Nat) (n : Nat) (sy : Nat) (k : Nat → Nat) (o : Nat → Int32) (ke : Nat → Nat) (va : Nat → Int32) (fl : Nat → Nat) (sg : Nat → Nat) (cp : Nat → Nat) (fs : Nat → Nat) (la : Nat → Nat) (nx : Nat) (hd : Nat → Nat) (dn : Nat) (tg : Nat) (bh : Nat) (ky : Nat) (hky : 32 ≤ ky) (hky2 : ky < 2147483648) : Ct lL g y_M_get (.code y_M_get b_M_get 2 (some .int)) 6 200 [.ref m0, .int (nI ky)] (wM g m0 m1 m2 m3 m4 m5 m6 m7 m8 m9 m10 n sy k o ke va fl sg cp fs la nx hd dn tg bh) (exP (some (.int (nI 0))) (wM g m0 m1 m2 m3 m4 m5 m6 m7 m8 m9 m10 n sy k o ke va fl sg cp fs la nx hd dn tg bh)) := by
  refine Ct.ofW (by decide) (Nat.le_of_ble_eq_true rfl) ?_
  intro pX eX sX mX aX bX tX cX AX lsX HX oX QX zx zb zr zk zm zo zg zK zP zD zA zS zQ zl
  have zo : sX.vm.findClass R_M = some mX.cls := zo
  have zl : lv_has lsX 2 [(0, .ref m0), (1, .int (nI ky))] := zl
  refine lv_iload_n zx zb d_M_get_0 rfl (lv_at zl 1 rfl) ?_
  refine wn_ilt_F (tgt := 10) zx zb d_M_get_1 (by decide) (by omega) (trivial) ?_
  refine lv_iload_n zx zb d_M_get_4 rfl (lv_at zl 1 rfl) ?_
  refine lv_bipush (v := (nI 31)) zx zb d_M_get_5 (by decide) ?_
  refine wn_cle_F (tgt := 14) zx zb d_M_get_7 (by decide) (by omega) (by omega) (by omega) ?_
  refine lv_iconst (v := (nI 0)) zx zb d_M_get_10 (by decide) ?_
  refine lv_goto (tgt := 23) zx zb d_M_get_11 (by decide) ?_
  exact ct_iret zQ zx zb zr zk zP zD zS d_M_get_23 rfl (⟨rfl, rfl⟩)
set_option maxRecDepth 20000 in
theorem c_M_get_t (lL : Launch) (g : Gt) (m0 : Nat) (m1 : Nat) (m2 : Nat) (m3 : Nat) (m4 : Nat) (m5 : Nat) (m6 : Nat) (m7 : Nat) (m8 : Nat) (m9 : Nat) (m10 : Nat) (n : Nat) (sy : Nat) (k : Nat → Nat) (o : Nat → Int32) (ke : Nat → Nat) (va : Nat → Int32) (fl : Nat → Nat) (sg : Nat → Nat) (cp : Nat → Nat) (fs : Nat → Nat) (la : Nat → Nat) (nx : Nat) (hd : Nat → Nat) (dn : Nat) (tg : Nat) (bh : Nat) (ky : Nat) (hky : ky < 32) (hn5 : n ≤ 520) (hk4 : ∀ i, i < n → k i < 4) (hke : ∀ i, i < n → k i = 0 → ke i < 32) : Ct lL g y_M_get (.code y_M_get b_M_get 2 (some .int)) 6 200 [.ref m0, .int (nI ky)] (wM g m0 m1 m2 m3 m4 m5 m6 m7 m8 m9 m10 n sy k o ke va fl sg cp fs la nx hd dn tg bh) (exP (some (.int (vaO k o ke va ky n))) (wM g m0 m1 m2 m3 m4 m5 m6 m7 m8 m9 m10 n sy k o ke va fl sg cp fs la nx hd dn tg bh)) := by
  refine Ct.ofW (by decide) (Nat.le_of_ble_eq_true rfl) ?_
  intro pX eX sX mX aX bX tX cX AX lsX HX oX QX zx zb zr zk zm zo zg zK zP zD zA zS zQ zl
  have zo : sX.vm.findClass R_M = some mX.cls := zo
  have zl : lv_has lsX 2 [(0, .ref m0), (1, .int (nI ky))] := zl
  refine lv_iload_n zx zb d_M_get_0 rfl (lv_at zl 1 rfl) ?_
  refine wn_ilt_F (tgt := 10) zx zb d_M_get_1 (by decide) (by omega) (trivial) ?_
  refine lv_iload_n zx zb d_M_get_4 rfl (lv_at zl 1 rfl) ?_
  refine lv_bipush (v := (nI 31)) zx zb d_M_get_5 (by decide) ?_
  refine wn_cle_T (tgt := 14) zx zb d_M_get_7 (by decide) (by omega) (by omega) (by omega) ?_
  refine lv_aload_n zx zb d_M_get_14 rfl (lv_at zl 0 rfl) ?_
  refine lv_iload_n zx zb d_M_get_15 rfl (lv_at zl 1 rfl) ?_
  refine lv_aload_n zx zb d_M_get_16 rfl (lv_at zl 0 rfl) ?_
  refine wv_get zx zb zg hin_M rfl zo zK zP 0 rfl 0 (by decide) rfl fl_M_41 rfl d_M_get_17 ?_
  refine ct_V (ws' := wM g m0 m1 m2 m3 m4 m5 m6 m7 m8 m9 m10 n sy k o ke va fl sg cp fs la nx hd dn tg bh) (rest := []) (st1 := [.int (vaO k o ke va ky n)]) zx zb zm zo zg zK zP zD zS zA zl.1 (c_M_valueAt lL g m0 m1 m2 m3 m4 m5 m6 m7 m8 m9 m10 n sy k o ke va fl sg cp fs la nx hd dn tg bh ky n (by omega) hk4 hke (by omega)) ok_M_valueAt ov_M_valueAt ml_M_71 (by decide) 0 7 rfl rfl rfl [0, 1, 2, 3, 4, 5, 6, 7, 8, 9, 10] [] 11 (by decide) rfl rfl rfl rfl (by decide) rfl rfl rfl (Nat.le_of_ble_eq_true rfl) d_M_get_20 (fun HX oX zP zD zS => ?_)
  exact ct_iret zQ zx zb zr zk zP zD zS d_M_get_23 rfl (⟨rfl, rfl⟩)
set_option maxRecDepth 20000 in
theorem c_M_restored_z (lL : Launch) (g : Gt) (m0 : Nat) (m1 : Nat) (m2 : Nat) (m3 : Nat) (m4 : Nat) (m5 : Nat) (m6 : Nat) (m7 : Nat) (m8 : Nat) (m9 : Nat) (m10 : Nat) (n : Nat) (sy : Nat) (k : Nat → Nat) (o : Nat → Int32) (ke : Nat → Nat) (va : Nat → Int32) (fl : Nat → Nat) (sg : Nat → Nat) (cp : Nat → Nat) (fs : Nat → Nat) (la : Nat → Nat) (nx : Nat) (hd : Nat → Nat) (tg : Nat) (bh : Nat) (ky : Int32)  : Ct lL g y_M_restored (.code y_M_restored b_M_restored 2 (some .int)) 6 200 [.ref m0, .int ky] (wM g m0 m1 m2 m3 m4 m5 m6 m7 m8 m9 m10 n sy k o ke va fl sg cp fs la nx hd 0 tg bh) (exP (some (.int (nI 0))) (wM g m0 m1 m2 m3 m4 m5 m6 m7 m8 m9 m10 n sy k o ke va fl sg cp fs la nx hd 0 tg bh)) := by
  refine Ct.ofW (by decide) (Nat.le_of_ble_eq_true rfl) ?_
  intro pX eX sX mX aX bX tX cX AX lsX HX oX QX zx zb zr zk zm zo zg zK zP zD zA zS zQ zl
  have zo : sX.vm.findClass R_M = some mX.cls := zo
  have zl : lv_has lsX 2 [(0, .ref m0), (1, .int ky)] := zl
  refine lv_aload_n zx zb d_M_restored_0 rfl (lv_at zl 0 rfl) ?_
  refine wv_get zx zb zg hin_M rfl zo zK zP 0 rfl 13 (by decide) rfl fl_M_99 rfl d_M_restored_1 ?_
  refine wn_ieq_T (tgt := 17) zx zb d_M_restored_4 (by decide) (by omega) (by omega) ?_
  refine lv_iconst (v := (nI 0)) zx zb d_M_restored_17 (by decide) ?_
  refine lv_goto (tgt := 30) zx zb d_M_restored_18 (by decide) ?_
  exact ct_iret zQ zx zb zr zk zP zD zS d_M_restored_30 rfl (⟨rfl, rfl⟩)
set_option maxRecDepth 20000 in
theorem c_M_restored_n (lL : Launch) (g : Gt) (m0 : Nat) (m1 : Nat) (m2 : Nat) (m3 : Nat) (m4 : Nat) (m5 : Nat) (m6 : Nat) (m7 : Nat) (m8 : Nat) (m9 : Nat) (m10 : Nat) (n : Nat) (sy : Nat) (k : Nat → Nat) (o : Nat → Int32) (ke : Nat → Nat) (va : Nat → Int32) (fl : Nat → Nat) (sg : Nat → Nat) (cp : Nat → Nat) (fs : Nat → Nat) (la : Nat → Nat) (nx : Nat) (hd : Nat → Nat) (tg : Nat) (bh : Nat) (ky : Int32) (hky : ky < 0) : Ct lL g y_M_restored (.code y_M_restored b_M_restored 2 (some .int)) 6 200 [.ref m0, .int ky] (wM g m0 m1 m2 m3 m4 m5 m6 m7 m8 m9 m10 n sy k o ke va fl sg cp fs la nx hd 1 tg bh) (exP (some (.int (nI 0))) (wM g m0 m1 m2 m3 m4 m5 m6 m7 m8 m9 m10 n sy k o ke va fl sg cp fs la nx hd 1 tg bh)) := by
  refine Ct.ofW (by decide) (Nat.le_of_ble_eq_true rfl) ?_
  intro pX eX sX mX aX bX tX cX AX lsX HX oX QX zx zb zr zk zm zo zg zK zP zD zA zS zQ zl
  have zo : sX.vm.findClass R_M = some mX.cls := zo
  have zl : lv_has lsX 2 [(0, .ref m0), (1, .int ky)] := zl
  refine lv_aload_n zx zb d_M_restored_0 rfl (lv_at zl 0 rfl) ?_
  refine wv_get zx zb zg hin_M rfl zo zK zP 0 rfl 13 (by decide) rfl fl_M_99 rfl d_M_restored_1 ?_
  refine wn_ieq_F (tgt := 17) zx zb d_M_restored_4 (by decide) (by omega) (by omega) ?_
  refine lv_iload_n zx zb d_M_restored_7 rfl (lv_at zl 1 rfl) ?_
  refine lv_if_lt (tgt := 17) zx zb d_M_restored_8 (by decide) (fun _ => ?_) (fun h => absurd h (fun h => h hky))
  refine lv_iconst (v := (nI 0)) zx zb d_M_restored_17 (by decide) ?_
  refine lv_goto (tgt := 30) zx zb d_M_restored_18 (by decide) ?_
  exact ct_iret zQ zx zb zr zk zP zD zS d_M_restored_30 rfl (⟨rfl, rfl⟩)
set_option maxRecDepth 20000 in
theorem c_M_restored_g (lL : Launch) (g : Gt) (m0 : Nat) (m1 : Nat) (m2 : Nat) (m3 : Nat) (m4 : Nat) (m5 : Nat) (m6 : Nat) (m7 : Nat) (m8 : Nat) (m9 : Nat) (m10 : Nat) (n : Nat) (sy : Nat) (k : Nat → Nat) (o : Nat → Int32) (ke : Nat → Nat) (va : Nat → Int32) (fl : Nat → Nat) (sg : Nat → Nat) (cp : Nat → Nat) (fs : Nat → Nat) (la : Nat → Nat) (nx : Nat) (hd : Nat → Nat) (tg : Nat) (bh : Nat) (ky : Nat) (hky : 32 ≤ ky) (hky2 : ky < 2147483648) : Ct lL g y_M_restored (.code y_M_restored b_M_restored 2 (some .int)) 6 200 [.ref m0, .int (nI ky)] (wM g m0 m1 m2 m3 m4 m5 m6 m7 m8 m9 m10 n sy k o ke va fl sg cp fs la nx hd 1 tg bh) (exP (some (.int (nI 0))) (wM g m0 m1 m2 m3 m4 m5 m6 m7 m8 m9 m10 n sy k o ke va fl sg cp fs la nx hd 1 tg bh)) := by
  refine Ct.ofW (by decide) (Nat.le_of_ble_eq_true rfl) ?_
  intro pX eX sX mX aX bX tX cX AX lsX HX oX QX zx zb zr zk zm zo zg zK zP zD zA zS zQ zl
  have zo : sX.vm.findClass R_M = some mX.cls := zo
  have zl : lv_has lsX 2 [(0, .ref m0), (1, .int (nI ky))] := zl
  refine lv_aload_n zx zb d_M_restored_0 rfl (lv_at zl 0 rfl) ?_
  refine wv_get zx zb zg hin_M rfl zo zK zP 0 rfl 13 (by decide) rfl fl_M_99 rfl d_M_restored_1 ?_
  refine wn_ieq_F (tgt := 17) zx zb d_M_restored_4 (by decide) (by omega) (by omega) ?_
  refine lv_iload_n zx zb d_M_restored_7 rfl (lv_at zl 1 rfl) ?_
  refine wn_ilt_F (tgt := 17) zx zb d_M_restored_8 (by decide) (by omega) (trivial) ?_
  refine lv_iload_n zx zb d_M_restored_11 rfl (lv_at zl 1 rfl) ?_
  refine lv_bipush (v := (nI 31)) zx zb d_M_restored_12 (by decide) ?_
  refine wn_cle_F (tgt := 21) zx zb d_M_restored_14 (by decide) (by omega) (by omega) (by omega) ?_
  refine lv_iconst (v := (nI 0)) zx zb d_M_restored_17 (by decide) ?_
  refine lv_goto (tgt := 30) zx zb d_M_restored_18 (by decide) ?_
  exact ct_iret zQ zx zb zr zk zP zD zS d_M_restored_30 rfl (⟨rfl, rfl⟩)
set_option maxRecDepth 20000 in
theorem c_M_restored_t (lL : Launch) (g : Gt) (m0 : Nat) (m1 : Nat) (m2 : Nat) (m3 : Nat) (m4 : Nat) (m5 : Nat) (m6 : Nat) (m7 : Nat) (m8 : Nat) (m9 : Nat) (m10 : Nat) (n : Nat) (sy : Nat) (k : Nat → Nat) (o : Nat → Int32) (ke : Nat → Nat) (va : Nat → Int32) (fl : Nat → Nat) (sg : Nat → Nat) (cp : Nat → Nat) (fs : Nat → Nat) (la : Nat → Nat) (nx : Nat) (hd : Nat → Nat) (tg : Nat) (bh : Nat) (ky : Nat) (hky : ky < 32) (htg : tg ≤ 520) (hk4 : ∀ i, i < tg → k i < 4) (hke : ∀ i, i < tg → k i = 0 → ke i < 32) : Ct lL g y_M_restored (.code y_M_restored b_M_restored 2 (some .int)) 6 200 [.ref m0, .int (nI ky)] (wM g m0 m1 m2 m3 m4 m5 m6 m7 m8 m9 m10 n sy k o ke va fl sg cp fs la nx hd 1 tg bh) (exP (some (.int (vaO k o ke va ky tg))) (wM g m0 m1 m2 m3 m4 m5 m6 m7 m8 m9 m10 n sy k o ke va fl sg cp fs la nx hd 1 tg bh)) := by
  refine Ct.ofW (by decide) (Nat.le_of_ble_eq_true rfl) ?_
  intro pX eX sX mX aX bX tX cX AX lsX HX oX QX zx zb zr zk zm zo zg zK zP zD zA zS zQ zl
  have zo : sX.vm.findClass R_M = some mX.cls := zo
  have zl : lv_has lsX 2 [(0, .ref m0), (1, .int (nI ky))] := zl
  refine lv_aload_n zx zb d_M_restored_0 rfl (lv_at zl 0 rfl) ?_
  refine wv_get zx zb zg hin_M rfl zo zK zP 0 rfl 13 (by decide) rfl fl_M_99 rfl d_M_restored_1 ?_
  refine wn_ieq_F (tgt := 17) zx zb d_M_restored_4 (by decide) (by omega) (by omega) ?_
  refine lv_iload_n zx zb d_M_restored_7 rfl (lv_at zl 1 rfl) ?_
  refine wn_ilt_F (tgt := 17) zx zb d_M_restored_8 (by decide) (by omega) (trivial) ?_
  refine lv_iload_n zx zb d_M_restored_11 rfl (lv_at zl 1 rfl) ?_
  refine lv_bipush (v := (nI 31)) zx zb d_M_restored_12 (by decide) ?_
  refine wn_cle_T (tgt := 21) zx zb d_M_restored_14 (by decide) (by omega) (by omega) (by omega) ?_
  refine lv_aload_n zx zb d_M_restored_21 rfl (lv_at zl 0 rfl) ?_
  refine lv_iload_n zx zb d_M_restored_22 rfl (lv_at zl 1 rfl) ?_
  refine lv_aload_n zx zb d_M_restored_23 rfl (lv_at zl 0 rfl) ?_
  refine wv_get zx zb zg hin_M rfl zo zK zP 0 rfl 14 (by decide) rfl fl_M_103 rfl d_M_restored_24 ?_
  refine ct_V (ws' := wM g m0 m1 m2 m3 m4 m5 m6 m7 m8 m9 m10 n sy k o ke va fl sg cp fs la nx hd 1 tg bh) (rest := []) (st1 := [.int (vaO k o ke va ky tg)]) zx zb zm zo zg zK zP zD zS zA zl.1 (c_M_valueAt lL g m0 m1 m2 m3 m4 m5 m6 m7 m8 m9 m10 n sy k o ke va fl sg cp fs la nx hd 1 tg bh ky tg (by omega) hk4 hke (by omega)) ok_M_valueAt ov_M_valueAt ml_M_71 (by decide) 0 7 rfl rfl rfl [0, 1, 2, 3, 4, 5, 6, 7, 8, 9, 10] [] 11 (by decide) rfl rfl rfl rfl (by decide) rfl rfl rfl (Nat.le_of_ble_eq_true rfl) d_M_restored_27 (fun HX oX zP zD zS => ?_)
  exact ct_iret zQ zx zb zr zk zP zD zS d_M_restored_30 rfl (⟨rfl, rfl⟩)
set_option maxRecDepth 20000 in
theorem c_M_replayed_z (lL : Launch) (g : Gt) (m0 : Nat) (m1 : Nat) (m2 : Nat) (m3 : Nat) (m4 : Nat) (m5 : Nat) (m6 : Nat) (m7 : Nat) (m8 : Nat) (m9 : Nat) (m10 : Nat) (n : Nat) (sy : Nat) (k : Nat → Nat) (o : Nat → Int32) (ke : Nat → Nat) (va : Nat → Int32) (fl : Nat → Nat) (sg : Nat → Nat) (cp : Nat → Nat) (fs : Nat → Nat) (la : Nat → Nat) (nx : Nat) (hd : Nat → Nat) (tg : Nat) (bh : Nat)  : Ct lL g y_M_replayed (.code y_M_replayed b_M_replayed 1 (some .int)) 6 200 [.ref m0] (wM g m0 m1 m2 m3 m4 m5 m6 m7 m8 m9 m10 n sy k o ke va fl sg cp fs la nx hd 0 tg bh) (exP (some (.int (nI 0))) (wM g m0 m1 m2 m3 m4 m5 m6 m7 m8 m9 m10 n sy k o ke va fl sg cp fs la nx hd 0 tg bh)) := by
  refine Ct.ofW (by decide) (Nat.le_of_ble_eq_true rfl) ?_
  intro pX eX sX mX aX bX tX cX AX lsX HX oX QX zx zb zr zk zm zo zg zK zP zD zA zS zQ zl
  have zo : sX.vm.findClass R_M = some mX.cls := zo
  have zl : lv_has lsX 1 [(0, .ref m0)] := zl
  refine lv_aload_n zx zb d_M_replayed_0 rfl (lv_at zl 0 rfl) ?_
  refine wv_get zx zb zg hin_M rfl zo zK zP 0 rfl 13 (by decide) rfl fl_M_99 rfl d_M_replayed_1 ?_
  refine wn_ieq_T (tgt := 14) zx zb d_M_replayed_4 (by decide) (by omega) (by omega) ?_
  refine lv_iconst (v := (nI 0)) zx zb d_M_replayed_14 (by decide) ?_
  exact ct_iret zQ zx zb zr zk zP zD zS d_M_replayed_15 rfl (⟨rfl, rfl⟩)
set_option maxRecDepth 20000 in
theorem c_M_replayed_d (lL : Launch) (g : Gt) (m0 : Nat) (m1 : Nat) (m2 : Nat) (m3 : Nat) (m4 : Nat) (m5 : Nat) (m6 : Nat) (m7 : Nat) (m8 : Nat) (m9 : Nat) (m10 : Nat) (n : Nat) (sy : Nat) (k : Nat → Nat) (o : Nat → Int32) (ke : Nat → Nat) (va : Nat → Int32) (fl : Nat → Nat) (sg : Nat → Nat) (cp : Nat → Nat) (fs : Nat → Nat) (la : Nat → Nat) (nx : Nat) (hd : Nat → Nat) (tg : Nat) (bh : Nat)  : Ct lL g y_M_replayed (.code y_M_replayed b_M_replayed 1 (some .int)) 6 200 [.ref m0] (wM g m0 m1 m2 m3 m4 m5 m6 m7 m8 m9 m10 n sy k o ke va fl sg cp fs la nx hd 1 tg bh) (exP (some (.int (nI bh))) (wM g m0 m1 m2 m3 m4 m5 m6 m7 m8 m9 m10 n sy k o ke va fl sg cp fs la nx hd 1 tg bh)) := by
  refine Ct.ofW (by decide) (Nat.le_of_ble_eq_true rfl) ?_
  intro pX eX sX mX aX bX tX cX AX lsX HX oX QX zx zb zr zk zm zo zg zK zP zD zA zS zQ zl
  have zo : sX.vm.findClass R_M = some mX.cls := zo
  have zl : lv_has lsX 1 [(0, .ref m0)] := zl
  refine lv_aload_n zx zb d_M_replayed_0 rfl (lv_at zl 0 rfl) ?_
  refine wv_get zx zb zg hin_M rfl zo zK zP 0 rfl 13 (by decide) rfl fl_M_99 rfl d_M_replayed_1 ?_
  refine wn_ieq_F (tgt := 14) zx zb d_M_replayed_4 (by decide) (by omega) (by omega) ?_
  refine lv_aload_n zx zb d_M_replayed_7 rfl (lv_at zl 0 rfl) ?_
  refine wv_get zx zb zg hin_M rfl zo zK zP 0 rfl 15 (by decide) rfl fl_M_106 rfl d_M_replayed_8 ?_
  refine lv_goto (tgt := 15) zx zb d_M_replayed_11 (by decide) ?_
  exact ct_iret zQ zx zb zr zk zP zD zS d_M_replayed_15 rfl (⟨rfl, rfl⟩)
set_option maxRecDepth 20000 in
theorem c_M_position (lL : Launch) (g : Gt) (m0 : Nat) (m1 : Nat) (m2 : Nat) (m3 : Nat) (m4 : Nat) (m5 : Nat) (m6 : Nat) (m7 : Nat) (m8 : Nat) (m9 : Nat) (m10 : Nat) (n : Nat) (sy : Nat) (k : Nat → Nat) (o : Nat → Int32) (ke : Nat → Nat) (va : Nat → Int32) (fl : Nat → Nat) (sg : Nat → Nat) (cp : Nat → Nat) (fs : Nat → Nat) (la : Nat → Nat) (nx : Nat) (hd : Nat → Nat) (dn : Nat) (tg : Nat) (bh : Nat)  : Ct lL g y_M_position (.code y_M_position b_M_position 1 (some .int)) 6 200 [.ref m0] (wM g m0 m1 m2 m3 m4 m5 m6 m7 m8 m9 m10 n sy k o ke va fl sg cp fs la nx hd dn tg bh) (exP (some (.int (nI n))) (wM g m0 m1 m2 m3 m4 m5 m6 m7 m8 m9 m10 n sy k o ke va fl sg cp fs la nx hd dn tg bh)) := by
  refine Ct.ofW (by decide) (Nat.le_of_ble_eq_true rfl) ?_
  intro pX eX sX mX aX bX tX cX AX lsX HX oX QX zx zb zr zk zm zo zg zK zP zD zA zS zQ zl
  have zo : sX.vm.findClass R_M = some mX.cls := zo
  have zl : lv_has lsX 1 [(0, .ref m0)] := zl
  refine lv_aload_n zx zb d_M_position_0 rfl (lv_at zl 0 rfl) ?_
  refine wv_get zx zb zg hin_M rfl zo zK zP 0 rfl 0 (by decide) rfl fl_M_41 rfl d_M_position_1 ?_
  exact ct_iret zQ zx zb zr zk zP zD zS d_M_position_4 rfl (⟨rfl, rfl⟩)
set_option maxRecDepth 20000 in
theorem c_M_sync (lL : Launch) (g : Gt) (m0 : Nat) (m1 : Nat) (m2 : Nat) (m3 : Nat) (m4 : Nat) (m5 : Nat) (m6 : Nat) (m7 : Nat) (m8 : Nat) (m9 : Nat) (m10 : Nat) (n : Nat) (sy : Nat) (k : Nat → Nat) (o : Nat → Int32) (ke : Nat → Nat) (va : Nat → Int32) (fl : Nat → Nat) (sg : Nat → Nat) (cp : Nat → Nat) (fs : Nat → Nat) (la : Nat → Nat) (nx : Nat) (hd : Nat → Nat) (dn : Nat) (tg : Nat) (bh : Nat) (hs : sy ≤ n) : Ct lL g y_M_sync (.code y_M_sync b_M_sync 2 (some .int)) 6 200 [.ref m0] (wM g m0 m1 m2 m3 m4 m5 m6 m7 m8 m9 m10 n sy k o ke va fl sg cp fs la nx hd dn tg bh) (exP (some (.int (nI (n - sy)))) (wM g m0 m1 m2 m3 m4 m5 m6 m7 m8 m9 m10 n n k o ke va fl sg cp fs la nx hd dn tg bh)) := by
  refine Ct.ofW (by decide) (Nat.le_of_ble_eq_true rfl) ?_
  intro pX eX sX mX aX bX tX cX AX lsX HX oX QX zx zb zr zk zm zo zg zK zP zD zA zS zQ zl
  have zo : sX.vm.findClass R_M = some mX.cls := zo
  have zl : lv_has lsX 2 [(0, .ref m0)] := zl
  refine lv_aload_n zx zb d_M_sync_0 rfl (lv_at zl 0 rfl) ?_
  refine wv_get zx zb zg hin_M rfl zo zK zP 0 rfl 0 (by decide) rfl fl_M_41 rfl d_M_sync_1 ?_
  refine lv_aload_n zx zb d_M_sync_4 rfl (lv_at zl 0 rfl) ?_
  refine wv_get zx zb zg hin_M rfl zo zK zP 0 rfl 1 (by decide) rfl fl_M_74 rfl d_M_sync_5 ?_
  refine wv_isub zx zb d_M_sync_8 (pk_sub (by omega)) ?_
  refine lv_istore_n (lv' := [(1, .int (nI (n - sy))), (0, .ref m0)]) zx zb d_M_sync_9 rfl zl (by decide) rfl (fun lsX zl => ?_)
  refine lv_aload_n zx zb d_M_sync_10 rfl (lv_at zl 1 rfl) ?_
  refine lv_aload_n zx zb d_M_sync_11 rfl (lv_at zl 1 rfl) ?_
  refine wv_get zx zb zg hin_M rfl zo zK zP 0 rfl 0 (by decide) rfl fl_M_41 rfl d_M_sync_12 ?_
  refine wv_put zx zb zg hin_M rfl t_M t_M_ok n_M zo zK zP zD zS 0 rfl 1 (by decide) rfl fl_M_74 rfl rfl rfl (Nat.le_of_ble_eq_true rfl) d_M_sync_15 (fun HX oX zP zD zS => ?_)
  have zP : va_P g.1 cls (wM g m0 m1 m2 m3 m4 m5 m6 m7 m8 m9 m10 n n k o ke va fl sg cp fs la nx hd dn tg bh) HX := zP
  have zD : va_D AX (wM g m0 m1 m2 m3 m4 m5 m6 m7 m8 m9 m10 n n k o ke va fl sg cp fs la nx hd dn tg bh) := zD
  refine lv_iload_n zx zb d_M_sync_18 rfl (lv_at zl 0 rfl) ?_
  exact ct_iret zQ zx zb zr zk zP zD zS d_M_sync_19 rfl (⟨rfl, rfl⟩)
