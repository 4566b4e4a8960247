/-! the reference's rows, as functions of its log -/
def nP (c : Nat) : Int32 := nI c - nI 1
theorem nP_dec (c : Nat) : nI c + Int32.ofInt (-1) = nP c := by
  unfold nP
  rw [Int32.sub_eq_add_neg]; rfl
theorem nP_s (c : Nat) : nP (c + 1) = nI c := by
  unfold nP
  rw [pk_sub (by omega)]; rfl
theorem nP_0 : nP 0 < 0 := by decide
theorem nP_lt {a : Nat} (h : a < 2 ^ 31) : nP 0 < nI a := by
  have e : (nP 0).toInt = -1 := by decide
  rw [Int32.lt_iff_toInt_lt, nI_toInt h, e]
  omega
theorem nat_cs (c : Nat) : c = 0 ∨ ∃ d, c = d + 1 := by
  cases c with
  | zero => exact Or.inl rfl
  | succ d => exact Or.inr ⟨d, rfl⟩
def oI : Option Nat → Int32
  | none => -1
  | some k => nI k
abbrev mEnd (k : Nat → Nat) (o : Nat → Int32) (t : Int32) (i : Nat) : Prop := k i = 3 ∨ (k i ≠ 0 ∧ o i = t)
abbrev mSet (k : Nat → Nat) (o : Nat → Int32) (t : Int32) (i : Nat) : Prop := k i = 0 ∧ o i = t
def opO (k : Nat → Nat) (o : Nat → Int32) (t : Int32) : Nat → Option Nat → Option Nat
  | 0, f => f
  | c + 1, f => if mEnd k o t c then f else opO k o t c (if mSet k o t c then some c else f)
def seL (k : Nat → Nat) (o : Nat → Int32) (t : Int32) : Nat → Nat → Nat
  | 0, f => f
  | c + 1, f => if mEnd k o t c then f else seL k o t c (f + (if mSet k o t c then 1 else 0))
def sfO (k : Nat → Nat) (o : Nat → Int32) (ke : Nat → Nat) (t : Int32) (ky : Nat) : Nat → Option Nat
  | 0 => none
  | c + 1 => if mEnd k o t c then none else if mSet k o t c ∧ ke c = ky then some c else sfO k o ke t ky c
def vaO (k : Nat → Nat) (o : Nat → Int32) (ke : Nat → Nat) (va : Nat → Int32) (ky : Nat) : Nat → Int32
  | 0 => nI 0
  | c + 1 => if k c = 1 then (match sfO k o ke (o c) ky c with | some j => va j | none => vaO k o ke va ky c) else vaO k o ke va ky c
theorem seL_le (k : Nat → Nat) (o : Nat → Int32) (t : Int32) : ∀ (c f : Nat), seL k o t c f ≤ f + c
  | 0, f => Nat.le_refl _
  | c + 1, f => by
    have := seL_le k o t c (f + (if mSet k o t c then 1 else 0))
    show (if mEnd k o t c then f else seL k o t c (f + (if mSet k o t c then 1 else 0))) ≤ f + (c + 1)
    have h2 : (if mSet k o t c then 1 else 0) ≤ 1 := by split <;> omega
    split
    · omega
    · omega
theorem sfO_lt {k : Nat → Nat} {o : Nat → Int32} {ke : Nat → Nat} {t : Int32} {ky : Nat} : ∀ {c j : Nat}, sfO k o ke t ky c = some j → j < c
  | 0, j, h => by cases h
  | c + 1, j, h => by
    unfold sfO at h
    split at h
    · cases h
    · split at h
      · cases h; omega
      · have := sfO_lt h; omega
theorem opO_lt {k : Nat → Nat} {o : Nat → Int32} {t : Int32} : ∀ {c : Nat} {f : Option Nat} {j : Nat}, opO k o t c f = some j → j < c ∨ f = some j
  | 0, f, j, h => Or.inr h
  | c + 1, f, j, h => by
    unfold opO at h
    split at h
    · exact Or.inr h
    · rcases opO_lt h with h1 | h1
      · exact Or.inl (by omega)
      · split at h1
        · cases h1; exact Or.inl (by omega)
        · exact Or.inr h1
set_option maxRecDepth 20000 in
theorem c_M_add (lL : Launch) (g : Gt) (m0 : Nat) (m1 : Nat) (m2 : Nat) (m3 : Nat) (m4 : Nat) (m5 : Nat) (m6 : Nat) (m7 : Nat) (m8 : Nat) (m9 : Nat) (m10 : Nat) (n : Nat) (sy : Nat) (k : Nat → Nat) (o : Nat → Int32) (ke : Nat → Nat) (va : Nat → Int32) (fl : Nat → Nat) (sg : Nat → Nat) (cp : Nat → Nat) (fs : Nat → Nat) (la : Nat → Nat) (nx : Nat) (hd : Nat → Nat) (dn : Nat) (tg : Nat) (bh : Nat) (kd : Nat) (ow : Int32) (ky : Nat) (vl : Int32) (hn : n < 520) : Ct lL g y_M_add (.code y_M_add b_M_add 5 (some .int)) 0 0 [.ref m0, .int (nI kd), .int ow, .int (nI ky), .int vl] (wM g m0 m1 m2 m3 m4 m5 m6 m7 m8 m9 m10 n sy k o ke va fl sg cp fs la nx hd dn tg bh) (exP (some (.int (nI (n + 1)))) (wM g m0 m1 m2 m3 m4 m5 m6 m7 m8 m9 m10 (n + 1) sy (va_up k n kd) (upd o n ow) (va_up ke n ky) (upd va n vl) fl sg cp fs la nx hd dn tg bh)) := by
  refine Ct.ofW (by decide) (Nat.le_of_ble_eq_true rfl) ?_
  intro pX eX sX mX aX bX tX cX AX lsX HX oX QX zx zb zr zk zm zo zg zK zP zD zA zS zQ zl
  have zo : sX.vm.findClass R_M = some mX.cls := zo
  have zl : lv_has lsX 5 [(0, .ref m0), (1, .int (nI kd)), (2, .int ow), (3, .int (nI ky)), (4, .int vl)] := zl
  refine lv_aload_n zx zb d_M_add_0 rfl (lv_at zl 0 rfl) ?_
  refine wv_get zx zb zg hin_M rfl zo zK zP 0 rfl 2 (by decide) rfl fl_M_7 rfl d_M_add_1 ?_
  refine lv_aload_n zx zb d_M_add_4 rfl (lv_at zl 0 rfl) ?_
  refine wv_get zx zb zg hin_M rfl zo zK zP 0 rfl 0 (by decide) rfl fl_M_41 rfl d_M_add_5 ?_
  refine lv_iload_n zx zb d_M_add_8 rfl (lv_at zl 1 rfl) ?_
  refine wv_iastN zx zb zK zP zD zS 1 rfl (by omega) (by decide) d_M_add_9 (fun HX oX zP zD zS => ?_)
  have zP : va_P g.1 cls (wM g m0 m1 m2 m3 m4 m5 m6 m7 m8 m9 m10 n sy (va_up k n kd) o ke va fl sg cp fs la nx hd dn tg bh) HX := zP
  have zD : va_D AX (wM g m0 m1 m2 m3 m4 m5 m6 m7 m8 m9 m10 n sy (va_up k n kd) o ke va fl sg cp fs la nx hd dn tg bh) := zD
  refine lv_aload_n zx zb d_M_add_10 rfl (lv_at zl 0 rfl) ?_
  refine wv_get zx zb zg hin_M rfl zo zK zP 0 rfl 3 (by decide) rfl fl_M_13 rfl d_M_add_11 ?_
  refine lv_aload_n zx zb d_M_add_14 rfl (lv_at zl 0 rfl) ?_
  refine wv_get zx zb zg hin_M rfl zo zK zP 0 rfl 0 (by decide) rfl fl_M_41 rfl d_M_add_15 ?_
  refine lv_iload_n zx zb d_M_add_18 rfl (lv_at zl 2 rfl) ?_
  refine wv_iast zx zb zK zP zD zS 2 rfl (by omega) (by decide) d_M_add_19 (fun HX oX zP zD zS => ?_)
  have zP : va_P g.1 cls (wM g m0 m1 m2 m3 m4 m5 m6 m7 m8 m9 m10 n sy (va_up k n kd) (upd o n ow) ke va fl sg cp fs la nx hd dn tg bh) HX := zP
  have zD : va_D AX (wM g m0 m1 m2 m3 m4 m5 m6 m7 m8 m9 m10 n sy (va_up k n kd) (upd o n ow) ke va fl sg cp fs la nx hd dn tg bh) := zD
  refine lv_aload_n zx zb d_M_add_20 rfl (lv_at zl 0 rfl) ?_
  refine wv_get zx zb zg hin_M rfl zo zK zP 0 rfl 4 (by decide) rfl fl_M_16 rfl d_M_add_21 ?_
  refine lv_aload_n zx zb d_M_add_24 rfl (lv_at zl 0 rfl) ?_
  refine wv_get zx zb zg hin_M rfl zo zK zP 0 rfl 0 (by decide) rfl fl_M_41 rfl d_M_add_25 ?_
  refine lv_iload_n zx zb d_M_add_28 rfl (lv_at zl 3 rfl) ?_
  refine wv_iastN zx zb zK zP zD zS 3 rfl (by omega) (by decide) d_M_add_29 (fun HX oX zP zD zS => ?_)
  have zP : va_P g.1 cls (wM g m0 m1 m2 m3 m4 m5 m6 m7 m8 m9 m10 n sy (va_up k n kd) (upd o n ow) (va_up ke n ky) va fl sg cp fs la nx hd dn tg bh) HX := zP
  have zD : va_D AX (wM g m0 m1 m2 m3 m4 m5 m6 m7 m8 m9 m10 n sy (va_up k n kd) (upd o n ow) (va_up ke n ky) va fl sg cp fs la nx hd dn tg bh) := zD
  refine lv_aload_n zx zb d_M_add_30 rfl (lv_at zl 0 rfl) ?_
  refine wv_get zx zb zg hin_M rfl zo zK zP 0 rfl 5 (by decide) rfl fl_M_19 rfl d_M_add_31 ?_
  refine lv_aload_n zx zb d_M_add_34 rfl (lv_at zl 0 rfl) ?_
  refine wv_get zx zb zg hin_M rfl zo zK zP 0 rfl 0 (by decide) rfl fl_M_41 rfl d_M_add_35 ?_
  refine lv_iload zx zb d_M_add_38 (lv_at zl 4 rfl) ?_
  refine wv_iast zx zb zK zP zD zS 4 rfl (by omega) (by decide) d_M_add_40 (fun HX oX zP zD zS => ?_)
  have zP : va_P g.1 cls (wM g m0 m1 m2 m3 m4 m5 m6 m7 m8 m9 m10 n sy (va_up k n kd) (upd o n ow) (va_up ke n ky) (upd va n vl) fl sg cp fs la nx hd dn tg bh) HX := zP
  have zD : va_D AX (wM g m0 m1 m2 m3 m4 m5 m6 m7 m8 m9 m10 n sy (va_up k n kd) (upd o n ow) (va_up ke n ky) (upd va n vl) fl sg cp fs la nx hd dn tg bh) := zD
  refine lv_aload_n zx zb d_M_add_41 rfl (lv_at zl 0 rfl) ?_
  refine lv_dup zx zb d_M_add_42 rfl ?_
  refine wv_get zx zb zg hin_M rfl zo zK zP 0 rfl 0 (by decide) rfl fl_M_41 rfl d_M_add_43 ?_
  refine lv_iconst (v := (nI 1)) zx zb d_M_add_46 (by decide) ?_
  refine wv_iadd zx zb d_M_add_47 (nI_add _ _) ?_
  refine wv_put zx zb zg hin_M rfl t_M t_M_ok n_M zo zK zP zD zS 0 rfl 0 (by decide) rfl fl_M_41 rfl rfl rfl (Nat.le_of_ble_eq_true rfl) d_M_add_48 (fun HX oX zP zD zS => ?_)
  have zP : va_P g.1 cls (wM g m0 m1 m2 m3 m4 m5 m6 m7 m8 m9 m10 (n + 1) sy (va_up k n kd) (upd o n ow) (va_up ke n ky) (upd va n vl) fl sg cp fs la nx hd dn tg bh) HX := zP
  have zD : va_D AX (wM g m0 m1 m2 m3 m4 m5 m6 m7 m8 m9 m10 (n + 1) sy (va_up k n kd) (upd o n ow) (va_up ke n ky) (upd va n vl) fl sg cp fs la nx hd dn tg bh) := zD
  refine lv_aload_n zx zb d_M_add_51 rfl (lv_at zl 0 rfl) ?_
  refine wv_get zx zb zg hin_M rfl zo zK zP 0 rfl 0 (by decide) rfl fl_M_41 rfl d_M_add_52 ?_
  exact ct_iret zQ zx zb zr zk zP zD zS d_M_add_55 rfl (⟨rfl, rfl⟩)
set_option maxRecDepth 20000 in
theorem c_M_ends_t (lL : Launch) (g : Gt) (m0 : Nat) (m1 : Nat) (m2 : Nat) (m3 : Nat) (m4 : Nat) (m5 : Nat) (m6 : Nat) (m7 : Nat) (m8 : Nat) (m9 : Nat) (m10 : Nat) (n : Nat) (sy : Nat) (k : Nat → Nat) (o : Nat → Int32) (ke : Nat → Nat) (va : Nat → Int32) (fl : Nat → Nat) (sg : Nat → Nat) (cp : Nat → Nat) (fs : Nat → Nat) (la : Nat → Nat) (nx : Nat) (hd : Nat → Nat) (dn : Nat) (tg : Nat) (bh : Nat) (i : Nat) (t : Int32) (hi5 : i < 520) (hk4 : k i < 4) (he : mEnd k o t i) : Ct lL g y_M_ends (.code y_M_ends b_M_ends 3 (some .boolean)) 0 0 [.ref m0, .int (nI i), .int t] (wM g m0 m1 m2 m3 m4 m5 m6 m7 m8 m9 m10 n sy k o ke va fl sg cp fs la nx hd dn tg bh) (exP (some (.int (nI 1))) (wM g m0 m1 m2 m3 m4 m5 m6 m7 m8 m9 m10 n sy k o ke va fl sg cp fs la nx hd dn tg bh)) := by
  refine Ct.ofW (by decide) (Nat.le_of_ble_eq_true rfl) ?_
  intro pX eX sX mX aX bX tX cX AX lsX HX oX QX zx zb zr zk zm zo zg zK zP zD zA zS zQ zl
  have zo : sX.vm.findClass R_M = some mX.cls := zo
  have zl : lv_has lsX 3 [(0, .ref m0), (1, .int (nI i)), (2, .int t)] := zl
  rcases he with he | he
  · have he2 := he
    refine lv_aload_n zx zb d_M_ends_0 rfl (lv_at zl 0 rfl) ?_
    refine wv_get zx zb zg hin_M rfl zo zK zP 0 rfl 2 (by decide) rfl fl_M_7 rfl d_M_ends_1 ?_
    refine lv_iload_n zx zb d_M_ends_4 rfl (lv_at zl 1 rfl) ?_
    refine wv_ialdN zx zb zK zP 1 rfl (by omega) (by decide) d_M_ends_5 ?_
    refine lv_iconst (v := (nI 3)) zx zb d_M_ends_6 (by decide) ?_
    refine wn_ceq_T (tgt := 29) zx zb d_M_ends_7 (by decide) (by omega) (by omega) (by omega) ?_
    refine lv_iconst (v := (nI 1)) zx zb d_M_ends_29 (by decide) ?_
    refine lv_goto (tgt := 34) zx zb d_M_ends_30 (by decide) ?_
    exact ct_zret zQ zx zb zr zk zP zD zS d_M_ends_34 rfl (by decide) (⟨rfl, rfl⟩)
  · obtain ⟨he1, he2⟩ := he
    refine lv_aload_n zx zb d_M_ends_0 rfl (lv_at zl 0 rfl) ?_
    by_cases hk3 : k i = 3
    · have hk5 := hk3
      refine wv_get zx zb zg hin_M rfl zo zK zP 0 rfl 2 (by decide) rfl fl_M_7 rfl d_M_ends_1 ?_
      refine lv_iload_n zx zb d_M_ends_4 rfl (lv_at zl 1 rfl) ?_
      refine wv_ialdN zx zb zK zP 1 rfl (by omega) (by decide) d_M_ends_5 ?_
      refine lv_iconst (v := (nI 3)) zx zb d_M_ends_6 (by decide) ?_
      refine wn_ceq_T (tgt := 29) zx zb d_M_ends_7 (by decide) (by omega) (by omega) (by omega) ?_
      refine lv_iconst (v := (nI 1)) zx zb d_M_ends_29 (by decide) ?_
      refine lv_goto (tgt := 34) zx zb d_M_ends_30 (by decide) ?_
      exact ct_zret zQ zx zb zr zk zP zD zS d_M_ends_34 rfl (by decide) (⟨rfl, rfl⟩)
    · have hk5 := hk3
      refine wv_get zx zb zg hin_M rfl zo zK zP 0 rfl 2 (by decide) rfl fl_M_7 rfl d_M_ends_1 ?_
      refine lv_iload_n zx zb d_M_ends_4 rfl (lv_at zl 1 rfl) ?_
      refine wv_ialdN zx zb zK zP 1 rfl (by omega) (by decide) d_M_ends_5 ?_
      refine lv_iconst (v := (nI 3)) zx zb d_M_ends_6 (by decide) ?_
      refine wn_ceq_F (tgt := 29) zx zb d_M_ends_7 (by decide) (by omega) (by omega) (by omega) ?_
      refine lv_aload_n zx zb d_M_ends_10 rfl (lv_at zl 0 rfl) ?_
      refine wv_get zx zb zg hin_M rfl zo zK zP 0 rfl 2 (by decide) rfl fl_M_7 rfl d_M_ends_11 ?_
      refine lv_iload_n zx zb d_M_ends_14 rfl (lv_at zl 1 rfl) ?_
      refine wv_ialdN zx zb zK zP 1 rfl (by omega) (by decide) d_M_ends_15 ?_
      refine wn_ieq_F (tgt := 33) zx zb d_M_ends_16 (by decide) (by omega) (by omega) ?_
      refine lv_aload_n zx zb d_M_ends_19 rfl (lv_at zl 0 rfl) ?_
      refine wv_get zx zb zg hin_M rfl zo zK zP 0 rfl 3 (by decide) rfl fl_M_13 rfl d_M_ends_20 ?_
      refine lv_iload_n zx zb d_M_ends_23 rfl (lv_at zl 1 rfl) ?_
      refine wv_iald zx zb zK zP 2 rfl (by omega) (by decide) d_M_ends_24 ?_
      refine lv_iload_n zx zb d_M_ends_25 rfl (lv_at zl 2 rfl) ?_
      refine lv_icmp_ne (tgt := 33) zx zb d_M_ends_26 (by decide) (fun h => absurd h (fun h => h he2)) (fun _ => ?_)
      refine lv_iconst (v := (nI 1)) zx zb d_M_ends_29 (by decide) ?_
      refine lv_goto (tgt := 34) zx zb d_M_ends_30 (by decide) ?_
      exact ct_zret zQ zx zb zr zk zP zD zS d_M_ends_34 rfl (by decide) (⟨rfl, rfl⟩)
set_option maxRecDepth 20000 in
theorem c_M_ends_f (lL : Launch) (g : Gt) (m0 : Nat) (m1 : Nat) (m2 : Nat) (m3 : Nat) (m4 : Nat) (m5 : Nat) (m6 : Nat) (m7 : Nat) (m8 : Nat) (m9 : Nat) (m10 : Nat) (n : Nat) (sy : Nat) (k : Nat → Nat) (o : Nat → Int32) (ke : Nat → Nat) (va : Nat → Int32) (fl : Nat → Nat) (sg : Nat → Nat) (cp : Nat → Nat) (fs : Nat → Nat) (la : Nat → Nat) (nx : Nat) (hd : Nat → Nat) (dn : Nat) (tg : Nat) (bh : Nat) (i : Nat) (t : Int32) (hi5 : i < 520) (hk4 : k i < 4) (he : ¬ mEnd k o t i) : Ct lL g y_M_ends (.code y_M_ends b_M_ends 3 (some .boolean)) 0 0 [.ref m0, .int (nI i), .int t] (wM g m0 m1 m2 m3 m4 m5 m6 m7 m8 m9 m10 n sy k o ke va fl sg cp fs la nx hd dn tg bh) (exP (some (.int (nI 0))) (wM g m0 m1 m2 m3 m4 m5 m6 m7 m8 m9 m10 n sy k o ke va fl sg cp fs la nx hd dn tg bh)) := by
  refine Ct.ofW (by decide) (Nat.le_of_ble_eq_true rfl) ?_
  intro pX eX sX mX aX bX tX cX AX lsX HX oX QX zx zb zr zk zm zo zg zK zP zD zA zS zQ zl
  have zo : sX.vm.findClass R_M = some mX.cls := zo
  have zl : lv_has lsX 3 [(0, .ref m0), (1, .int (nI i)), (2, .int t)] := zl
  have hk3 : ¬ k i = 3 := fun h => he (Or.inl h)
  by_cases hk0 : k i = 0
  · have hk5 := hk0
    refine lv_aload_n zx zb d_M_ends_0 rfl (lv_at zl 0 rfl) ?_
    refine wv_get zx zb zg hin_M rfl zo zK zP 0 rfl 2 (by decide) rfl fl_M_7 rfl d_M_ends_1 ?_
    refine lv_iload_n zx zb d_M_ends_4 rfl (lv_at zl 1 rfl) ?_
    refine wv_ialdN zx zb zK zP 1 rfl (by omega) (by decide) d_M_ends_5 ?_
    refine lv_iconst (v := (nI 3)) zx zb d_M_ends_6 (by decide) ?_
    refine wn_ceq_F (tgt := 29) zx zb d_M_ends_7 (by decide) (by omega) (by omega) (by omega) ?_
    refine lv_aload_n zx zb d_M_ends_10 rfl (lv_at zl 0 rfl) ?_
    refine wv_get zx zb zg hin_M rfl zo zK zP 0 rfl 2 (by decide) rfl fl_M_7 rfl d_M_ends_11 ?_
    refine lv_iload_n zx zb d_M_ends_14 rfl (lv_at zl 1 rfl) ?_
    refine wv_ialdN zx zb zK zP 1 rfl (by omega) (by decide) d_M_ends_15 ?_
    refine wn_ieq_T (tgt := 33) zx zb d_M_ends_16 (by decide) (by omega) (by omega) ?_
    refine lv_iconst (v := (nI 0)) zx zb d_M_ends_33 (by decide) ?_
    exact ct_zret zQ zx zb zr zk zP zD zS d_M_ends_34 rfl (by decide) (⟨rfl, rfl⟩)
  · have ho5 : ¬ o i = t := fun h => he (Or.inr ⟨hk0, h⟩)
    refine lv_aload_n zx zb d_M_ends_0 rfl (lv_at zl 0 rfl) ?_
    refine wv_get zx zb zg hin_M rfl zo zK zP 0 rfl 2 (by decide) rfl fl_M_7 rfl d_M_ends_1 ?_
    refine lv_iload_n zx zb d_M_ends_4 rfl (lv_at zl 1 rfl) ?_
    refine wv_ialdN zx zb zK zP 1 rfl (by omega) (by decide) d_M_ends_5 ?_
    refine lv_iconst (v := (nI 3)) zx zb d_M_ends_6 (by decide) ?_
    refine wn_ceq_F (tgt := 29) zx zb d_M_ends_7 (by decide) (by omega) (by omega) (by omega) ?_
    refine lv_aload_n zx zb d_M_ends_10 rfl (lv_at zl 0 rfl) ?_
    refine wv_get zx zb zg hin_M rfl zo zK zP 0 rfl 2 (by decide) rfl fl_M_7 rfl d_M_ends_11 ?_
    refine lv_iload_n zx zb d_M_ends_14 rfl (lv_at zl 1 rfl) ?_
    refine wv_ialdN zx zb zK zP 1 rfl (by omega) (by decide) d_M_ends_15 ?_
    refine wn_ieq_F (tgt := 33) zx zb d_M_ends_16 (by decide) (by omega) (by omega) ?_
    refine lv_aload_n zx zb d_M_ends_19 rfl (lv_at zl 0 rfl) ?_
    refine wv_get zx zb zg hin_M rfl zo zK zP 0 rfl 3 (by decide) rfl fl_M_13 rfl d_M_ends_20 ?_
    refine lv_iload_n zx zb d_M_ends_23 rfl (lv_at zl 1 rfl) ?_
    refine wv_iald zx zb zK zP 2 rfl (by omega) (by decide) d_M_ends_24 ?_
    refine lv_iload_n zx zb d_M_ends_25 rfl (lv_at zl 2 rfl) ?_
    refine lv_icmp_ne (tgt := 33) zx zb d_M_ends_26 (by decide) (fun _ => ?_) (fun h => absurd h (ho5))
    refine lv_iconst (v := (nI 0)) zx zb d_M_ends_33 (by decide) ?_
    exact ct_zret zQ zx zb zr zk zP zD zS d_M_ends_34 rfl (by decide) (⟨rfl, rfl⟩)
set_option maxRecDepth 20000 in
theorem c_M_opened (lL : Launch) (g : Gt) (m0 : Nat) (m1 : Nat) (m2 : Nat) (m3 : Nat) (m4 : Nat) (m5 : Nat) (m6 : Nat) (m7 : Nat) (m8 : Nat) (m9 : Nat) (m10 : Nat) (n : Nat) (sy : Nat) (k : Nat → Nat) (o : Nat → Int32) (ke : Nat → Nat) (va : Nat → Int32) (fl : Nat → Nat) (sg : Nat → Nat) (cp : Nat → Nat) (fs : Nat → Nat) (la : Nat → Nat) (nx : Nat) (hd : Nat → Nat) (dn : Nat) (tg : Nat) (bh : Nat) (t : Int32) (at_ : Nat) (hat : at_ ≤ 520) (hk4 : ∀ i, i < at_ → k i < 4) : Ct lL g y_M_opened (.code y_M_opened b_M_opened 5 (some .int)) 1 22 [.ref m0, .int t, .int (nI at_)] (wM g m0 m1 m2 m3 m4 m5 m6 m7 m8 m9 m10 n sy k o ke va fl sg cp fs la nx hd dn tg bh) (exP (some (.int (oI (opO k o t at_ none)))) (wM g m0 m1 m2 m3 m4 m5 m6 m7 m8 m9 m10 n sy k o ke va fl sg cp fs la nx hd dn tg bh)) := by
  refine Ct.ofW (by decide) (Nat.le_of_ble_eq_true rfl) ?_
  intro pX eX sX mX aX bX tX cX AX lsX HX oX QX zx zb zr zk zm zo zg zK zP zD zA zS zQ zl
  have zo : sX.vm.findClass R_M = some mX.cls := zo
  have zl : lv_has lsX 5 [(0, .ref m0), (1, .int t), (2, .int (nI at_))] := zl
  refine lv_iconst (v := (-1)) zx zb d_M_opened_0 (by decide) ?_
  refine lv_istore_n (lv' := [(3, .int (-1)), (0, .ref m0), (1, .int t), (2, .int (nI at_))]) zx zb d_M_opened_1 rfl zl (by decide) rfl (fun lsX zl => ?_)
  refine lv_iload_n zx zb d_M_opened_2 rfl (lv_at zl 3 rfl) ?_
  refine lv_iconst (v := (nI 1)) zx zb d_M_opened_3 (by decide) ?_
  refine wv_isub (z := nP at_) zx zb d_M_opened_4 rfl ?_
  refine lv_istore (lv' := [(4, .int (nP at_)), (3, .int (-1)), (0, .ref m0), (1, .int t), (2, .int (nI at_))]) zx zb d_M_opened_5 zl (by decide) rfl (fun lsX zl => ?_)
  have loop7 : ∀ (kk : Nat) (c : Nat) (f : Option Nat), kk = c → (c ≤ at_) → (opO k o t c f = opO k o t at_ none) → ∀ (lsX : Array Slot) (HX : Heap) (oX : List Loc), lv_has lsX 5 [(0, .ref m0), (1, .int t), (3, .int (oI f)), (4, .int (nP c))] → va_P g.1 cls (wM g m0 m1 m2 m3 m4 m5 m6 m7 m8 m9 m10 n sy k o ke va fl sg cp fs la nx hd dn tg bh) HX → va_D AX (wM g m0 m1 m2 m3 m4 m5 m6 m7 m8 m9 m10 n sy k o ke va fl sg cp fs la nx hd dn tg bh) → va_S AX sX.heap HX oX → W pX lL eX (rmL 1 22) sX mX aX bX tX cX HX oX 0 0 QX (F0 mX 7 lsX []) := by
    intro kk
    induction kk using Nat.strongRecOn with
    | ind kk ih_loop7 =>
      intro c f hkk hc5 hi lsX HX oX zl zP zD zS
      rcases nat_cs c with rfl | ⟨c, rfl⟩
      · have hi : f = opO k o t at_ none := hi
        refine lv_iload zx zb d_M_opened_7 (lv_at zl 3 rfl) ?_
        refine lv_if_lt (tgt := 58) zx zb d_M_opened_9 (by decide) (fun _ => ?_) (fun h => absurd h (fun h => h nP_0))
        refine lv_iload_n zx zb d_M_opened_58 rfl (lv_at zl 2 rfl) ?_
        exact ct_iret zQ zx zb zr zk zP zD zS d_M_opened_59 rfl (⟨by rw [hi], rfl⟩)
      · have hkc := hk4 c (by omega)
        have zl : lv_has lsX 5 [(0, .ref m0), (1, .int t), (3, .int (oI f)), (4, .int (nI c))] := by rw [nP_s] at zl; exact zl
        refine lv_iload zx zb d_M_opened_7 (lv_at zl 3 rfl) ?_
        refine wn_ilt_F (tgt := 58) zx zb d_M_opened_9 (by decide) (by omega) (trivial) ?_
        by_cases he : mEnd k o t c
        · have hi : f = opO k o t at_ none := (if_pos he).symm.trans hi
          refine lv_aload_n zx zb d_M_opened_12 rfl (lv_at zl 0 rfl) ?_
          refine lv_iload zx zb d_M_opened_13 (lv_at zl 3 rfl) ?_
          refine lv_iload_n zx zb d_M_opened_15 rfl (lv_at zl 1 rfl) ?_
          refine ct_V (ws' := wM g m0 m1 m2 m3 m4 m5 m6 m7 m8 m9 m10 n sy k o ke va fl sg cp fs la nx hd dn tg bh) (rest := []) (st1 := [.int (nI 1)]) zx zb zm zo zg zK zP zD zS zA zl.1 (c_M_ends_t lL g m0 m1 m2 m3 m4 m5 m6 m7 m8 m9 m10 n sy k o ke va fl sg cp fs la nx hd dn tg bh c t (by omega) (hk4 c (by omega)) he) ok_M_ends ov_M_ends ml_M_45 (by decide) 0 7 rfl rfl rfl [0, 1, 2, 3, 4, 5, 6, 7, 8, 9, 10] [] 11 (by decide) rfl rfl rfl rfl (by decide) rfl rfl rfl (Nat.le_of_ble_eq_true rfl) d_M_opened_16 (fun HX oX zP zD zS => ?_)
          refine wn_ieq_F (tgt := 24) zx zb d_M_opened_19 (by decide) (by omega) (by omega) ?_
          refine lv_iload_n zx zb d_M_opened_22 rfl (lv_at zl 2 rfl) ?_
          exact ct_iret zQ zx zb zr zk zP zD zS d_M_opened_23 rfl (⟨by rw [hi], rfl⟩)
        · have hi : opO k o t c (if mSet k o t c then some c else f) = opO k o t at_ none := (if_neg he).symm.trans hi
          refine lv_aload_n zx zb d_M_opened_12 rfl (lv_at zl 0 rfl) ?_
          by_cases hoc : o c = t
          · have hoc2 := hoc
            refine lv_iload zx zb d_M_opened_13 (lv_at zl 3 rfl) ?_
            by_cases hkz : k c = 0
            · rw [if_pos ⟨hkz, hoc⟩] at hi
              refine lv_iload_n zx zb d_M_opened_15 rfl (lv_at zl 1 rfl) ?_
              refine ct_V (ws' := wM g m0 m1 m2 m3 m4 m5 m6 m7 m8 m9 m10 n sy k o ke va fl sg cp fs la nx hd dn tg bh) (rest := []) (st1 := [.int (nI 0)]) zx zb zm zo zg zK zP zD zS zA zl.1 (c_M_ends_f lL g m0 m1 m2 m3 m4 m5 m6 m7 m8 m9 m10 n sy k o ke va fl sg cp fs la nx hd dn tg bh c t (by omega) (hk4 c (by omega)) he) ok_M_ends ov_M_ends ml_M_45 (by decide) 0 7 rfl rfl rfl [0, 1, 2, 3, 4, 5, 6, 7, 8, 9, 10] [] 11 (by decide) rfl rfl rfl rfl (by decide) rfl rfl rfl (Nat.le_of_ble_eq_true rfl) d_M_opened_16 (fun HX oX zP zD zS => ?_)
              refine wn_ieq_T (tgt := 24) zx zb d_M_opened_19 (by decide) (by omega) (by omega) ?_
              refine lv_aload_n zx zb d_M_opened_24 rfl (lv_at zl 0 rfl) ?_
              refine wv_get zx zb zg hin_M rfl zo zK zP 0 rfl 3 (by decide) rfl fl_M_13 rfl d_M_opened_25 ?_
              refine lv_iload zx zb d_M_opened_28 (lv_at zl 3 rfl) ?_
              refine wv_iald zx zb zK zP 2 rfl (by omega) (by decide) d_M_opened_30 ?_
              refine lv_iload_n zx zb d_M_opened_31 rfl (lv_at zl 1 rfl) ?_
              refine lv_icmp_ne (tgt := 50) zx zb d_M_opened_32 (by decide) (fun h => absurd h (fun h => h hoc)) (fun _ => ?_)
              refine lv_aload_n zx zb d_M_opened_35 rfl (lv_at zl 0 rfl) ?_
              refine wv_get zx zb zg hin_M rfl zo zK zP 0 rfl 2 (by decide) rfl fl_M_7 rfl d_M_opened_36 ?_
              refine lv_iload zx zb d_M_opened_39 (lv_at zl 3 rfl) ?_
              refine wv_ialdN zx zb zK zP 1 rfl (by omega) (by decide) d_M_opened_41 ?_
              refine wn_ine_F (tgt := 50) zx zb d_M_opened_42 (by decide) (by omega) (by omega) ?_
              refine lv_iload zx zb d_M_opened_45 (lv_at zl 3 rfl) ?_
              refine lv_goto (tgt := 51) zx zb d_M_opened_47 (by decide) ?_
              refine lv_istore_n (lv' := [(3, .int (nI c)), (0, .ref m0), (1, .int t), (4, .int (nI c))]) zx zb d_M_opened_51 rfl zl (by decide) rfl (fun lsX zl => ?_)
              refine lv_iinc (k := 3) (lv' := [(4, .int (nP c)), (3, .int (nI c)), (0, .ref m0), (1, .int t)]) zx zb d_M_opened_52 zl rfl (nP_dec _) (by decide) rfl (fun lsX zl => ?_)
              refine lv_goto (tgt := 7) zx zb d_M_opened_55 (by decide) ?_
              exact ih_loop7 _ (by omega) c (some c) rfl (by omega) hi lsX HX oX (lv_sub zl [2, 3, 1, 0] rfl) zP zD zS
            · rw [if_neg (fun h => hkz h.1)] at hi
              refine lv_iload_n zx zb d_M_opened_15 rfl (lv_at zl 1 rfl) ?_
              refine ct_V (ws' := wM g m0 m1 m2 m3 m4 m5 m6 m7 m8 m9 m10 n sy k o ke va fl sg cp fs la nx hd dn tg bh) (rest := []) (st1 := [.int (nI 0)]) zx zb zm zo zg zK zP zD zS zA zl.1 (c_M_ends_f lL g m0 m1 m2 m3 m4 m5 m6 m7 m8 m9 m10 n sy k o ke va fl sg cp fs la nx hd dn tg bh c t (by omega) (hk4 c (by omega)) he) ok_M_ends ov_M_ends ml_M_45 (by decide) 0 7 rfl rfl rfl [0, 1, 2, 3, 4, 5, 6, 7, 8, 9, 10] [] 11 (by decide) rfl rfl rfl rfl (by decide) rfl rfl rfl (Nat.le_of_ble_eq_true rfl) d_M_opened_16 (fun HX oX zP zD zS => ?_)
              refine wn_ieq_T (tgt := 24) zx zb d_M_opened_19 (by decide) (by omega) (by omega) ?_
              refine lv_aload_n zx zb d_M_opened_24 rfl (lv_at zl 0 rfl) ?_
              refine wv_get zx zb zg hin_M rfl zo zK zP 0 rfl 3 (by decide) rfl fl_M_13 rfl d_M_opened_25 ?_
              refine lv_iload zx zb d_M_opened_28 (lv_at zl 3 rfl) ?_
              refine wv_iald zx zb zK zP 2 rfl (by omega) (by decide) d_M_opened_30 ?_
              refine lv_iload_n zx zb d_M_opened_31 rfl (lv_at zl 1 rfl) ?_
              refine lv_icmp_ne (tgt := 50) zx zb d_M_opened_32 (by decide) (fun h => absurd h (fun h => h hoc)) (fun _ => ?_)
              refine lv_aload_n zx zb d_M_opened_35 rfl (lv_at zl 0 rfl) ?_
              refine wv_get zx zb zg hin_M rfl zo zK zP 0 rfl 2 (by decide) rfl fl_M_7 rfl d_M_opened_36 ?_
              refine lv_iload zx zb d_M_opened_39 (lv_at zl 3 rfl) ?_
              refine wv_ialdN zx zb zK zP 1 rfl (by omega) (by decide) d_M_opened_41 ?_
              refine wn_ine_T (tgt := 50) zx zb d_M_opened_42 (by decide) (by omega) (by omega) ?_
              refine lv_iload_n zx zb d_M_opened_50 rfl (lv_at zl 2 rfl) ?_
              refine lv_istore_n (lv' := [(3, .int (oI f)), (0, .ref m0), (1, .int t), (4, .int (nI c))]) zx zb d_M_opened_51 rfl zl (by decide) rfl (fun lsX zl => ?_)
              refine lv_iinc (k := 3) (lv' := [(4, .int (nP c)), (3, .int (oI f)), (0, .ref m0), (1, .int t)]) zx zb d_M_opened_52 zl rfl (nP_dec _) (by decide) rfl (fun lsX zl => ?_)
              refine lv_goto (tgt := 7) zx zb d_M_opened_55 (by decide) ?_
              exact ih_loop7 _ (by omega) c f rfl (by omega) hi lsX HX oX (lv_sub zl [2, 3, 1, 0] rfl) zP zD zS
          · rw [if_neg (fun h => hoc h.2)] at hi
            refine lv_iload zx zb d_M_opened_13 (lv_at zl 3 rfl) ?_
            refine lv_iload_n zx zb d_M_opened_15 rfl (lv_at zl 1 rfl) ?_
            refine ct_V (ws' := wM g m0 m1 m2 m3 m4 m5 m6 m7 m8 m9 m10 n sy k o ke va fl sg cp fs la nx hd dn tg bh) (rest := []) (st1 := [.int (nI 0)]) zx zb zm zo zg zK zP zD zS zA zl.1 (c_M_ends_f lL g m0 m1 m2 m3 m4 m5 m6 m7 m8 m9 m10 n sy k o ke va fl sg cp fs la nx hd dn tg bh c t (by omega) (hk4 c (by omega)) he) ok_M_ends ov_M_ends ml_M_45 (by decide) 0 7 rfl rfl rfl [0, 1, 2, 3, 4, 5, 6, 7, 8, 9, 10] [] 11 (by decide) rfl rfl rfl rfl (by decide) rfl rfl rfl (Nat.le_of_ble_eq_true rfl) d_M_opened_16 (fun HX oX zP zD zS => ?_)
            refine wn_ieq_T (tgt := 24) zx zb d_M_opened_19 (by decide) (by omega) (by omega) ?_
            refine lv_aload_n zx zb d_M_opened_24 rfl (lv_at zl 0 rfl) ?_
            refine wv_get zx zb zg hin_M rfl zo zK zP 0 rfl 3 (by decide) rfl fl_M_13 rfl d_M_opened_25 ?_
            refine lv_iload zx zb d_M_opened_28 (lv_at zl 3 rfl) ?_
            refine wv_iald zx zb zK zP 2 rfl (by omega) (by decide) d_M_opened_30 ?_
            refine lv_iload_n zx zb d_M_opened_31 rfl (lv_at zl 1 rfl) ?_
            refine lv_icmp_ne (tgt := 50) zx zb d_M_opened_32 (by decide) (fun _ => ?_) (fun h => absurd h (hoc))
            refine lv_iload_n zx zb d_M_opened_50 rfl (lv_at zl 2 rfl) ?_
            refine lv_istore_n (lv' := [(3, .int (oI f)), (0, .ref m0), (1, .int t), (4, .int (nI c))]) zx zb d_M_opened_51 rfl zl (by decide) rfl (fun lsX zl => ?_)
            refine lv_iinc (k := 3) (lv' := [(4, .int (nP c)), (3, .int (oI f)), (0, .ref m0), (1, .int t)]) zx zb d_M_opened_52 zl rfl (nP_dec _) (by decide) rfl (fun lsX zl => ?_)
            refine lv_goto (tgt := 7) zx zb d_M_opened_55 (by decide) ?_
            exact ih_loop7 _ (by omega) c f rfl (by omega) hi lsX HX oX (lv_sub zl [2, 3, 1, 0] rfl) zP zD zS
  exact loop7 _ at_ none rfl (Nat.le_refl _) rfl lsX HX oX (lv_sub zl [2, 3, 1, 0] rfl) zP zD zS
theorem c_M_opened_s (lL : Launch) (g : Gt) (m0 : Nat) (m1 : Nat) (m2 : Nat) (m3 : Nat) (m4 : Nat) (m5 : Nat) (m6 : Nat) (m7 : Nat) (m8 : Nat) (m9 : Nat) (m10 : Nat) (n : Nat) (sy : Nat) (k : Nat → Nat) (o : Nat → Int32) (ke : Nat → Nat) (va : Nat → Int32) (fl : Nat → Nat) (sg : Nat → Nat) (cp : Nat → Nat) (fs : Nat → Nat) (la : Nat → Nat) (nx : Nat) (hd : Nat → Nat) (dn : Nat) (tg : Nat) (bh : Nat) (t : Int32) (at_ : Nat) (j : Nat) (hat : at_ ≤ 520) (hk4 : ∀ i, i < at_ → k i < 4) (ho5 : opO k o t at_ none = some j) : Ct lL g y_M_opened (.code y_M_opened b_M_opened 5 (some .int)) 1 22 [.ref m0, .int t, .int (nI at_)] (wM g m0 m1 m2 m3 m4 m5 m6 m7 m8 m9 m10 n sy k o ke va fl sg cp fs la nx hd dn tg bh) (exP (some (.int (nI j))) (wM g m0 m1 m2 m3 m4 m5 m6 m7 m8 m9 m10 n sy k o ke va fl sg cp fs la nx hd dn tg bh)) := by
  have hz := c_M_opened lL g m0 m1 m2 m3 m4 m5 m6 m7 m8 m9 m10 n sy k o ke va fl sg cp fs la nx hd dn tg bh t at_ hat hk4
  rw [ho5] at hz
  exact hz
theorem c_M_opened_n (lL : Launch) (g : Gt) (m0 : Nat) (m1 : Nat) (m2 : Nat) (m3 : Nat) (m4 : Nat) (m5 : Nat) (m6 : Nat) (m7 : Nat) (m8 : Nat) (m9 : Nat) (m10 : Nat) (n : Nat) (sy : Nat) (k : Nat → Nat) (o : Nat → Int32) (ke : Nat → Nat) (va : Nat → Int32) (fl : Nat → Nat) (sg : Nat → Nat) (cp : Nat → Nat) (fs : Nat → Nat) (la : Nat → Nat) (nx : Nat) (hd : Nat → Nat) (dn : Nat) (tg : Nat) (bh : Nat) (t : Int32) (at_ : Nat)  (hat : at_ ≤ 520) (hk4 : ∀ i, i < at_ → k i < 4) (ho5 : opO k o t at_ none = none) : Ct lL g y_M_opened (.code y_M_opened b_M_opened 5 (some .int)) 1 22 [.ref m0, .int t, .int (nI at_)] (wM g m0 m1 m2 m3 m4 m5 m6 m7 m8 m9 m10 n sy k o ke va fl sg cp fs la nx hd dn tg bh) (exP (some (.int (-1))) (wM g m0 m1 m2 m3 m4 m5 m6 m7 m8 m9 m10 n sy k o ke va fl sg cp fs la nx hd dn tg bh)) := by
  have hz := c_M_opened lL g m0 m1 m2 m3 m4 m5 m6 m7 m8 m9 m10 n sy k o ke va fl sg cp fs la nx hd dn tg bh t at_ hat hk4
  rw [ho5] at hz
  exact hz
set_option maxRecDepth 20000 in
theorem c_M_sets (lL : Launch) (g : Gt) (m0 : Nat) (m1 : Nat) (m2 : Nat) (m3 : Nat) (m4 : Nat) (m5 : Nat) (m6 : Nat) (m7 : Nat) (m8 : Nat) (m9 : Nat) (m10 : Nat) (n : Nat) (sy : Nat) (k : Nat → Nat) (o : Nat → Int32) (ke : Nat → Nat) (va : Nat → Int32) (fl : Nat → Nat) (sg : Nat → Nat) (cp : Nat → Nat) (fs : Nat → Nat) (la : Nat → Nat) (nx : Nat) (hd : Nat → Nat) (dn : Nat) (tg : Nat) (bh : Nat) (t : Int32) (hn5 : n ≤ 520) (hk4 : ∀ i, i < n → k i < 4) : Ct lL g y_M_sets (.code y_M_sets b_M_sets 4 (some .int)) 1 22 [.ref m0, .int t] (wM g m0 m1 m2 m3 m4 m5 m6 m7 m8 m9 m10 n sy k o ke va fl sg cp fs la nx hd dn tg bh) (exP (some (.int (nI (seL k o t n 0)))) (wM g m0 m1 m2 m3 m4 m5 m6 m7 m8 m9 m10 n sy k o ke va fl sg cp fs la nx hd dn tg bh)) := by
  refine Ct.ofW (by decide) (Nat.le_of_ble_eq_true rfl) ?_
  intro pX eX sX mX aX bX tX cX AX lsX HX oX QX zx zb zr zk zm zo zg zK zP zD zA zS zQ zl
  have zo : sX.vm.findClass R_M = some mX.cls := zo
  have zl : lv_has lsX 4 [(0, .ref m0), (1, .int t)] := zl
  refine lv_iconst (v := (nI 0)) zx zb d_M_sets_0 (by decide) ?_
  refine lv_istore_n (lv' := [(2, .int (nI 0)), (0, .ref m0), (1, .int t)]) zx zb d_M_sets_1 rfl zl (by decide) rfl (fun lsX zl => ?_)
  refine lv_aload_n zx zb d_M_sets_2 rfl (lv_at zl 1 rfl) ?_
  refine wv_get zx zb zg hin_M rfl zo zK zP 0 rfl 0 (by decide) rfl fl_M_41 rfl d_M_sets_3 ?_
  refine lv_iconst (v := (nI 1)) zx zb d_M_sets_6 (by decide) ?_
  refine wv_isub (z := nP n) zx zb d_M_sets_7 rfl ?_
  refine lv_istore_n (lv' := [(3, .int (nP n)), (2, .int (nI 0)), (0, .ref m0), (1, .int t)]) zx zb d_M_sets_8 rfl zl (by decide) rfl (fun lsX zl => ?_)
  have loop9 : ∀ (kk : Nat) (c : Nat) (f : Nat), kk = c → (c ≤ n) → (seL k o t c f = seL k o t n 0) → ∀ (lsX : Array Slot) (HX : Heap) (oX : List Loc), lv_has lsX 4 [(0, .ref m0), (1, .int t), (2, .int (nI f)), (3, .int (nP c))] → va_P g.1 cls (wM g m0 m1 m2 m3 m4 m5 m6 m7 m8 m9 m10 n sy k o ke va fl sg cp fs la nx hd dn tg bh) HX → va_D AX (wM g m0 m1 m2 m3 m4 m5 m6 m7 m8 m9 m10 n sy k o ke va fl sg cp fs la nx hd dn tg bh) → va_S AX sX.heap HX oX → W pX lL eX (rmL 1 22) sX mX aX bX tX cX HX oX 0 0 QX (F0 mX 9 lsX []) := by
    intro kk
    induction kk using Nat.strongRecOn with
    | ind kk ih_loop9 =>
      intro c f hkk hc5 hi lsX HX oX zl zP zD zS
      rcases nat_cs c with rfl | ⟨c, rfl⟩
      · have hi : f = seL k o t n 0 := hi
        refine lv_iload_n zx zb d_M_sets_9 rfl (lv_at zl 3 rfl) ?_
        refine lv_if_lt (tgt := 55) zx zb d_M_sets_10 (by decide) (fun _ => ?_) (fun h => absurd h (fun h => h nP_0))
        refine lv_iload_n zx zb d_M_sets_55 rfl (lv_at zl 2 rfl) ?_
        exact ct_iret zQ zx zb zr zk zP zD zS d_M_sets_56 rfl (⟨by rw [hi], rfl⟩)
      · have hkc := hk4 c (by omega)
        have zl : lv_has lsX 4 [(0, .ref m0), (1, .int t), (2, .int (nI f)), (3, .int (nI c))] := by rw [nP_s] at zl; exact zl
        refine lv_iload_n zx zb d_M_sets_9 rfl (lv_at zl 3 rfl) ?_
        refine wn_ilt_F (tgt := 55) zx zb d_M_sets_10 (by decide) (by omega) (trivial) ?_
        by_cases he : mEnd k o t c
        · have hi : f = seL k o t n 0 := (if_pos he).symm.trans hi
          refine lv_aload_n zx zb d_M_sets_13 rfl (lv_at zl 0 rfl) ?_
          refine lv_iload_n zx zb d_M_sets_14 rfl (lv_at zl 3 rfl) ?_
          refine lv_iload_n zx zb d_M_sets_15 rfl (lv_at zl 1 rfl) ?_
          refine ct_V (ws' := wM g m0 m1 m2 m3 m4 m5 m6 m7 m8 m9 m10 n sy k o ke va fl sg cp fs la nx hd dn tg bh) (rest := []) (st1 := [.int (nI 1)]) zx zb zm zo zg zK zP zD zS zA zl.1 (c_M_ends_t lL g m0 m1 m2 m3 m4 m5 m6 m7 m8 m9 m10 n sy k o ke va fl sg cp fs la nx hd dn tg bh c t (by omega) (hk4 c (by omega)) he) ok_M_ends ov_M_ends ml_M_45 (by decide) 0 7 rfl rfl rfl [0, 1, 2, 3, 4, 5, 6, 7, 8, 9, 10] [] 11 (by decide) rfl rfl rfl rfl (by decide) rfl rfl rfl (Nat.le_of_ble_eq_true rfl) d_M_sets_16 (fun HX oX zP zD zS => ?_)
          refine wn_ine_T (tgt := 55) zx zb d_M_sets_19 (by decide) (by omega) (by omega) ?_
          refine lv_iload_n zx zb d_M_sets_55 rfl (lv_at zl 2 rfl) ?_
          exact ct_iret zQ zx zb zr zk zP zD zS d_M_sets_56 rfl (⟨by rw [hi], rfl⟩)
        · have hi : seL k o t c (f + (if mSet k o t c then 1 else 0)) = seL k o t n 0 := (if_neg he).symm.trans hi
          refine lv_aload_n zx zb d_M_sets_13 rfl (lv_at zl 0 rfl) ?_
          by_cases hkz : k c = 0
          · have hkz2 := hkz
            refine lv_iload_n zx zb d_M_sets_14 rfl (lv_at zl 3 rfl) ?_
            by_cases hoc : o c = t
            · rw [if_pos ⟨hkz, hoc⟩] at hi
              refine lv_iload_n zx zb d_M_sets_15 rfl (lv_at zl 1 rfl) ?_
              refine ct_V (ws' := wM g m0 m1 m2 m3 m4 m5 m6 m7 m8 m9 m10 n sy k o ke va fl sg cp fs la nx hd dn tg bh) (rest := []) (st1 := [.int (nI 0)]) zx zb zm zo zg zK zP zD zS zA zl.1 (c_M_ends_f lL g m0 m1 m2 m3 m4 m5 m6 m7 m8 m9 m10 n sy k o ke va fl sg cp fs la nx hd dn tg bh c t (by omega) (hk4 c (by omega)) he) ok_M_ends ov_M_ends ml_M_45 (by decide) 0 7 rfl rfl rfl [0, 1, 2, 3, 4, 5, 6, 7, 8, 9, 10] [] 11 (by decide) rfl rfl rfl rfl (by decide) rfl rfl rfl (Nat.le_of_ble_eq_true rfl) d_M_sets_16 (fun HX oX zP zD zS => ?_)
              refine wn_ine_F (tgt := 55) zx zb d_M_sets_19 (by decide) (by omega) (by omega) ?_
              refine lv_iload_n zx zb d_M_sets_22 rfl (lv_at zl 2 rfl) ?_
              refine lv_aload_n zx zb d_M_sets_23 rfl (lv_at zl 0 rfl) ?_
              refine wv_get zx zb zg hin_M rfl zo zK zP 0 rfl 2 (by decide) rfl fl_M_7 rfl d_M_sets_24 ?_
              refine lv_iload_n zx zb d_M_sets_27 rfl (lv_at zl 3 rfl) ?_
              refine wv_ialdN zx zb zK zP 1 rfl (by omega) (by decide) d_M_sets_28 ?_
              refine wn_ine_F (tgt := 46) zx zb d_M_sets_29 (by decide) (by omega) (by omega) ?_
              refine lv_aload_n zx zb d_M_sets_32 rfl (lv_at zl 0 rfl) ?_
              refine wv_get zx zb zg hin_M rfl zo zK zP 0 rfl 3 (by decide) rfl fl_M_13 rfl d_M_sets_33 ?_
              refine lv_iload_n zx zb d_M_sets_36 rfl (lv_at zl 3 rfl) ?_
              refine wv_iald zx zb zK zP 2 rfl (by omega) (by decide) d_M_sets_37 ?_
              refine lv_iload_n zx zb d_M_sets_38 rfl (lv_at zl 1 rfl) ?_
              refine lv_icmp_ne (tgt := 46) zx zb d_M_sets_39 (by decide) (fun h => absurd h (fun h => h hoc)) (fun _ => ?_)
              refine lv_iconst (v := (nI 1)) zx zb d_M_sets_42 (by decide) ?_
              refine lv_goto (tgt := 47) zx zb d_M_sets_43 (by decide) ?_
              refine wv_iadd zx zb d_M_sets_47 (nI_add _ _) ?_
              refine lv_istore_n (lv' := [(2, .int (nI (f + 1))), (0, .ref m0), (1, .int t), (3, .int (nI c))]) zx zb d_M_sets_48 rfl zl (by decide) rfl (fun lsX zl => ?_)
              refine lv_iinc (k := 3) (lv' := [(3, .int (nP c)), (2, .int (nI (f + 1))), (0, .ref m0), (1, .int t)]) zx zb d_M_sets_49 zl rfl (nP_dec _) (by decide) rfl (fun lsX zl => ?_)
              refine lv_goto (tgt := 9) zx zb d_M_sets_52 (by decide) ?_
              exact ih_loop9 _ (by omega) c (f + 1) rfl (by omega) hi lsX HX oX (lv_sub zl [2, 3, 1, 0] rfl) zP zD zS
            · rw [if_neg (fun h => hoc h.2)] at hi
              refine lv_iload_n zx zb d_M_sets_15 rfl (lv_at zl 1 rfl) ?_
              refine ct_V (ws' := wM g m0 m1 m2 m3 m4 m5 m6 m7 m8 m9 m10 n sy k o ke va fl sg cp fs la nx hd dn tg bh) (rest := []) (st1 := [.int (nI 0)]) zx zb zm zo zg zK zP zD zS zA zl.1 (c_M_ends_f lL g m0 m1 m2 m3 m4 m5 m6 m7 m8 m9 m10 n sy k o ke va fl sg cp fs la nx hd dn tg bh c t (by omega) (hk4 c (by omega)) he) ok_M_ends ov_M_ends ml_M_45 (by decide) 0 7 rfl rfl rfl [0, 1, 2, 3, 4, 5, 6, 7, 8, 9, 10] [] 11 (by decide) rfl rfl rfl rfl (by decide) rfl rfl rfl (Nat.le_of_ble_eq_true rfl) d_M_sets_16 (fun HX oX zP zD zS => ?_)
              refine wn_ine_F (tgt := 55) zx zb d_M_sets_19 (by decide) (by omega) (by omega) ?_
              refine lv_iload_n zx zb d_M_sets_22 rfl (lv_at zl 2 rfl) ?_
              refine lv_aload_n zx zb d_M_sets_23 rfl (lv_at zl 0 rfl) ?_
              refine wv_get zx zb zg hin_M rfl zo zK zP 0 rfl 2 (by decide) rfl fl_M_7 rfl d_M_sets_24 ?_
              refine lv_iload_n zx zb d_M_sets_27 rfl (lv_at zl 3 rfl) ?_
              refine wv_ialdN zx zb zK zP 1 rfl (by omega) (by decide) d_M_sets_28 ?_
              refine wn_ine_F (tgt := 46) zx zb d_M_sets_29 (by decide) (by omega) (by omega) ?_
              refine lv_aload_n zx zb d_M_sets_32 rfl (lv_at zl 0 rfl) ?_
              refine wv_get zx zb zg hin_M rfl zo zK zP 0 rfl 3 (by decide) rfl fl_M_13 rfl d_M_sets_33 ?_
              refine lv_iload_n zx zb d_M_sets_36 rfl (lv_at zl 3 rfl) ?_
              refine wv_iald zx zb zK zP 2 rfl (by omega) (by decide) d_M_sets_37 ?_
              refine lv_iload_n zx zb d_M_sets_38 rfl (lv_at zl 1 rfl) ?_
              refine lv_icmp_ne (tgt := 46) zx zb d_M_sets_39 (by decide) (fun _ => ?_) (fun h => absurd h (hoc))
              refine lv_iconst (v := (nI 0)) zx zb d_M_sets_46 (by decide) ?_
              refine wv_iadd zx zb d_M_sets_47 (nI_add _ _) ?_
              refine lv_istore_n (lv' := [(2, .int (nI (f + 0))), (0, .ref m0), (1, .int t), (3, .int (nI c))]) zx zb d_M_sets_48 rfl zl (by decide) rfl (fun lsX zl => ?_)
              refine lv_iinc (k := 3) (lv' := [(3, .int (nP c)), (2, .int (nI (f + 0))), (0, .ref m0), (1, .int t)]) zx zb d_M_sets_49 zl rfl (nP_dec _) (by decide) rfl (fun lsX zl => ?_)
              refine lv_goto (tgt := 9) zx zb d_M_sets_52 (by decide) ?_
              exact ih_loop9 _ (by omega) c (f + 0) rfl (by omega) hi lsX HX oX (lv_sub zl [2, 3, 1, 0] rfl) zP zD zS
          · rw [if_neg (fun h => hkz h.1)] at hi
            refine lv_iload_n zx zb d_M_sets_14 rfl (lv_at zl 3 rfl) ?_
            refine lv_iload_n zx zb d_M_sets_15 rfl (lv_at zl 1 rfl) ?_
            refine ct_V (ws' := wM g m0 m1 m2 m3 m4 m5 m6 m7 m8 m9 m10 n sy k o ke va fl sg cp fs la nx hd dn tg bh) (rest := []) (st1 := [.int (nI 0)]) zx zb zm zo zg zK zP zD zS zA zl.1 (c_M_ends_f lL g m0 m1 m2 m3 m4 m5 m6 m7 m8 m9 m10 n sy k o ke va fl sg cp fs la nx hd dn tg bh c t (by omega) (hk4 c (by omega)) he) ok_M_ends ov_M_ends ml_M_45 (by decide) 0 7 rfl rfl rfl [0, 1, 2, 3, 4, 5, 6, 7, 8, 9, 10] [] 11 (by decide) rfl rfl rfl rfl (by decide) rfl rfl rfl (Nat.le_of_ble_eq_true rfl) d_M_sets_16 (fun HX oX zP zD zS => ?_)
            refine wn_ine_F (tgt := 55) zx zb d_M_sets_19 (by decide) (by omega) (by omega) ?_
            refine lv_iload_n zx zb d_M_sets_22 rfl (lv_at zl 2 rfl) ?_
            refine lv_aload_n zx zb d_M_sets_23 rfl (lv_at zl 0 rfl) ?_
            refine wv_get zx zb zg hin_M rfl zo zK zP 0 rfl 2 (by decide) rfl fl_M_7 rfl d_M_sets_24 ?_
            refine lv_iload_n zx zb d_M_sets_27 rfl (lv_at zl 3 rfl) ?_
            refine wv_ialdN zx zb zK zP 1 rfl (by omega) (by decide) d_M_sets_28 ?_
            refine wn_ine_T (tgt := 46) zx zb d_M_sets_29 (by decide) (by omega) (by omega) ?_
            refine lv_iconst (v := (nI 0)) zx zb d_M_sets_46 (by decide) ?_
            refine wv_iadd zx zb d_M_sets_47 (nI_add _ _) ?_
            refine lv_istore_n (lv' := [(2, .int (nI (f + 0))), (0, .ref m0), (1, .int t), (3, .int (nI c))]) zx zb d_M_sets_48 rfl zl (by decide) rfl (fun lsX zl => ?_)
            refine lv_iinc (k := 3) (lv' := [(3, .int (nP c)), (2, .int (nI (f + 0))), (0, .ref m0), (1, .int t)]) zx zb d_M_sets_49 zl rfl (nP_dec _) (by decide) rfl (fun lsX zl => ?_)
            refine lv_goto (tgt := 9) zx zb d_M_sets_52 (by decide) ?_
            exact ih_loop9 _ (by omega) c (f + 0) rfl (by omega) hi lsX HX oX (lv_sub zl [2, 3, 1, 0] rfl) zP zD zS
  exact loop9 _ n 0 rfl (Nat.le_refl _) rfl lsX HX oX (lv_sub zl [2, 3, 1, 0] rfl) zP zD zS
set_option maxRecDepth 20000 in
theorem c_M_setFor (lL : Launch) (g : Gt) (m0 : Nat) (m1 : Nat) (m2 : Nat) (m3 : Nat) (m4 : Nat) (m5 : Nat) (m6 : Nat) (m7 : Nat) (m8 : Nat) (m9 : Nat) (m10 : Nat) (n : Nat) (sy : Nat) (k : Nat → Nat) (o : Nat → Int32) (ke : Nat → Nat) (va : Nat → Int32) (fl : Nat → Nat) (sg : Nat → Nat) (cp : Nat → Nat) (fs : Nat → Nat) (la : Nat → Nat) (nx : Nat) (hd : Nat → Nat) (dn : Nat) (tg : Nat) (bh : Nat) (cm : Nat) (ky : Nat) (hcm : cm < 520) (hk4 : ∀ i, i < cm → k i < 4) (hke : ∀ i, i < cm → k i = 0 → ke i < 32) (hky : ky < 32) : Ct lL g y_M_setFor (.code y_M_setFor b_M_setFor 4 (some .int)) 1 22 [.ref m0, .int (nI cm), .int (nI ky)] (wM g m0 m1 m2 m3 m4 m5 m6 m7 m8 m9 m10 n sy k o ke va fl sg cp fs la nx hd dn tg bh) (exP (some (.int (oI (sfO k o ke (o cm) ky cm)))) (wM g m0 m1 m2 m3 m4 m5 m6 m7 m8 m9 m10 n sy k o ke va fl sg cp fs la nx hd dn tg bh)) := by
  refine Ct.ofW (by decide) (Nat.le_of_ble_eq_true rfl) ?_
  intro pX eX sX mX aX bX tX cX AX lsX HX oX QX zx zb zr zk zm zo zg zK zP zD zA zS zQ zl
  have zo : sX.vm.findClass R_M = some mX.cls := zo
  have zl : lv_has lsX 4 [(0, .ref m0), (1, .int (nI cm)), (2, .int (nI ky))] := zl
  refine lv_iload_n zx zb d_M_setFor_0 rfl (lv_at zl 1 rfl) ?_
  refine lv_iconst (v := (nI 1)) zx zb d_M_setFor_1 (by decide) ?_
  refine wv_isub (z := nP cm) zx zb d_M_setFor_2 rfl ?_
  refine lv_istore_n (lv' := [(3, .int (nP cm)), (0, .ref m0), (1, .int (nI cm)), (2, .int (nI ky))]) zx zb d_M_setFor_3 rfl zl (by decide) rfl (fun lsX zl => ?_)
  have loop4 : ∀ (kk : Nat) (c : Nat), kk = c → (c ≤ cm) → (sfO k o ke (o cm) ky c = sfO k o ke (o cm) ky cm) → ∀ (lsX : Array Slot) (HX : Heap) (oX : List Loc), lv_has lsX 4 [(0, .ref m0), (1, .int (nI cm)), (2, .int (nI ky)), (3, .int (nP c))] → va_P g.1 cls (wM g m0 m1 m2 m3 m4 m5 m6 m7 m8 m9 m10 n sy k o ke va fl sg cp fs la nx hd dn tg bh) HX → va_D AX (wM g m0 m1 m2 m3 m4 m5 m6 m7 m8 m9 m10 n sy k o ke va fl sg cp fs la nx hd dn tg bh) → va_S AX sX.heap HX oX → W pX lL eX (rmL 1 22) sX mX aX bX tX cX HX oX 0 0 QX (F0 mX 4 lsX []) := by
    intro kk
    induction kk using Nat.strongRecOn with
    | ind kk ih_loop4 =>
      intro c hkk hc5 hi lsX HX oX zl zP zD zS
      rcases nat_cs c with rfl | ⟨c, rfl⟩
      · have hi : none = sfO k o ke (o cm) ky cm := hi
        refine lv_iload_n zx zb d_M_setFor_4 rfl (lv_at zl 3 rfl) ?_
        refine lv_if_lt (tgt := 64) zx zb d_M_setFor_5 (by decide) (fun _ => ?_) (fun h => absurd h (fun h => h nP_0))
        refine lv_iconst (v := (-1)) zx zb d_M_setFor_64 (by decide) ?_
        exact ct_iret zQ zx zb zr zk zP zD zS d_M_setFor_65 rfl (⟨by rw [← hi]; rfl, rfl⟩)
      · have hkc := hk4 c (by omega)
        have zl : lv_has lsX 4 [(0, .ref m0), (1, .int (nI cm)), (2, .int (nI ky)), (3, .int (nI c))] := by rw [nP_s] at zl; exact zl
        refine lv_iload_n zx zb d_M_setFor_4 rfl (lv_at zl 3 rfl) ?_
        refine wn_ilt_F (tgt := 64) zx zb d_M_setFor_5 (by decide) (by omega) (trivial) ?_
        by_cases he : mEnd k o (o cm) c
        · have hi : none = sfO k o ke (o cm) ky cm := (if_pos he).symm.trans hi
          refine lv_aload_n zx zb d_M_setFor_8 rfl (lv_at zl 0 rfl) ?_
          refine lv_iload_n zx zb d_M_setFor_9 rfl (lv_at zl 3 rfl) ?_
          refine lv_aload_n zx zb d_M_setFor_10 rfl (lv_at zl 0 rfl) ?_
          refine wv_get zx zb zg hin_M rfl zo zK zP 0 rfl 3 (by decide) rfl fl_M_13 rfl d_M_setFor_11 ?_
          refine lv_iload_n zx zb d_M_setFor_14 rfl (lv_at zl 1 rfl) ?_
          refine wv_iald zx zb zK zP 2 rfl (by omega) (by decide) d_M_setFor_15 ?_
          refine ct_V (ws' := wM g m0 m1 m2 m3 m4 m5 m6 m7 m8 m9 m10 n sy k o ke va fl sg cp fs la nx hd dn tg bh) (rest := []) (st1 := [.int (nI 1)]) zx zb zm zo zg zK zP zD zS zA zl.1 (c_M_ends_t lL g m0 m1 m2 m3 m4 m5 m6 m7 m8 m9 m10 n sy k o ke va fl sg cp fs la nx hd dn tg bh c (o cm) (by omega) (hk4 c (by omega)) he) ok_M_ends ov_M_ends ml_M_45 (by decide) 0 7 rfl rfl rfl [0, 1, 2, 3, 4, 5, 6, 7, 8, 9, 10] [] 11 (by decide) rfl rfl rfl rfl (by decide) rfl rfl rfl (Nat.le_of_ble_eq_true rfl) d_M_setFor_16 (fun HX oX zP zD zS => ?_)
          refine wn_ine_T (tgt := 64) zx zb d_M_setFor_19 (by decide) (by omega) (by omega) ?_
          refine lv_iconst (v := (-1)) zx zb d_M_setFor_64 (by decide) ?_
          exact ct_iret zQ zx zb zr zk zP zD zS d_M_setFor_65 rfl (⟨by rw [← hi]; rfl, rfl⟩)
        · have hi : (if mSet k o (o cm) c ∧ ke c = ky then some c else sfO k o ke (o cm) ky c) = sfO k o ke (o cm) ky cm := (if_neg he).symm.trans hi
          refine lv_aload_n zx zb d_M_setFor_8 rfl (lv_at zl 0 rfl) ?_
          by_cases hkz : k c = 0
          · have hkec := hke c (by omega) hkz
            refine lv_iload_n zx zb d_M_setFor_9 rfl (lv_at zl 3 rfl) ?_
            by_cases hoc : o c = o cm
            · have hoc2 := hoc
              refine lv_aload_n zx zb d_M_setFor_10 rfl (lv_at zl 0 rfl) ?_
              by_cases hkk3 : ke c = ky
              · rw [if_pos ⟨⟨hkz, hoc⟩, hkk3⟩] at hi
                refine wv_get zx zb zg hin_M rfl zo zK zP 0 rfl 3 (by decide) rfl fl_M_13 rfl d_M_setFor_11 ?_
                refine lv_iload_n zx zb d_M_setFor_14 rfl (lv_at zl 1 rfl) ?_
                refine wv_iald zx zb zK zP 2 rfl (by omega) (by decide) d_M_setFor_15 ?_
                refine ct_V (ws' := wM g m0 m1 m2 m3 m4 m5 m6 m7 m8 m9 m10 n sy k o ke va fl sg cp fs la nx hd dn tg bh) (rest := []) (st1 := [.int (nI 0)]) zx zb zm zo zg zK zP zD zS zA zl.1 (c_M_ends_f lL g m0 m1 m2 m3 m4 m5 m6 m7 m8 m9 m10 n sy k o ke va fl sg cp fs la nx hd dn tg bh c (o cm) (by omega) (hk4 c (by omega)) he) ok_M_ends ov_M_ends ml_M_45 (by decide) 0 7 rfl rfl rfl [0, 1, 2, 3, 4, 5, 6, 7, 8, 9, 10] [] 11 (by decide) rfl rfl rfl rfl (by decide) rfl rfl rfl (Nat.le_of_ble_eq_true rfl) d_M_setFor_16 (fun HX oX zP zD zS => ?_)
                refine wn_ine_F (tgt := 64) zx zb d_M_setFor_19 (by decide) (by omega) (by omega) ?_
                refine lv_aload_n zx zb d_M_setFor_22 rfl (lv_at zl 0 rfl) ?_
                refine wv_get zx zb zg hin_M rfl zo zK zP 0 rfl 2 (by decide) rfl fl_M_7 rfl d_M_setFor_23 ?_
                refine lv_iload_n zx zb d_M_setFor_26 rfl (lv_at zl 3 rfl) ?_
                refine wv_ialdN zx zb zK zP 1 rfl (by omega) (by decide) d_M_setFor_27 ?_
                refine wn_ine_F (tgt := 58) zx zb d_M_setFor_28 (by decide) (by omega) (by omega) ?_
                refine lv_aload_n zx zb d_M_setFor_31 rfl (lv_at zl 0 rfl) ?_
                refine wv_get zx zb zg hin_M rfl zo zK zP 0 rfl 3 (by decide) rfl fl_M_13 rfl d_M_setFor_32 ?_
                refine lv_iload_n zx zb d_M_setFor_35 rfl (lv_at zl 3 rfl) ?_
                refine wv_iald zx zb zK zP 2 rfl (by omega) (by decide) d_M_setFor_36 ?_
                refine lv_aload_n zx zb d_M_setFor_37 rfl (lv_at zl 0 rfl) ?_
                refine wv_get zx zb zg hin_M rfl zo zK zP 0 rfl 3 (by decide) rfl fl_M_13 rfl d_M_setFor_38 ?_
                refine lv_iload_n zx zb d_M_setFor_41 rfl (lv_at zl 1 rfl) ?_
                refine wv_iald zx zb zK zP 2 rfl (by omega) (by decide) d_M_setFor_42 ?_
                refine lv_icmp_ne (tgt := 58) zx zb d_M_setFor_43 (by decide) (fun h => absurd h (fun h => h hoc)) (fun _ => ?_)
                refine lv_aload_n zx zb d_M_setFor_46 rfl (lv_at zl 0 rfl) ?_
                refine wv_get zx zb zg hin_M rfl zo zK zP 0 rfl 4 (by decide) rfl fl_M_16 rfl d_M_setFor_47 ?_
                refine lv_iload_n zx zb d_M_setFor_50 rfl (lv_at zl 3 rfl) ?_
                refine wv_ialdN zx zb zK zP 3 rfl (by omega) (by decide) d_M_setFor_51 ?_
                refine lv_iload_n zx zb d_M_setFor_52 rfl (lv_at zl 2 rfl) ?_
                refine wn_cne_F (tgt := 58) zx zb d_M_setFor_53 (by decide) (by omega) (by omega) (by omega) ?_
                refine lv_iload_n zx zb d_M_setFor_56 rfl (lv_at zl 3 rfl) ?_
                exact ct_iret zQ zx zb zr zk zP zD zS d_M_setFor_57 rfl (⟨by rw [← hi]; rfl, rfl⟩)
              · rw [if_neg (fun h => hkk3 h.2)] at hi
                refine wv_get zx zb zg hin_M rfl zo zK zP 0 rfl 3 (by decide) rfl fl_M_13 rfl d_M_setFor_11 ?_
                refine lv_iload_n zx zb d_M_setFor_14 rfl (lv_at zl 1 rfl) ?_
                refine wv_iald zx zb zK zP 2 rfl (by omega) (by decide) d_M_setFor_15 ?_
                refine ct_V (ws' := wM g m0 m1 m2 m3 m4 m5 m6 m7 m8 m9 m10 n sy k o ke va fl sg cp fs la nx hd dn tg bh) (rest := []) (st1 := [.int (nI 0)]) zx zb zm zo zg zK zP zD zS zA zl.1 (c_M_ends_f lL g m0 m1 m2 m3 m4 m5 m6 m7 m8 m9 m10 n sy k o ke va fl sg cp fs la nx hd dn tg bh c (o cm) (by omega) (hk4 c (by omega)) he) ok_M_ends ov_M_ends ml_M_45 (by decide) 0 7 rfl rfl rfl [0, 1, 2, 3, 4, 5, 6, 7, 8, 9, 10] [] 11 (by decide) rfl rfl rfl rfl (by decide) rfl rfl rfl (Nat.le_of_ble_eq_true rfl) d_M_setFor_16 (fun HX oX zP zD zS => ?_)
                refine wn_ine_F (tgt := 64) zx zb d_M_setFor_19 (by decide) (by omega) (by omega) ?_
                refine lv_aload_n zx zb d_M_setFor_22 rfl (lv_at zl 0 rfl) ?_
                refine wv_get zx zb zg hin_M rfl zo zK zP 0 rfl 2 (by decide) rfl fl_M_7 rfl d_M_setFor_23 ?_
                refine lv_iload_n zx zb d_M_setFor_26 rfl (lv_at zl 3 rfl) ?_
                refine wv_ialdN zx zb zK zP 1 rfl (by omega) (by decide) d_M_setFor_27 ?_
                refine wn_ine_F (tgt := 58) zx zb d_M_setFor_28 (by decide) (by omega) (by omega) ?_
                refine lv_aload_n zx zb d_M_setFor_31 rfl (lv_at zl 0 rfl) ?_
                refine wv_get zx zb zg hin_M rfl zo zK zP 0 rfl 3 (by decide) rfl fl_M_13 rfl d_M_setFor_32 ?_
                refine lv_iload_n zx zb d_M_setFor_35 rfl (lv_at zl 3 rfl) ?_
                refine wv_iald zx zb zK zP 2 rfl (by omega) (by decide) d_M_setFor_36 ?_
                refine lv_aload_n zx zb d_M_setFor_37 rfl (lv_at zl 0 rfl) ?_
                refine wv_get zx zb zg hin_M rfl zo zK zP 0 rfl 3 (by decide) rfl fl_M_13 rfl d_M_setFor_38 ?_
                refine lv_iload_n zx zb d_M_setFor_41 rfl (lv_at zl 1 rfl) ?_
                refine wv_iald zx zb zK zP 2 rfl (by omega) (by decide) d_M_setFor_42 ?_
                refine lv_icmp_ne (tgt := 58) zx zb d_M_setFor_43 (by decide) (fun h => absurd h (fun h => h hoc)) (fun _ => ?_)
                refine lv_aload_n zx zb d_M_setFor_46 rfl (lv_at zl 0 rfl) ?_
                refine wv_get zx zb zg hin_M rfl zo zK zP 0 rfl 4 (by decide) rfl fl_M_16 rfl d_M_setFor_47 ?_
                refine lv_iload_n zx zb d_M_setFor_50 rfl (lv_at zl 3 rfl) ?_
                refine wv_ialdN zx zb zK zP 3 rfl (by omega) (by decide) d_M_setFor_51 ?_
                refine lv_iload_n zx zb d_M_setFor_52 rfl (lv_at zl 2 rfl) ?_
                refine wn_cne_T (tgt := 58) zx zb d_M_setFor_53 (by decide) (by omega) (by omega) (by omega) ?_
                refine lv_iinc (k := 3) (lv' := [(3, .int (nP c)), (0, .ref m0), (1, .int (nI cm)), (2, .int (nI ky))]) zx zb d_M_setFor_58 zl rfl (nP_dec _) (by decide) rfl (fun lsX zl => ?_)
                refine lv_goto (tgt := 4) zx zb d_M_setFor_61 (by decide) ?_
                exact ih_loop4 _ (by omega) c rfl (by omega) hi lsX HX oX (lv_sub zl [1, 2, 3, 0] rfl) zP zD zS
            · rw [if_neg (fun h => hoc h.1.2)] at hi
              refine lv_aload_n zx zb d_M_setFor_10 rfl (lv_at zl 0 rfl) ?_
              refine wv_get zx zb zg hin_M rfl zo zK zP 0 rfl 3 (by decide) rfl fl_M_13 rfl d_M_setFor_11 ?_
              refine lv_iload_n zx zb d_M_setFor_14 rfl (lv_at zl 1 rfl) ?_
              refine wv_iald zx zb zK zP 2 rfl (by omega) (by decide) d_M_setFor_15 ?_
              refine ct_V (ws' := wM g m0 m1 m2 m3 m4 m5 m6 m7 m8 m9 m10 n sy k o ke va fl sg cp fs la nx hd dn tg bh) (rest := []) (st1 := [.int (nI 0)]) zx zb zm zo zg zK zP zD zS zA zl.1 (c_M_ends_f lL g m0 m1 m2 m3 m4 m5 m6 m7 m8 m9 m10 n sy k o ke va fl sg cp fs la nx hd dn tg bh c (o cm) (by omega) (hk4 c (by omega)) he) ok_M_ends ov_M_ends ml_M_45 (by decide) 0 7 rfl rfl rfl [0, 1, 2, 3, 4, 5, 6, 7, 8, 9, 10] [] 11 (by decide) rfl rfl rfl rfl (by decide) rfl rfl rfl (Nat.le_of_ble_eq_true rfl) d_M_setFor_16 (fun HX oX zP zD zS => ?_)
              refine wn_ine_F (tgt := 64) zx zb d_M_setFor_19 (by decide) (by omega) (by omega) ?_
              refine lv_aload_n zx zb d_M_setFor_22 rfl (lv_at zl 0 rfl) ?_
              refine wv_get zx zb zg hin_M rfl zo zK zP 0 rfl 2 (by decide) rfl fl_M_7 rfl d_M_setFor_23 ?_
              refine lv_iload_n zx zb d_M_setFor_26 rfl (lv_at zl 3 rfl) ?_
              refine wv_ialdN zx zb zK zP 1 rfl (by omega) (by decide) d_M_setFor_27 ?_
              refine wn_ine_F (tgt := 58) zx zb d_M_setFor_28 (by decide) (by omega) (by omega) ?_
              refine lv_aload_n zx zb d_M_setFor_31 rfl (lv_at zl 0 rfl) ?_
              refine wv_get zx zb zg hin_M rfl zo zK zP 0 rfl 3 (by decide) rfl fl_M_13 rfl d_M_setFor_32 ?_
              refine lv_iload_n zx zb d_M_setFor_35 rfl (lv_at zl 3 rfl) ?_
              refine wv_iald zx zb zK zP 2 rfl (by omega) (by decide) d_M_setFor_36 ?_
              refine lv_aload_n zx zb d_M_setFor_37 rfl (lv_at zl 0 rfl) ?_
              refine wv_get zx zb zg hin_M rfl zo zK zP 0 rfl 3 (by decide) rfl fl_M_13 rfl d_M_setFor_38 ?_
              refine lv_iload_n zx zb d_M_setFor_41 rfl (lv_at zl 1 rfl) ?_
              refine wv_iald zx zb zK zP 2 rfl (by omega) (by decide) d_M_setFor_42 ?_
              refine lv_icmp_ne (tgt := 58) zx zb d_M_setFor_43 (by decide) (fun _ => ?_) (fun h => absurd h (hoc))
              refine lv_iinc (k := 3) (lv' := [(3, .int (nP c)), (0, .ref m0), (1, .int (nI cm)), (2, .int (nI ky))]) zx zb d_M_setFor_58 zl rfl (nP_dec _) (by decide) rfl (fun lsX zl => ?_)
              refine lv_goto (tgt := 4) zx zb d_M_setFor_61 (by decide) ?_
              exact ih_loop4 _ (by omega) c rfl (by omega) hi lsX HX oX (lv_sub zl [1, 2, 3, 0] rfl) zP zD zS
          · rw [if_neg (fun h => hkz h.1.1)] at hi
            refine lv_iload_n zx zb d_M_setFor_9 rfl (lv_at zl 3 rfl) ?_
            refine lv_aload_n zx zb d_M_setFor_10 rfl (lv_at zl 0 rfl) ?_
            refine wv_get zx zb zg hin_M rfl zo zK zP 0 rfl 3 (by decide) rfl fl_M_13 rfl d_M_setFor_11 ?_
            refine lv_iload_n zx zb d_M_setFor_14 rfl (lv_at zl 1 rfl) ?_
            refine wv_iald zx zb zK zP 2 rfl (by omega) (by decide) d_M_setFor_15 ?_
            refine ct_V (ws' := wM g m0 m1 m2 m3 m4 m5 m6 m7 m8 m9 m10 n sy k o ke va fl sg cp fs la nx hd dn tg bh) (rest := []) (st1 := [.int (nI 0)]) zx zb zm zo zg zK zP zD zS zA zl.1 (c_M_ends_f lL g m0 m1 m2 m3 m4 m5 m6 m7 m8 m9 m10 n sy k o ke va fl sg cp fs la nx hd dn tg bh c (o cm) (by omega) (hk4 c (by omega)) he) ok_M_ends ov_M_ends ml_M_45 (by decide) 0 7 rfl rfl rfl [0, 1, 2, 3, 4, 5, 6, 7, 8, 9, 10] [] 11 (by decide) rfl rfl rfl rfl (by decide) rfl rfl rfl (Nat.le_of_ble_eq_true rfl) d_M_setFor_16 (fun HX oX zP zD zS => ?_)
            refine wn_ine_F (tgt := 64) zx zb d_M_setFor_19 (by decide) (by omega) (by omega) ?_
            refine lv_aload_n zx zb d_M_setFor_22 rfl (lv_at zl 0 rfl) ?_
            refine wv_get zx zb zg hin_M rfl zo zK zP 0 rfl 2 (by decide) rfl fl_M_7 rfl d_M_setFor_23 ?_
            refine lv_iload_n zx zb d_M_setFor_26 rfl (lv_at zl 3 rfl) ?_
            refine wv_ialdN zx zb zK zP 1 rfl (by omega) (by decide) d_M_setFor_27 ?_
            refine wn_ine_T (tgt := 58) zx zb d_M_setFor_28 (by decide) (by omega) (by omega) ?_
            refine lv_iinc (k := 3) (lv' := [(3, .int (nP c)), (0, .ref m0), (1, .int (nI cm)), (2, .int (nI ky))]) zx zb d_M_setFor_58 zl rfl (nP_dec _) (by decide) rfl (fun lsX zl => ?_)
            refine lv_goto (tgt := 4) zx zb d_M_setFor_61 (by decide) ?_
            exact ih_loop4 _ (by omega) c rfl (by omega) hi lsX HX oX (lv_sub zl [1, 2, 3, 0] rfl) zP zD zS
  exact loop4 _ cm rfl (Nat.le_refl _) rfl lsX HX oX (lv_sub zl [1, 2, 3, 0] rfl) zP zD zS
theorem c_M_setFor_s (lL : Launch) (g : Gt) (m0 : Nat) (m1 : Nat) (m2 : Nat) (m3 : Nat) (m4 : Nat) (m5 : Nat) (m6 : Nat) (m7 : Nat) (m8 : Nat) (m9 : Nat) (m10 : Nat) (n : Nat) (sy : Nat) (k : Nat → Nat) (o : Nat → Int32) (ke : Nat → Nat) (va : Nat → Int32) (fl : Nat → Nat) (sg : Nat → Nat) (cp : Nat → Nat) (fs : Nat → Nat) (la : Nat → Nat) (nx : Nat) (hd : Nat → Nat) (dn : Nat) (tg : Nat) (bh : Nat) (cm : Nat) (ky : Nat) (j : Nat) (hcm : cm < 520) (hk4 : ∀ i, i < cm → k i < 4) (hke : ∀ i, i < cm → k i = 0 → ke i < 32) (hky : ky < 32) (hs5 : sfO k o ke (o cm) ky cm = some j) : Ct lL g y_M_setFor (.code y_M_setFor b_M_setFor 4 (some .int)) 1 22 [.ref m0, .int (nI cm), .int (nI ky)] (wM g m0 m1 m2 m3 m4 m5 m6 m7 m8 m9 m10 n sy k o ke va fl sg cp fs la nx hd dn tg bh) (exP (some (.int (nI j))) (wM g m0 m1 m2 m3 m4 m5 m6 m7 m8 m9 m10 n sy k o ke va fl sg cp fs la nx hd dn tg bh)) := by
  have hz := c_M_setFor lL g m0 m1 m2 m3 m4 m5 m6 m7 m8 m9 m10 n sy k o ke va fl sg cp fs la nx hd dn tg bh cm ky hcm hk4 hke hky
  rw [hs5] at hz
  exact hz
theorem c_M_setFor_n (lL : Launch) (g : Gt) (m0 : Nat) (m1 : Nat) (m2 : Nat) (m3 : Nat) (m4 : Nat) (m5 : Nat) (m6 : Nat) (m7 : Nat) (m8 : Nat) (m9 : Nat) (m10 : Nat) (n : Nat) (sy : Nat) (k : Nat → Nat) (o : Nat → Int32) (ke : Nat → Nat) (va : Nat → Int32) (fl : Nat → Nat) (sg : Nat → Nat) (cp : Nat → Nat) (fs : Nat → Nat) (la : Nat → Nat) (nx : Nat) (hd : Nat → Nat) (dn : Nat) (tg : Nat) (bh : Nat) (cm : Nat) (ky : Nat)  (hcm : cm < 520) (hk4 : ∀ i, i < cm → k i < 4) (hke : ∀ i, i < cm → k i = 0 → ke i < 32) (hky : ky < 32) (hs5 : sfO k o ke (o cm) ky cm = none) : Ct lL g y_M_setFor (.code y_M_setFor b_M_setFor 4 (some .int)) 1 22 [.ref m0, .int (nI cm), .int (nI ky)] (wM g m0 m1 m2 m3 m4 m5 m6 m7 m8 m9 m10 n sy k o ke va fl sg cp fs la nx hd dn tg bh) (exP (some (.int (-1))) (wM g m0 m1 m2 m3 m4 m5 m6 m7 m8 m9 m10 n sy k o ke va fl sg cp fs la nx hd dn tg bh)) := by
  have hz := c_M_setFor lL g m0 m1 m2 m3 m4 m5 m6 m7 m8 m9 m10 n sy k o ke va fl sg cp fs la nx hd dn tg bh cm ky hcm hk4 hke hky
  rw [hs5] at hz
  exact hz
set_option maxRecDepth 20000 in
theorem c_M_valueAt (lL : Launch) (g : Gt) (m0 : Nat) (m1 : Nat) (m2 : Nat) (m3 : Nat) (m4 : Nat) (m5 : Nat) (m6 : Nat) (m7 : Nat) (m8 : Nat) (m9 : Nat) (m10 : Nat) (n : Nat) (sy : Nat) (k : Nat → Nat) (o : Nat → Int32) (ke : Nat → Nat) (va : Nat → Int32) (fl : Nat → Nat) (sg : Nat → Nat) (cp : Nat → Nat) (fs : Nat → Nat) (la : Nat → Nat) (nx : Nat) (hd : Nat → Nat) (dn : Nat) (tg : Nat) (bh : Nat) (ky : Nat) (ps : Nat) (hps : ps ≤ 520) (hk4 : ∀ i, i < ps → k i < 4) (hke : ∀ i, i < ps → k i = 0 → ke i < 32) (hky : ky < 32) : Ct lL g y_M_valueAt (.code y_M_valueAt b_M_valueAt 5 (some .int)) 2 45 [.ref m0, .int (nI ky), .int (nI ps)] (wM g m0 m1 m2 m3 m4 m5 m6 m7 m8 m9 m10 n sy k o ke va fl sg cp fs la nx hd dn tg bh) (exP (some (.int (vaO k o ke va ky ps))) (wM g m0 m1 m2 m3 m4 m5 m6 m7 m8 m9 m10 n sy k o ke va fl sg cp fs la nx hd dn tg bh)) := by
  refine Ct.ofW (by decide) (Nat.le_of_ble_eq_true rfl) ?_
  intro pX eX sX mX aX bX tX cX AX lsX HX oX QX zx zb zr zk zm zo zg zK zP zD zA zS zQ zl
  have zo : sX.vm.findClass R_M = some mX.cls := zo
  have zl : lv_has lsX 5 [(0, .ref m0), (1, .int (nI ky)), (2, .int (nI ps))] := zl
  refine lv_iload_n zx zb d_M_valueAt_0 rfl (lv_at zl 2 rfl) ?_
  refine lv_iconst (v := (nI 1)) zx zb d_M_valueAt_1 (by decide) ?_
  refine wv_isub (z := nP ps) zx zb d_M_valueAt_2 rfl ?_
  refine lv_istore_n (lv' := [(3, .int (nP ps)), (0, .ref m0), (1, .int (nI ky)), (2, .int (nI ps))]) zx zb d_M_valueAt_3 rfl zl (by decide) rfl (fun lsX zl => ?_)
  have loop4 : ∀ (kk : Nat) (c : Nat), kk = c → (c ≤ ps) → (vaO k o ke va ky c = vaO k o ke va ky ps) → ∀ (lsX : Array Slot) (HX : Heap) (oX : List Loc), lv_has lsX 5 [(0, .ref m0), (1, .int (nI ky)), (2, .int (nI ps)), (3, .int (nP c))] → va_P g.1 cls (wM g m0 m1 m2 m3 m4 m5 m6 m7 m8 m9 m10 n sy k o ke va fl sg cp fs la nx hd dn tg bh) HX → va_D AX (wM g m0 m1 m2 m3 m4 m5 m6 m7 m8 m9 m10 n sy k o ke va fl sg cp fs la nx hd dn tg bh) → va_S AX sX.heap HX oX → W pX lL eX (rmL 2 45) sX mX aX bX tX cX HX oX 0 0 QX (F0 mX 4 lsX []) := by
    intro kk
    induction kk using Nat.strongRecOn with
    | ind kk ih_loop4 =>
      intro c hkk hc5 hi lsX HX oX zl zP zD zS
      rcases nat_cs c with rfl | ⟨c, rfl⟩
      · have hi : nI 0 = vaO k o ke va ky ps := hi
        refine lv_iload_n zx zb d_M_valueAt_4 rfl (lv_at zl 3 rfl) ?_
        refine lv_if_lt (tgt := 45) zx zb d_M_valueAt_5 (by decide) (fun _ => ?_) (fun h => absurd h (fun h => h nP_0))
        refine lv_iconst (v := (nI 0)) zx zb d_M_valueAt_45 (by decide) ?_
        exact ct_iret zQ zx zb zr zk zP zD zS d_M_valueAt_46 rfl (⟨by rw [hi], rfl⟩)
      · have hkc := hk4 c (by omega)
        have zl : lv_has lsX 5 [(0, .ref m0), (1, .int (nI ky)), (2, .int (nI ps)), (3, .int (nI c))] := by rw [nP_s] at zl; exact zl
        refine lv_iload_n zx zb d_M_valueAt_4 rfl (lv_at zl 3 rfl) ?_
        refine wn_ilt_F (tgt := 45) zx zb d_M_valueAt_5 (by decide) (by omega) (trivial) ?_
        by_cases hkz : k c = 1
        · have hi : (match sfO k o ke (o c) ky c with | some j => va j | none => vaO k o ke va ky c) = vaO k o ke va ky ps := (if_pos hkz).symm.trans hi
          refine lv_aload_n zx zb d_M_valueAt_8 rfl (lv_at zl 0 rfl) ?_
          rcases hs : sfO k o ke (o c) ky c with _ | j
          · rw [hs] at hi
            have hi : vaO k o ke va ky c = vaO k o ke va ky ps := hi
            refine wv_get zx zb zg hin_M rfl zo zK zP 0 rfl 2 (by decide) rfl fl_M_7 rfl d_M_valueAt_9 ?_
            refine lv_iload_n zx zb d_M_valueAt_12 rfl (lv_at zl 3 rfl) ?_
            refine wv_ialdN zx zb zK zP 1 rfl (by omega) (by decide) d_M_valueAt_13 ?_
            refine lv_iconst (v := (nI 1)) zx zb d_M_valueAt_14 (by decide) ?_
            refine wn_cne_F (tgt := 39) zx zb d_M_valueAt_15 (by decide) (by omega) (by omega) (by omega) ?_
            refine lv_aload_n zx zb d_M_valueAt_18 rfl (lv_at zl 0 rfl) ?_
            refine lv_iload_n zx zb d_M_valueAt_19 rfl (lv_at zl 3 rfl) ?_
            refine lv_iload_n zx zb d_M_valueAt_20 rfl (lv_at zl 1 rfl) ?_
            refine ct_V (ws' := wM g m0 m1 m2 m3 m4 m5 m6 m7 m8 m9 m10 n sy k o ke va fl sg cp fs la nx hd dn tg bh) (rest := []) (st1 := [.int (-1)]) zx zb zm zo zg zK zP zD zS zA zl.1 (c_M_setFor_n lL g m0 m1 m2 m3 m4 m5 m6 m7 m8 m9 m10 n sy k o ke va fl sg cp fs la nx hd dn tg bh c ky (by omega) (fun i hi => hk4 i (by omega)) (fun i hi => hke i (by omega)) (by omega) hs) ok_M_setFor ov_M_setFor ml_M_49 (by decide) 0 7 rfl rfl rfl [0, 1, 2, 3, 4, 5, 6, 7, 8, 9, 10] [] 11 (by decide) rfl rfl rfl rfl (by decide) rfl rfl rfl (Nat.le_of_ble_eq_true rfl) d_M_valueAt_21 (fun HX oX zP zD zS => ?_)
            refine lv_istore (lv' := [(4, .int (-1)), (0, .ref m0), (1, .int (nI ky)), (2, .int (nI ps)), (3, .int (nI c))]) zx zb d_M_valueAt_24 zl (by decide) rfl (fun lsX zl => ?_)
            refine lv_iload zx zb d_M_valueAt_26 (lv_at zl 0 rfl) ?_
            refine lv_if_lt (tgt := 39) zx zb d_M_valueAt_28 (by decide) (fun _ => ?_) (fun h => absurd h (fun h => h (by decide)))
            refine lv_iinc (k := 4) (lv' := [(3, .int (nP c)), (4, .int (-1)), (0, .ref m0), (1, .int (nI ky)), (2, .int (nI ps))]) zx zb d_M_valueAt_39 zl rfl (nP_dec _) (by decide) rfl (fun lsX zl => ?_)
            refine lv_goto (tgt := 4) zx zb d_M_valueAt_42 (by decide) ?_
            exact ih_loop4 _ (by omega) c rfl (by omega) hi lsX HX oX (lv_sub zl [2, 3, 4, 0] rfl) zP zD zS
          · rw [hs] at hi
            have hi : va j = vaO k o ke va ky ps := hi
            have hjc := sfO_lt hs
            refine wv_get zx zb zg hin_M rfl zo zK zP 0 rfl 2 (by decide) rfl fl_M_7 rfl d_M_valueAt_9 ?_
            refine lv_iload_n zx zb d_M_valueAt_12 rfl (lv_at zl 3 rfl) ?_
            refine wv_ialdN zx zb zK zP 1 rfl (by omega) (by decide) d_M_valueAt_13 ?_
            refine lv_iconst (v := (nI 1)) zx zb d_M_valueAt_14 (by decide) ?_
            refine wn_cne_F (tgt := 39) zx zb d_M_valueAt_15 (by decide) (by omega) (by omega) (by omega) ?_
            refine lv_aload_n zx zb d_M_valueAt_18 rfl (lv_at zl 0 rfl) ?_
            refine lv_iload_n zx zb d_M_valueAt_19 rfl (lv_at zl 3 rfl) ?_
            refine lv_iload_n zx zb d_M_valueAt_20 rfl (lv_at zl 1 rfl) ?_
            refine ct_V (ws' := wM g m0 m1 m2 m3 m4 m5 m6 m7 m8 m9 m10 n sy k o ke va fl sg cp fs la nx hd dn tg bh) (rest := []) (st1 := [.int (nI j)]) zx zb zm zo zg zK zP zD zS zA zl.1 (c_M_setFor_s lL g m0 m1 m2 m3 m4 m5 m6 m7 m8 m9 m10 n sy k o ke va fl sg cp fs la nx hd dn tg bh c ky j (by omega) (fun i hi => hk4 i (by omega)) (fun i hi => hke i (by omega)) (by omega) hs) ok_M_setFor ov_M_setFor ml_M_49 (by decide) 0 7 rfl rfl rfl [0, 1, 2, 3, 4, 5, 6, 7, 8, 9, 10] [] 11 (by decide) rfl rfl rfl rfl (by decide) rfl rfl rfl (Nat.le_of_ble_eq_true rfl) d_M_valueAt_21 (fun HX oX zP zD zS => ?_)
            refine lv_istore (lv' := [(4, .int (nI j)), (0, .ref m0), (1, .int (nI ky)), (2, .int (nI ps)), (3, .int (nI c))]) zx zb d_M_valueAt_24 zl (by decide) rfl (fun lsX zl => ?_)
            refine lv_iload zx zb d_M_valueAt_26 (lv_at zl 0 rfl) ?_
            refine wn_ilt_F (tgt := 39) zx zb d_M_valueAt_28 (by decide) (by omega) (trivial) ?_
            refine lv_aload_n zx zb d_M_valueAt_31 rfl (lv_at zl 1 rfl) ?_
            refine wv_get zx zb zg hin_M rfl zo zK zP 0 rfl 5 (by decide) rfl fl_M_19 rfl d_M_valueAt_32 ?_
            refine lv_iload zx zb d_M_valueAt_35 (lv_at zl 0 rfl) ?_
            refine wv_iald zx zb zK zP 4 rfl (by omega) (by decide) d_M_valueAt_37 ?_
            exact ct_iret zQ zx zb zr zk zP zD zS d_M_valueAt_38 rfl (⟨by rw [hi], rfl⟩)
        · have hi : vaO k o ke va ky c = vaO k o ke va ky ps := (if_neg hkz).symm.trans hi
          refine lv_aload_n zx zb d_M_valueAt_8 rfl (lv_at zl 0 rfl) ?_
          refine wv_get zx zb zg hin_M rfl zo zK zP 0 rfl 2 (by decide) rfl fl_M_7 rfl d_M_valueAt_9 ?_
          refine lv_iload_n zx zb d_M_valueAt_12 rfl (lv_at zl 3 rfl) ?_
          refine wv_ialdN zx zb zK zP 1 rfl (by omega) (by decide) d_M_valueAt_13 ?_
          refine lv_iconst (v := (nI 1)) zx zb d_M_valueAt_14 (by decide) ?_
          refine wn_cne_T (tgt := 39) zx zb d_M_valueAt_15 (by decide) (by omega) (by omega) (by omega) ?_
          refine lv_iinc (k := 3) (lv' := [(3, .int (nP c)), (0, .ref m0), (1, .int (nI ky)), (2, .int (nI ps))]) zx zb d_M_valueAt_39 zl rfl (nP_dec _) (by decide) rfl (fun lsX zl => ?_)
          refine lv_goto (tgt := 4) zx zb d_M_valueAt_42 (by decide) ?_
          exact ih_loop4 _ (by omega) c rfl (by omega) hi lsX HX oX (lv_sub zl [1, 2, 3, 0] rfl) zP zD zS
  exact loop4 _ ps rfl (Nat.le_refl _) rfl lsX HX oX (lv_sub zl [1, 2, 3, 0] rfl) zP zD zS
