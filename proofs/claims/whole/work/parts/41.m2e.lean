set_option maxRecDepth 20000 in
theorem c_M_ans_b (lL : Launch) (g : Gt) (m0 : Nat) (m1 : Nat) (m2 : Nat) (m3 : Nat) (m4 : Nat) (m5 : Nat) (m6 : Nat) (m7 : Nat) (m8 : Nat) (m9 : Nat) (m10 : Nat) (n : Nat) (sy : Nat) (k : Nat → Nat) (o : Nat → Int32) (ke : Nat → Nat) (va : Nat → Int32) (fl : Nat → Nat) (sg : Nat → Nat) (cp : Nat → Nat) (fs : Nat → Nat) (la : Nat → Nat) (nx : Nat) (hd : Nat → Nat) (dn : Nat) (tg : Nat) (bh : Nat) (j : Nat) (ps : Nat) (G : Nat) (hj : j < 3) (hfj : sg j = 2) (hps : ps < 2147483648) (hla : la j ≤ 520) (hfs : fs j ≤ 520) (hee : la j ≤ ps) (hfp : fs j < ps) (hG0 : fs j / 8 ≤ G) (hG5 : G < 66) (hG1 : ∀ s, fs j / 8 ≤ s → s < G → hd s = 1) (hG3 : ps ≤ 8 * G) (hk4 : k (ps - 1) < 4) (hkc : k (ps - 1) ≠ 1) : Ct lL g y_M_answer (.code y_M_answer b_M_answer 4 (some .int)) 1 21 [.ref m0, .int (nI j), .int (nI ps)] (wM g m0 m1 m2 m3 m4 m5 m6 m7 m8 m9 m10 n sy k o ke va fl sg cp fs la nx hd dn tg bh) (exP (some (.int (-5))) (wM g m0 m1 m2 m3 m4 m5 m6 m7 m8 m9 m10 n sy k o ke va fl sg cp fs la nx hd dn tg bh)) := by
  refine Ct.ofW (by decide) (Nat.le_of_ble_eq_true rfl) ?_
  intro pX eX sX mX aX bX tX cX AX lsX HX oX QX zx zb zr zk zm zo zg zK zP zD zA zS zQ zl
  have zo : sX.vm.findClass R_M = some mX.cls := zo
  have zl : lv_has lsX 4 [(0, .ref m0), (1, .int (nI j)), (2, .int (nI ps))] := zl
  refine lv_aload_n zx zb d_M_answer_0 rfl (lv_at zl 0 rfl) ?_
  refine lv_iload_n zx zb d_M_answer_1 rfl (lv_at zl 1 rfl) ?_
  refine ct_V (ws' := wM g m0 m1 m2 m3 m4 m5 m6 m7 m8 m9 m10 n sy k o ke va fl sg cp fs la nx hd dn tg bh) (rest := []) (st1 := [.int (nI 1)]) zx zb zm zo zg zK zP zD zS zA zl.1 (c_M_fin_t lL g m0 m1 m2 m3 m4 m5 m6 m7 m8 m9 m10 n sy k o ke va fl sg cp fs la nx hd dn tg bh j (by omega) (by omega)) ok_M_finished ov_M_finished ml_M_87 (by decide) 0 7 rfl rfl rfl [0, 1, 2, 3, 4, 5, 6, 7, 8, 9, 10] [] 11 (by decide) rfl rfl rfl rfl (by decide) rfl rfl rfl (Nat.le_of_ble_eq_true rfl) d_M_answer_2 (fun HX oX zP zD zS => ?_)
  refine wn_ieq_F (tgt := 12) zx zb d_M_answer_5 (by decide) (by omega) (by omega) ?_
  refine lv_iload_n zx zb d_M_answer_8 rfl (lv_at zl 2 rfl) ?_
  refine wn_ige_T (tgt := 14) zx zb d_M_answer_9 (by decide) (by omega) (trivial) ?_
  refine lv_iload_n zx zb d_M_answer_14 rfl (lv_at zl 2 rfl) ?_
  refine lv_aload_n zx zb d_M_answer_15 rfl (lv_at zl 0 rfl) ?_
  refine wv_get zx zb zg hin_M rfl zo zK zP 0 rfl 10 (by decide) rfl fl_M_34 rfl d_M_answer_16 ?_
  refine lv_iload_n zx zb d_M_answer_19 rfl (lv_at zl 1 rfl) ?_
  refine wv_ialdN zx zb zK zP 9 rfl (by omega) (by decide) d_M_answer_20 ?_
  refine wn_cge_T (tgt := 27) zx zb d_M_answer_21 (by decide) (by omega) (by omega) (by omega) ?_
  refine lv_aload_n zx zb d_M_answer_27 rfl (lv_at zl 0 rfl) ?_
  refine wv_get zx zb zg hin_M rfl zo zK zP 0 rfl 9 (by decide) rfl fl_M_31 rfl d_M_answer_28 ?_
  refine lv_iload_n zx zb d_M_answer_31 rfl (lv_at zl 1 rfl) ?_
  refine wv_ialdN zx zb zK zP 8 rfl (by omega) (by decide) d_M_answer_32 ?_
  refine lv_bipush (v := (nI 8)) zx zb d_M_answer_33 (by decide) ?_
  refine wv_idiv zx zb d_M_answer_35 (by omega) (by omega) (by omega) ?_
  refine lv_istore_n (lv' := [(3, .int (nI ((fs j) / 8))), (0, .ref m0), (1, .int (nI j)), (2, .int (nI ps))]) zx zb d_M_answer_36 rfl zl (by decide) rfl (fun lsX zl => ?_)
  have loop37 : ∀ (kk : Nat) (s : Nat), kk = 66 - s → (fs j / 8 ≤ s) → (s ≤ G) → ∀ (lsX : Array Slot) (HX : Heap) (oX : List Loc), lv_has lsX 4 [(0, .ref m0), (1, .int (nI j)), (2, .int (nI ps)), (3, .int (nI s))] → va_P g.1 cls (wM g m0 m1 m2 m3 m4 m5 m6 m7 m8 m9 m10 n sy k o ke va fl sg cp fs la nx hd dn tg bh) HX → va_D AX (wM g m0 m1 m2 m3 m4 m5 m6 m7 m8 m9 m10 n sy k o ke va fl sg cp fs la nx hd dn tg bh) → va_S AX sX.heap HX oX → W pX lL eX (rmL 1 21) sX mX aX bX tX cX HX oX 0 0 QX (F0 mX 37 lsX []) := by
    intro kk
    induction kk using Nat.strongRecOn with
    | ind kk ih_loop37 =>
      intro s hkk hs1 hs2 lsX HX oX zl zP zD zS
      rcases Nat.lt_or_ge (8 * s) ps with h3 | h3
      · have hds := hG1 s hs1 (by omega)
        refine lv_iload_n zx zb d_M_answer_37 rfl (lv_at zl 3 rfl) ?_
        refine lv_bipush (v := (nI 66)) zx zb d_M_answer_38 (by decide) ?_
        refine wn_cge_F (tgt := 79) zx zb d_M_answer_40 (by decide) (by omega) (by omega) (by omega) ?_
        refine lv_bipush (v := (nI 8)) zx zb d_M_answer_43 (by decide) ?_
        refine lv_iload_n zx zb d_M_answer_45 rfl (lv_at zl 3 rfl) ?_
        refine wv_imul zx zb d_M_answer_46 (pk_mul _ _) ?_
        refine lv_iload_n zx zb d_M_answer_47 rfl (lv_at zl 2 rfl) ?_
        refine wn_cge_F (tgt := 79) zx zb d_M_answer_48 (by decide) (by omega) (by omega) (by omega) ?_
        refine lv_iload_n zx zb d_M_answer_51 rfl (lv_at zl 2 rfl) ?_
        refine lv_aload_n zx zb d_M_answer_52 rfl (lv_at zl 0 rfl) ?_
        refine wv_get zx zb zg hin_M rfl zo zK zP 0 rfl 9 (by decide) rfl fl_M_31 rfl d_M_answer_53 ?_
        refine lv_iload_n zx zb d_M_answer_56 rfl (lv_at zl 1 rfl) ?_
        refine wv_ialdN zx zb zK zP 8 rfl (by omega) (by decide) d_M_answer_57 ?_
        refine wn_cle_F (tgt := 73) zx zb d_M_answer_58 (by decide) (by omega) (by omega) (by omega) ?_
        refine lv_aload_n zx zb d_M_answer_61 rfl (lv_at zl 0 rfl) ?_
        refine wv_get zx zb zg hin_M rfl zo zK zP 0 rfl 12 (by decide) rfl fl_M_37 rfl d_M_answer_62 ?_
        refine lv_iload_n zx zb d_M_answer_65 rfl (lv_at zl 3 rfl) ?_
        refine wv_zaldN zx zb zK zP 10 rfl (by omega) (by decide) d_M_answer_66 ?_
        refine wn_ine_T (tgt := 73) zx zb d_M_answer_67 (by decide) (by omega) (by omega) ?_
        refine lv_iinc (k := 3) (lv' := [(3, .int (nI (s + 1))), (0, .ref m0), (1, .int (nI j)), (2, .int (nI ps))]) zx zb d_M_answer_73 zl rfl (ni_inc _) (by decide) rfl (fun lsX zl => ?_)
        refine lv_goto (tgt := 37) zx zb d_M_answer_76 (by decide) ?_
        exact ih_loop37 _ (by omega) (s + 1) rfl (by omega) (by omega) lsX HX oX (lv_sub zl [1, 2, 3, 0] rfl) zP zD zS
      · have h4 := h3
        refine lv_iload_n zx zb d_M_answer_37 rfl (lv_at zl 3 rfl) ?_
        refine lv_bipush (v := (nI 66)) zx zb d_M_answer_38 (by decide) ?_
        refine wn_cge_F (tgt := 79) zx zb d_M_answer_40 (by decide) (by omega) (by omega) (by omega) ?_
        refine lv_bipush (v := (nI 8)) zx zb d_M_answer_43 (by decide) ?_
        refine lv_iload_n zx zb d_M_answer_45 rfl (lv_at zl 3 rfl) ?_
        refine wv_imul zx zb d_M_answer_46 (pk_mul _ _) ?_
        refine lv_iload_n zx zb d_M_answer_47 rfl (lv_at zl 2 rfl) ?_
        refine wn_cge_T (tgt := 79) zx zb d_M_answer_48 (by decide) (by omega) (by omega) (by omega) ?_
        refine lv_bipush (v := (nI 8)) zx zb d_M_answer_79 (by decide) ?_
        refine lv_iload_n zx zb d_M_answer_81 rfl (lv_at zl 3 rfl) ?_
        refine wv_imul zx zb d_M_answer_82 (pk_mul _ _) ?_
        refine lv_iload_n zx zb d_M_answer_83 rfl (lv_at zl 2 rfl) ?_
        refine wn_cge_T (tgt := 90) zx zb d_M_answer_84 (by decide) (by omega) (by omega) (by omega) ?_
        refine lv_iload_n zx zb d_M_answer_90 rfl (lv_at zl 2 rfl) ?_
        refine lv_aload_n zx zb d_M_answer_91 rfl (lv_at zl 0 rfl) ?_
        refine wv_get zx zb zg hin_M rfl zo zK zP 0 rfl 9 (by decide) rfl fl_M_31 rfl d_M_answer_92 ?_
        refine lv_iload_n zx zb d_M_answer_95 rfl (lv_at zl 1 rfl) ?_
        refine wv_ialdN zx zb zK zP 8 rfl (by omega) (by decide) d_M_answer_96 ?_
        refine wn_ceq_F (tgt := 112) zx zb d_M_answer_97 (by decide) (by omega) (by omega) (by omega) ?_
        refine lv_aload_n zx zb d_M_answer_100 rfl (lv_at zl 0 rfl) ?_
        refine wv_get zx zb zg hin_M rfl zo zK zP 0 rfl 2 (by decide) rfl fl_M_7 rfl d_M_answer_101 ?_
        refine lv_iload_n zx zb d_M_answer_104 rfl (lv_at zl 2 rfl) ?_
        refine lv_iconst (v := (nI 1)) zx zb d_M_answer_105 (by decide) ?_
        refine wv_isub zx zb d_M_answer_106 (pk_sub (by omega)) ?_
        refine wv_ialdN zx zb zK zP 1 rfl (by omega) (by decide) d_M_answer_107 ?_
        refine lv_iconst (v := (nI 1)) zx zb d_M_answer_108 (by decide) ?_
        refine wn_cne_T (tgt := 116) zx zb d_M_answer_109 (by decide) (by omega) (by omega) (by omega) ?_
        refine lv_bipush (v := (-5)) zx zb d_M_answer_116 (by decide) ?_
        exact ct_iret zQ zx zb zr zk zP zD zS d_M_answer_118 rfl (⟨rfl, rfl⟩)
  exact loop37 _ ((fs j) / 8) rfl (Nat.le_refl _) hG0 lsX HX oX (lv_sub zl [1, 2, 3, 0] rfl) zP zD zS
set_option maxRecDepth 20000 in
theorem c_M_ans_s (lL : Launch) (g : Gt) (m0 : Nat) (m1 : Nat) (m2 : Nat) (m3 : Nat) (m4 : Nat) (m5 : Nat) (m6 : Nat) (m7 : Nat) (m8 : Nat) (m9 : Nat) (m10 : Nat) (n : Nat) (sy : Nat) (k : Nat → Nat) (o : Nat → Int32) (ke : Nat → Nat) (va : Nat → Int32) (fl : Nat → Nat) (sg : Nat → Nat) (cp : Nat → Nat) (fs : Nat → Nat) (la : Nat → Nat) (nx : Nat) (hd : Nat → Nat) (dn : Nat) (tg : Nat) (bh : Nat) (j : Nat) (ps : Nat) (hj : j < 3) (hfj : sg j = 2) (hps : ps < 2147483648) (hla : la j ≤ 520) (hfs : fs j ≤ 520) (hee : la j ≤ ps) (hfp : ps = fs j) (hfs2 : fs j ≤ 512) : Ct lL g y_M_answer (.code y_M_answer b_M_answer 4 (some .int)) 1 21 [.ref m0, .int (nI j), .int (nI ps)] (wM g m0 m1 m2 m3 m4 m5 m6 m7 m8 m9 m10 n sy k o ke va fl sg cp fs la nx hd dn tg bh) (exP (some (.int (nI 0))) (wM g m0 m1 m2 m3 m4 m5 m6 m7 m8 m9 m10 n sy k o ke va fl sg cp fs la nx hd dn tg bh)) := by
  refine Ct.ofW (by decide) (Nat.le_of_ble_eq_true rfl) ?_
  intro pX eX sX mX aX bX tX cX AX lsX HX oX QX zx zb zr zk zm zo zg zK zP zD zA zS zQ zl
  have zo : sX.vm.findClass R_M = some mX.cls := zo
  have zl : lv_has lsX 4 [(0, .ref m0), (1, .int (nI j)), (2, .int (nI ps))] := zl
  refine lv_aload_n zx zb d_M_answer_0 rfl (lv_at zl 0 rfl) ?_
  refine lv_iload_n zx zb d_M_answer_1 rfl (lv_at zl 1 rfl) ?_
  refine ct_V (ws' := wM g m0 m1 m2 m3 m4 m5 m6 m7 m8 m9 m10 n sy k o ke va fl sg cp fs la nx hd dn tg bh) (rest := []) (st1 := [.int (nI 1)]) zx zb zm zo zg zK zP zD zS zA zl.1 (c_M_fin_t lL g m0 m1 m2 m3 m4 m5 m6 m7 m8 m9 m10 n sy k o ke va fl sg cp fs la nx hd dn tg bh j (by omega) (by omega)) ok_M_finished ov_M_finished ml_M_87 (by decide) 0 7 rfl rfl rfl [0, 1, 2, 3, 4, 5, 6, 7, 8, 9, 10] [] 11 (by decide) rfl rfl rfl rfl (by decide) rfl rfl rfl (Nat.le_of_ble_eq_true rfl) d_M_answer_2 (fun HX oX zP zD zS => ?_)
  refine wn_ieq_F (tgt := 12) zx zb d_M_answer_5 (by decide) (by omega) (by omega) ?_
  refine lv_iload_n zx zb d_M_answer_8 rfl (lv_at zl 2 rfl) ?_
  refine wn_ige_T (tgt := 14) zx zb d_M_answer_9 (by decide) (by omega) (trivial) ?_
  refine lv_iload_n zx zb d_M_answer_14 rfl (lv_at zl 2 rfl) ?_
  refine lv_aload_n zx zb d_M_answer_15 rfl (lv_at zl 0 rfl) ?_
  refine wv_get zx zb zg hin_M rfl zo zK zP 0 rfl 10 (by decide) rfl fl_M_34 rfl d_M_answer_16 ?_
  refine lv_iload_n zx zb d_M_answer_19 rfl (lv_at zl 1 rfl) ?_
  refine wv_ialdN zx zb zK zP 9 rfl (by omega) (by decide) d_M_answer_20 ?_
  refine wn_cge_T (tgt := 27) zx zb d_M_answer_21 (by decide) (by omega) (by omega) (by omega) ?_
  refine lv_aload_n zx zb d_M_answer_27 rfl (lv_at zl 0 rfl) ?_
  refine wv_get zx zb zg hin_M rfl zo zK zP 0 rfl 9 (by decide) rfl fl_M_31 rfl d_M_answer_28 ?_
  refine lv_iload_n zx zb d_M_answer_31 rfl (lv_at zl 1 rfl) ?_
  refine wv_ialdN zx zb zK zP 8 rfl (by omega) (by decide) d_M_answer_32 ?_
  refine lv_bipush (v := (nI 8)) zx zb d_M_answer_33 (by decide) ?_
  refine wv_idiv zx zb d_M_answer_35 (by omega) (by omega) (by omega) ?_
  refine lv_istore_n (lv' := [(3, .int (nI ((fs j) / 8))), (0, .ref m0), (1, .int (nI j)), (2, .int (nI ps))]) zx zb d_M_answer_36 rfl zl (by decide) rfl (fun lsX zl => ?_)
  have loop37 : ∀ (kk : Nat) (s : Nat), kk = 66 - s → (s ≤ 65) → ∀ (lsX : Array Slot) (HX : Heap) (oX : List Loc), lv_has lsX 4 [(0, .ref m0), (1, .int (nI j)), (2, .int (nI ps)), (3, .int (nI s))] → va_P g.1 cls (wM g m0 m1 m2 m3 m4 m5 m6 m7 m8 m9 m10 n sy k o ke va fl sg cp fs la nx hd dn tg bh) HX → va_D AX (wM g m0 m1 m2 m3 m4 m5 m6 m7 m8 m9 m10 n sy k o ke va fl sg cp fs la nx hd dn tg bh) → va_S AX sX.heap HX oX → W pX lL eX (rmL 1 21) sX mX aX bX tX cX HX oX 0 0 QX (F0 mX 37 lsX []) := by
    intro kk
    induction kk using Nat.strongRecOn with
    | ind kk ih_loop37 =>
      intro s hkk hs1 lsX HX oX zl zP zD zS
      rcases Nat.lt_or_ge (8 * s) ps with h3 | h3
      · have h4 := h3
        refine lv_iload_n zx zb d_M_answer_37 rfl (lv_at zl 3 rfl) ?_
        refine lv_bipush (v := (nI 66)) zx zb d_M_answer_38 (by decide) ?_
        refine wn_cge_F (tgt := 79) zx zb d_M_answer_40 (by decide) (by omega) (by omega) (by omega) ?_
        refine lv_bipush (v := (nI 8)) zx zb d_M_answer_43 (by decide) ?_
        refine lv_iload_n zx zb d_M_answer_45 rfl (lv_at zl 3 rfl) ?_
        refine wv_imul zx zb d_M_answer_46 (pk_mul _ _) ?_
        refine lv_iload_n zx zb d_M_answer_47 rfl (lv_at zl 2 rfl) ?_
        refine wn_cge_F (tgt := 79) zx zb d_M_answer_48 (by decide) (by omega) (by omega) (by omega) ?_
        refine lv_iload_n zx zb d_M_answer_51 rfl (lv_at zl 2 rfl) ?_
        refine lv_aload_n zx zb d_M_answer_52 rfl (lv_at zl 0 rfl) ?_
        refine wv_get zx zb zg hin_M rfl zo zK zP 0 rfl 9 (by decide) rfl fl_M_31 rfl d_M_answer_53 ?_
        refine lv_iload_n zx zb d_M_answer_56 rfl (lv_at zl 1 rfl) ?_
        refine wv_ialdN zx zb zK zP 8 rfl (by omega) (by decide) d_M_answer_57 ?_
        refine wn_cle_T (tgt := 73) zx zb d_M_answer_58 (by decide) (by omega) (by omega) (by omega) ?_
        refine lv_iinc (k := 3) (lv' := [(3, .int (nI (s + 1))), (0, .ref m0), (1, .int (nI j)), (2, .int (nI ps))]) zx zb d_M_answer_73 zl rfl (ni_inc _) (by decide) rfl (fun lsX zl => ?_)
        refine lv_goto (tgt := 37) zx zb d_M_answer_76 (by decide) ?_
        exact ih_loop37 _ (by omega) (s + 1) rfl (by omega) lsX HX oX (lv_sub zl [1, 2, 3, 0] rfl) zP zD zS
      · have h4 := h3
        refine lv_iload_n zx zb d_M_answer_37 rfl (lv_at zl 3 rfl) ?_
        refine lv_bipush (v := (nI 66)) zx zb d_M_answer_38 (by decide) ?_
        refine wn_cge_F (tgt := 79) zx zb d_M_answer_40 (by decide) (by omega) (by omega) (by omega) ?_
        refine lv_bipush (v := (nI 8)) zx zb d_M_answer_43 (by decide) ?_
        refine lv_iload_n zx zb d_M_answer_45 rfl (lv_at zl 3 rfl) ?_
        refine wv_imul zx zb d_M_answer_46 (pk_mul _ _) ?_
        refine lv_iload_n zx zb d_M_answer_47 rfl (lv_at zl 2 rfl) ?_
        refine wn_cge_T (tgt := 79) zx zb d_M_answer_48 (by decide) (by omega) (by omega) (by omega) ?_
        refine lv_bipush (v := (nI 8)) zx zb d_M_answer_79 (by decide) ?_
        refine lv_iload_n zx zb d_M_answer_81 rfl (lv_at zl 3 rfl) ?_
        refine wv_imul zx zb d_M_answer_82 (pk_mul _ _) ?_
        refine lv_iload_n zx zb d_M_answer_83 rfl (lv_at zl 2 rfl) ?_
        refine wn_cge_T (tgt := 90) zx zb d_M_answer_84 (by decide) (by omega) (by omega) (by omega) ?_
        refine lv_iload_n zx zb d_M_answer_90 rfl (lv_at zl 2 rfl) ?_
        refine lv_aload_n zx zb d_M_answer_91 rfl (lv_at zl 0 rfl) ?_
        refine wv_get zx zb zg hin_M rfl zo zK zP 0 rfl 9 (by decide) rfl fl_M_31 rfl d_M_answer_92 ?_
        refine lv_iload_n zx zb d_M_answer_95 rfl (lv_at zl 1 rfl) ?_
        refine wv_ialdN zx zb zK zP 8 rfl (by omega) (by decide) d_M_answer_96 ?_
        refine wn_ceq_T (tgt := 112) zx zb d_M_answer_97 (by decide) (by omega) (by omega) (by omega) ?_
        refine lv_iconst (v := (nI 0)) zx zb d_M_answer_112 (by decide) ?_
        refine lv_goto (tgt := 118) zx zb d_M_answer_113 (by decide) ?_
        exact ct_iret zQ zx zb zr zk zP zD zS d_M_answer_118 rfl (⟨rfl, rfl⟩)
  exact loop37 _ ((fs j) / 8) rfl (by omega) lsX HX oX (lv_sub zl [1, 2, 3, 0] rfl) zP zD zS
set_option maxRecDepth 20000 in
theorem c_M_restore_n (lL : Launch) (g : Gt) (m0 : Nat) (m1 : Nat) (m2 : Nat) (m3 : Nat) (m4 : Nat) (m5 : Nat) (m6 : Nat) (m7 : Nat) (m8 : Nat) (m9 : Nat) (m10 : Nat) (n : Nat) (sy : Nat) (k : Nat → Nat) (o : Nat → Int32) (ke : Nat → Nat) (va : Nat → Int32) (fl : Nat → Nat) (sg : Nat → Nat) (cp : Nat → Nat) (fs : Nat → Nat) (la : Nat → Nat) (nx : Nat) (hd : Nat → Nat) (dn : Nat) (tg : Nat) (bh : Nat) (j : Int32) (ps : Int32) (hj : j < 0) : Ct lL g y_M_restore (.code y_M_restore b_M_restore 4 (some .int)) 6 200 [.ref m0, .int j, .int ps] (wM g m0 m1 m2 m3 m4 m5 m6 m7 m8 m9 m10 n sy k o ke va fl sg cp fs la nx hd dn tg bh) (exP (some (.int (-1))) (wM g m0 m1 m2 m3 m4 m5 m6 m7 m8 m9 m10 n sy k o ke va fl sg cp fs la nx hd dn tg bh)) := by
  refine Ct.ofW (by decide) (Nat.le_of_ble_eq_true rfl) ?_
  intro pX eX sX mX aX bX tX cX AX lsX HX oX QX zx zb zr zk zm zo zg zK zP zD zA zS zQ zl
  have zo : sX.vm.findClass R_M = some mX.cls := zo
  have zl : lv_has lsX 4 [(0, .ref m0), (1, .int j), (2, .int ps)] := zl
  refine lv_aload_n zx zb d_M_restore_0 rfl (lv_at zl 0 rfl) ?_
  refine lv_iload_n zx zb d_M_restore_1 rfl (lv_at zl 1 rfl) ?_
  refine lv_iload_n zx zb d_M_restore_2 rfl (lv_at zl 2 rfl) ?_
  refine ct_V (ws' := wM g m0 m1 m2 m3 m4 m5 m6 m7 m8 m9 m10 n sy k o ke va fl sg cp fs la nx hd dn tg bh) (rest := []) (st1 := [.int (-1)]) zx zb zm zo zg zK zP zD zS zA zl.1 (c_M_ans_n lL g m0 m1 m2 m3 m4 m5 m6 m7 m8 m9 m10 n sy k o ke va fl sg cp fs la nx hd dn tg bh j ps hj) ok_M_answer ov_M_answer ml_M_96 (by decide) 0 7 rfl rfl rfl [0, 1, 2, 3, 4, 5, 6, 7, 8, 9, 10] [] 11 (by decide) rfl rfl rfl rfl (by decide) rfl rfl rfl (Nat.le_of_ble_eq_true rfl) d_M_restore_3 (fun HX oX zP zD zS => ?_)
  refine lv_istore_n (lv' := [(3, .int (-1)), (0, .ref m0), (1, .int j), (2, .int ps)]) zx zb d_M_restore_6 rfl zl (by decide) rfl (fun lsX zl => ?_)
  refine lv_iload_n zx zb d_M_restore_7 rfl (lv_at zl 0 rfl) ?_
  refine lv_if_ne (tgt := 33) zx zb d_M_restore_8 (by decide) (fun _ => ?_) (fun h => absurd h (by decide))
  refine lv_iload_n zx zb d_M_restore_33 rfl (lv_at zl 0 rfl) ?_
  exact ct_iret zQ zx zb zr zk zP zD zS d_M_restore_34 rfl (⟨rfl, rfl⟩)
set_option maxRecDepth 20000 in
theorem c_M_restore_g (lL : Launch) (g : Gt) (m0 : Nat) (m1 : Nat) (m2 : Nat) (m3 : Nat) (m4 : Nat) (m5 : Nat) (m6 : Nat) (m7 : Nat) (m8 : Nat) (m9 : Nat) (m10 : Nat) (n : Nat) (sy : Nat) (k : Nat → Nat) (o : Nat → Int32) (ke : Nat → Nat) (va : Nat → Int32) (fl : Nat → Nat) (sg : Nat → Nat) (cp : Nat → Nat) (fs : Nat → Nat) (la : Nat → Nat) (nx : Nat) (hd : Nat → Nat) (dn : Nat) (tg : Nat) (bh : Nat) (j : Nat) (ps : Int32) (hj : 3 ≤ j) (hj2 : j < 2147483648) : Ct lL g y_M_restore (.code y_M_restore b_M_restore 4 (some .int)) 6 200 [.ref m0, .int (nI j), .int ps] (wM g m0 m1 m2 m3 m4 m5 m6 m7 m8 m9 m10 n sy k o ke va fl sg cp fs la nx hd dn tg bh) (exP (some (.int (-1))) (wM g m0 m1 m2 m3 m4 m5 m6 m7 m8 m9 m10 n sy k o ke va fl sg cp fs la nx hd dn tg bh)) := by
  refine Ct.ofW (by decide) (Nat.le_of_ble_eq_true rfl) ?_
  intro pX eX sX mX aX bX tX cX AX lsX HX oX QX zx zb zr zk zm zo zg zK zP zD zA zS zQ zl
  have zo : sX.vm.findClass R_M = some mX.cls := zo
  have zl : lv_has lsX 4 [(0, .ref m0), (1, .int (nI j)), (2, .int ps)] := zl
  refine lv_aload_n zx zb d_M_restore_0 rfl (lv_at zl 0 rfl) ?_
  refine lv_iload_n zx zb d_M_restore_1 rfl (lv_at zl 1 rfl) ?_
  refine lv_iload_n zx zb d_M_restore_2 rfl (lv_at zl 2 rfl) ?_
  refine ct_V (ws' := wM g m0 m1 m2 m3 m4 m5 m6 m7 m8 m9 m10 n sy k o ke va fl sg cp fs la nx hd dn tg bh) (rest := []) (st1 := [.int (-1)]) zx zb zm zo zg zK zP zD zS zA zl.1 (c_M_ans_g lL g m0 m1 m2 m3 m4 m5 m6 m7 m8 m9 m10 n sy k o ke va fl sg cp fs la nx hd dn tg bh j ps hj hj2) ok_M_answer ov_M_answer ml_M_96 (by decide) 0 7 rfl rfl rfl [0, 1, 2, 3, 4, 5, 6, 7, 8, 9, 10] [] 11 (by decide) rfl rfl rfl rfl (by decide) rfl rfl rfl (Nat.le_of_ble_eq_true rfl) d_M_restore_3 (fun HX oX zP zD zS => ?_)
  refine lv_istore_n (lv' := [(3, .int (-1)), (0, .ref m0), (1, .int (nI j)), (2, .int ps)]) zx zb d_M_restore_6 rfl zl (by decide) rfl (fun lsX zl => ?_)
  refine lv_iload_n zx zb d_M_restore_7 rfl (lv_at zl 0 rfl) ?_
  refine lv_if_ne (tgt := 33) zx zb d_M_restore_8 (by decide) (fun _ => ?_) (fun h => absurd h (by decide))
  refine lv_iload_n zx zb d_M_restore_33 rfl (lv_at zl 0 rfl) ?_
  exact ct_iret zQ zx zb zr zk zP zD zS d_M_restore_34 rfl (⟨rfl, rfl⟩)
set_option maxRecDepth 20000 in
theorem c_M_restore_f (lL : Launch) (g : Gt) (m0 : Nat) (m1 : Nat) (m2 : Nat) (m3 : Nat) (m4 : Nat) (m5 : Nat) (m6 : Nat) (m7 : Nat) (m8 : Nat) (m9 : Nat) (m10 : Nat) (n : Nat) (sy : Nat) (k : Nat → Nat) (o : Nat → Int32) (ke : Nat → Nat) (va : Nat → Int32) (fl : Nat → Nat) (sg : Nat → Nat) (cp : Nat → Nat) (fs : Nat → Nat) (la : Nat → Nat) (nx : Nat) (hd : Nat → Nat) (dn : Nat) (tg : Nat) (bh : Nat) (j : Nat) (ps : Int32) (hj : j < 3) (hfj : sg j ≠ 2) (hfj2 : sg j ≤ 2) : Ct lL g y_M_restore (.code y_M_restore b_M_restore 4 (some .int)) 6 200 [.ref m0, .int (nI j), .int ps] (wM g m0 m1 m2 m3 m4 m5 m6 m7 m8 m9 m10 n sy k o ke va fl sg cp fs la nx hd dn tg bh) (exP (some (.int (-1))) (wM g m0 m1 m2 m3 m4 m5 m6 m7 m8 m9 m10 n sy k o ke va fl sg cp fs la nx hd dn tg bh)) := by
  refine Ct.ofW (by decide) (Nat.le_of_ble_eq_true rfl) ?_
  intro pX eX sX mX aX bX tX cX AX lsX HX oX QX zx zb zr zk zm zo zg zK zP zD zA zS zQ zl
  have zo : sX.vm.findClass R_M = some mX.cls := zo
  have zl : lv_has lsX 4 [(0, .ref m0), (1, .int (nI j)), (2, .int ps)] := zl
  refine lv_aload_n zx zb d_M_restore_0 rfl (lv_at zl 0 rfl) ?_
  refine lv_iload_n zx zb d_M_restore_1 rfl (lv_at zl 1 rfl) ?_
  refine lv_iload_n zx zb d_M_restore_2 rfl (lv_at zl 2 rfl) ?_
  refine ct_V (ws' := wM g m0 m1 m2 m3 m4 m5 m6 m7 m8 m9 m10 n sy k o ke va fl sg cp fs la nx hd dn tg bh) (rest := []) (st1 := [.int (-1)]) zx zb zm zo zg zK zP zD zS zA zl.1 (c_M_ans_f lL g m0 m1 m2 m3 m4 m5 m6 m7 m8 m9 m10 n sy k o ke va fl sg cp fs la nx hd dn tg bh j ps hj hfj hfj2) ok_M_answer ov_M_answer ml_M_96 (by decide) 0 7 rfl rfl rfl [0, 1, 2, 3, 4, 5, 6, 7, 8, 9, 10] [] 11 (by decide) rfl rfl rfl rfl (by decide) rfl rfl rfl (Nat.le_of_ble_eq_true rfl) d_M_restore_3 (fun HX oX zP zD zS => ?_)
  refine lv_istore_n (lv' := [(3, .int (-1)), (0, .ref m0), (1, .int (nI j)), (2, .int ps)]) zx zb d_M_restore_6 rfl zl (by decide) rfl (fun lsX zl => ?_)
  refine lv_iload_n zx zb d_M_restore_7 rfl (lv_at zl 0 rfl) ?_
  refine lv_if_ne (tgt := 33) zx zb d_M_restore_8 (by decide) (fun _ => ?_) (fun h => absurd h (by decide))
  refine lv_iload_n zx zb d_M_restore_33 rfl (lv_at zl 0 rfl) ?_
  exact ct_iret zQ zx zb zr zk zP zD zS d_M_restore_34 rfl (⟨rfl, rfl⟩)
set_option maxRecDepth 20000 in
theorem c_M_restore_pn (lL : Launch) (g : Gt) (m0 : Nat) (m1 : Nat) (m2 : Nat) (m3 : Nat) (m4 : Nat) (m5 : Nat) (m6 : Nat) (m7 : Nat) (m8 : Nat) (m9 : Nat) (m10 : Nat) (n : Nat) (sy : Nat) (k : Nat → Nat) (o : Nat → Int32) (ke : Nat → Nat) (va : Nat → Int32) (fl : Nat → Nat) (sg : Nat → Nat) (cp : Nat → Nat) (fs : Nat → Nat) (la : Nat → Nat) (nx : Nat) (hd : Nat → Nat) (dn : Nat) (tg : Nat) (bh : Nat) (j : Nat) (ps : Int32) (hj : j < 3) (hfj : sg j = 2) (hps : ps < 0) : Ct lL g y_M_restore (.code y_M_restore b_M_restore 4 (some .int)) 6 200 [.ref m0, .int (nI j), .int ps] (wM g m0 m1 m2 m3 m4 m5 m6 m7 m8 m9 m10 n sy k o ke va fl sg cp fs la nx hd dn tg bh) (exP (some (.int (-1))) (wM g m0 m1 m2 m3 m4 m5 m6 m7 m8 m9 m10 n sy k o ke va fl sg cp fs la nx hd dn tg bh)) := by
  refine Ct.ofW (by decide) (Nat.le_of_ble_eq_true rfl) ?_
  intro pX eX sX mX aX bX tX cX AX lsX HX oX QX zx zb zr zk zm zo zg zK zP zD zA zS zQ zl
  have zo : sX.vm.findClass R_M = some mX.cls := zo
  have zl : lv_has lsX 4 [(0, .ref m0), (1, .int (nI j)), (2, .int ps)] := zl
  refine lv_aload_n zx zb d_M_restore_0 rfl (lv_at zl 0 rfl) ?_
  refine lv_iload_n zx zb d_M_restore_1 rfl (lv_at zl 1 rfl) ?_
  refine lv_iload_n zx zb d_M_restore_2 rfl (lv_at zl 2 rfl) ?_
  refine ct_V (ws' := wM g m0 m1 m2 m3 m4 m5 m6 m7 m8 m9 m10 n sy k o ke va fl sg cp fs la nx hd dn tg bh) (rest := []) (st1 := [.int (-1)]) zx zb zm zo zg zK zP zD zS zA zl.1 (c_M_ans_pn lL g m0 m1 m2 m3 m4 m5 m6 m7 m8 m9 m10 n sy k o ke va fl sg cp fs la nx hd dn tg bh j ps hj hfj hps) ok_M_answer ov_M_answer ml_M_96 (by decide) 0 7 rfl rfl rfl [0, 1, 2, 3, 4, 5, 6, 7, 8, 9, 10] [] 11 (by decide) rfl rfl rfl rfl (by decide) rfl rfl rfl (Nat.le_of_ble_eq_true rfl) d_M_restore_3 (fun HX oX zP zD zS => ?_)
  refine lv_istore_n (lv' := [(3, .int (-1)), (0, .ref m0), (1, .int (nI j)), (2, .int ps)]) zx zb d_M_restore_6 rfl zl (by decide) rfl (fun lsX zl => ?_)
  refine lv_iload_n zx zb d_M_restore_7 rfl (lv_at zl 0 rfl) ?_
  refine lv_if_ne (tgt := 33) zx zb d_M_restore_8 (by decide) (fun _ => ?_) (fun h => absurd h (by decide))
  refine lv_iload_n zx zb d_M_restore_33 rfl (lv_at zl 0 rfl) ?_
  exact ct_iret zQ zx zb zr zk zP zD zS d_M_restore_34 rfl (⟨rfl, rfl⟩)
set_option maxRecDepth 20000 in
theorem c_M_restore_e (lL : Launch) (g : Gt) (m0 : Nat) (m1 : Nat) (m2 : Nat) (m3 : Nat) (m4 : Nat) (m5 : Nat) (m6 : Nat) (m7 : Nat) (m8 : Nat) (m9 : Nat) (m10 : Nat) (n : Nat) (sy : Nat) (k : Nat → Nat) (o : Nat → Int32) (ke : Nat → Nat) (va : Nat → Int32) (fl : Nat → Nat) (sg : Nat → Nat) (cp : Nat → Nat) (fs : Nat → Nat) (la : Nat → Nat) (nx : Nat) (hd : Nat → Nat) (dn : Nat) (tg : Nat) (bh : Nat) (j : Nat) (ps : Nat) (hj : j < 3) (hfj : sg j = 2) (hps : ps < 2147483648) (hla : la j ≤ 520) (hfs : fs j ≤ 520) (hee : ps < la j) : Ct lL g y_M_restore (.code y_M_restore b_M_restore 4 (some .int)) 6 200 [.ref m0, .int (nI j), .int (nI ps)] (wM g m0 m1 m2 m3 m4 m5 m6 m7 m8 m9 m10 n sy k o ke va fl sg cp fs la nx hd dn tg bh) (exP (some (.int (-4))) (wM g m0 m1 m2 m3 m4 m5 m6 m7 m8 m9 m10 n sy k o ke va fl sg cp fs la nx hd dn tg bh)) := by
  refine Ct.ofW (by decide) (Nat.le_of_ble_eq_true rfl) ?_
  intro pX eX sX mX aX bX tX cX AX lsX HX oX QX zx zb zr zk zm zo zg zK zP zD zA zS zQ zl
  have zo : sX.vm.findClass R_M = some mX.cls := zo
  have zl : lv_has lsX 4 [(0, .ref m0), (1, .int (nI j)), (2, .int (nI ps))] := zl
  refine lv_aload_n zx zb d_M_restore_0 rfl (lv_at zl 0 rfl) ?_
  refine lv_iload_n zx zb d_M_restore_1 rfl (lv_at zl 1 rfl) ?_
  refine lv_iload_n zx zb d_M_restore_2 rfl (lv_at zl 2 rfl) ?_
  refine ct_V (ws' := wM g m0 m1 m2 m3 m4 m5 m6 m7 m8 m9 m10 n sy k o ke va fl sg cp fs la nx hd dn tg bh) (rest := []) (st1 := [.int (-4)]) zx zb zm zo zg zK zP zD zS zA zl.1 (c_M_ans_e lL g m0 m1 m2 m3 m4 m5 m6 m7 m8 m9 m10 n sy k o ke va fl sg cp fs la nx hd dn tg bh j ps hj hfj hps hla hfs hee) ok_M_answer ov_M_answer ml_M_96 (by decide) 0 7 rfl rfl rfl [0, 1, 2, 3, 4, 5, 6, 7, 8, 9, 10] [] 11 (by decide) rfl rfl rfl rfl (by decide) rfl rfl rfl (Nat.le_of_ble_eq_true rfl) d_M_restore_3 (fun HX oX zP zD zS => ?_)
  refine lv_istore_n (lv' := [(3, .int (-4)), (0, .ref m0), (1, .int (nI j)), (2, .int (nI ps))]) zx zb d_M_restore_6 rfl zl (by decide) rfl (fun lsX zl => ?_)
  refine lv_iload_n zx zb d_M_restore_7 rfl (lv_at zl 0 rfl) ?_
  refine lv_if_ne (tgt := 33) zx zb d_M_restore_8 (by decide) (fun _ => ?_) (fun h => absurd h (by decide))
  refine lv_iload_n zx zb d_M_restore_33 rfl (lv_at zl 0 rfl) ?_
  exact ct_iret zQ zx zb zr zk zP zD zS d_M_restore_34 rfl (⟨rfl, rfl⟩)
set_option maxRecDepth 20000 in
theorem c_M_restore_m (lL : Launch) (g : Gt) (m0 : Nat) (m1 : Nat) (m2 : Nat) (m3 : Nat) (m4 : Nat) (m5 : Nat) (m6 : Nat) (m7 : Nat) (m8 : Nat) (m9 : Nat) (m10 : Nat) (n : Nat) (sy : Nat) (k : Nat → Nat) (o : Nat → Int32) (ke : Nat → Nat) (va : Nat → Int32) (fl : Nat → Nat) (sg : Nat → Nat) (cp : Nat → Nat) (fs : Nat → Nat) (la : Nat → Nat) (nx : Nat) (hd : Nat → Nat) (dn : Nat) (tg : Nat) (bh : Nat) (j : Nat) (ps : Nat) (G : Nat) (hj : j < 3) (hfj : sg j = 2) (hps : ps < 2147483648) (hla : la j ≤ 520) (hfs : fs j ≤ 520) (hee : la j ≤ ps) (hfp : fs j < ps) (hG0 : fs j / 8 ≤ G) (hG5 : G < 66) (hG1 : ∀ s, fs j / 8 ≤ s → s < G → hd s = 1) (hG2 : hd G = 0) (hG3 : 8 * G < ps) : Ct lL g y_M_restore (.code y_M_restore b_M_restore 4 (some .int)) 6 200 [.ref m0, .int (nI j), .int (nI ps)] (wM g m0 m1 m2 m3 m4 m5 m6 m7 m8 m9 m10 n sy k o ke va fl sg cp fs la nx hd dn tg bh) (exP (some (.int (-6))) (wM g m0 m1 m2 m3 m4 m5 m6 m7 m8 m9 m10 n sy k o ke va fl sg cp fs la nx hd dn tg bh)) := by
  refine Ct.ofW (by decide) (Nat.le_of_ble_eq_true rfl) ?_
  intro pX eX sX mX aX bX tX cX AX lsX HX oX QX zx zb zr zk zm zo zg zK zP zD zA zS zQ zl
  have zo : sX.vm.findClass R_M = some mX.cls := zo
  have zl : lv_has lsX 4 [(0, .ref m0), (1, .int (nI j)), (2, .int (nI ps))] := zl
  refine lv_aload_n zx zb d_M_restore_0 rfl (lv_at zl 0 rfl) ?_
  refine lv_iload_n zx zb d_M_restore_1 rfl (lv_at zl 1 rfl) ?_
  refine lv_iload_n zx zb d_M_restore_2 rfl (lv_at zl 2 rfl) ?_
  refine ct_V (ws' := wM g m0 m1 m2 m3 m4 m5 m6 m7 m8 m9 m10 n sy k o ke va fl sg cp fs la nx hd dn tg bh) (rest := []) (st1 := [.int (-6)]) zx zb zm zo zg zK zP zD zS zA zl.1 (c_M_ans_m lL g m0 m1 m2 m3 m4 m5 m6 m7 m8 m9 m10 n sy k o ke va fl sg cp fs la nx hd dn tg bh j ps G hj hfj hps hla hfs hee hfp hG0 hG5 hG1 hG2 hG3) ok_M_answer ov_M_answer ml_M_96 (by decide) 0 7 rfl rfl rfl [0, 1, 2, 3, 4, 5, 6, 7, 8, 9, 10] [] 11 (by decide) rfl rfl rfl rfl (by decide) rfl rfl rfl (Nat.le_of_ble_eq_true rfl) d_M_restore_3 (fun HX oX zP zD zS => ?_)
  refine lv_istore_n (lv' := [(3, .int (-6)), (0, .ref m0), (1, .int (nI j)), (2, .int (nI ps))]) zx zb d_M_restore_6 rfl zl (by decide) rfl (fun lsX zl => ?_)
  refine lv_iload_n zx zb d_M_restore_7 rfl (lv_at zl 0 rfl) ?_
  refine lv_if_ne (tgt := 33) zx zb d_M_restore_8 (by decide) (fun _ => ?_) (fun h => absurd h (by decide))
  refine lv_iload_n zx zb d_M_restore_33 rfl (lv_at zl 0 rfl) ?_
  exact ct_iret zQ zx zb zr zk zP zD zS d_M_restore_34 rfl (⟨rfl, rfl⟩)
set_option maxRecDepth 20000 in
theorem c_M_restore_b (lL : Launch) (g : Gt) (m0 : Nat) (m1 : Nat) (m2 : Nat) (m3 : Nat) (m4 : Nat) (m5 : Nat) (m6 : Nat) (m7 : Nat) (m8 : Nat) (m9 : Nat) (m10 : Nat) (n : Nat) (sy : Nat) (k : Nat → Nat) (o : Nat → Int32) (ke : Nat → Nat) (va : Nat → Int32) (fl : Nat → Nat) (sg : Nat → Nat) (cp : Nat → Nat) (fs : Nat → Nat) (la : Nat → Nat) (nx : Nat) (hd : Nat → Nat) (dn : Nat) (tg : Nat) (bh : Nat) (j : Nat) (ps : Nat) (G : Nat) (hj : j < 3) (hfj : sg j = 2) (hps : ps < 2147483648) (hla : la j ≤ 520) (hfs : fs j ≤ 520) (hee : la j ≤ ps) (hfp : fs j < ps) (hG0 : fs j / 8 ≤ G) (hG5 : G < 66) (hG1 : ∀ s, fs j / 8 ≤ s → s < G → hd s = 1) (hG3 : ps ≤ 8 * G) (hk4 : k (ps - 1) < 4) (hkc : k (ps - 1) ≠ 1) : Ct lL g y_M_restore (.code y_M_restore b_M_restore 4 (some .int)) 6 200 [.ref m0, .int (nI j), .int (nI ps)] (wM g m0 m1 m2 m3 m4 m5 m6 m7 m8 m9 m10 n sy k o ke va fl sg cp fs la nx hd dn tg bh) (exP (some (.int (-5))) (wM g m0 m1 m2 m3 m4 m5 m6 m7 m8 m9 m10 n sy k o ke va fl sg cp fs la nx hd dn tg bh)) := by
  refine Ct.ofW (by decide) (Nat.le_of_ble_eq_true rfl) ?_
  intro pX eX sX mX aX bX tX cX AX lsX HX oX QX zx zb zr zk zm zo zg zK zP zD zA zS zQ zl
  have zo : sX.vm.findClass R_M = some mX.cls := zo
  have zl : lv_has lsX 4 [(0, .ref m0), (1, .int (nI j)), (2, .int (nI ps))] := zl
  refine lv_aload_n zx zb d_M_restore_0 rfl (lv_at zl 0 rfl) ?_
  refine lv_iload_n zx zb d_M_restore_1 rfl (lv_at zl 1 rfl) ?_
  refine lv_iload_n zx zb d_M_restore_2 rfl (lv_at zl 2 rfl) ?_
  refine ct_V (ws' := wM g m0 m1 m2 m3 m4 m5 m6 m7 m8 m9 m10 n sy k o ke va fl sg cp fs la nx hd dn tg bh) (rest := []) (st1 := [.int (-5)]) zx zb zm zo zg zK zP zD zS zA zl.1 (c_M_ans_b lL g m0 m1 m2 m3 m4 m5 m6 m7 m8 m9 m10 n sy k o ke va fl sg cp fs la nx hd dn tg bh j ps G hj hfj hps hla hfs hee hfp hG0 hG5 hG1 hG3 hk4 hkc) ok_M_answer ov_M_answer ml_M_96 (by decide) 0 7 rfl rfl rfl [0, 1, 2, 3, 4, 5, 6, 7, 8, 9, 10] [] 11 (by decide) rfl rfl rfl rfl (by decide) rfl rfl rfl (Nat.le_of_ble_eq_true rfl) d_M_restore_3 (fun HX oX zP zD zS => ?_)
  refine lv_istore_n (lv' := [(3, .int (-5)), (0, .ref m0), (1, .int (nI j)), (2, .int (nI ps))]) zx zb d_M_restore_6 rfl zl (by decide) rfl (fun lsX zl => ?_)
  refine lv_iload_n zx zb d_M_restore_7 rfl (lv_at zl 0 rfl) ?_
  refine lv_if_ne (tgt := 33) zx zb d_M_restore_8 (by decide) (fun _ => ?_) (fun h => absurd h (by decide))
  refine lv_iload_n zx zb d_M_restore_33 rfl (lv_at zl 0 rfl) ?_
  exact ct_iret zQ zx zb zr zk zP zD zS d_M_restore_34 rfl (⟨rfl, rfl⟩)
set_option maxRecDepth 20000 in
theorem c_M_restore_c (lL : Launch) (g : Gt) (m0 : Nat) (m1 : Nat) (m2 : Nat) (m3 : Nat) (m4 : Nat) (m5 : Nat) (m6 : Nat) (m7 : Nat) (m8 : Nat) (m9 : Nat) (m10 : Nat) (n : Nat) (sy : Nat) (k : Nat → Nat) (o : Nat → Int32) (ke : Nat → Nat) (va : Nat → Int32) (fl : Nat → Nat) (sg : Nat → Nat) (cp : Nat → Nat) (fs : Nat → Nat) (la : Nat → Nat) (nx : Nat) (hd : Nat → Nat) (dn : Nat) (tg : Nat) (bh : Nat) (j : Nat) (ps : Nat) (G : Nat) (hj : j < 3) (hfj : sg j = 2) (hps : ps < 2147483648) (hla : la j ≤ 520) (hfs : fs j ≤ 520) (hee : la j ≤ ps) (hfp : fs j < ps) (hG0 : fs j / 8 ≤ G) (hG5 : G < 66) (hG1 : ∀ s, fs j / 8 ≤ s → s < G → hd s = 1) (hG3 : ps ≤ 8 * G) (hk4 : k (ps - 1) < 4) (hkc : k (ps - 1) = 1) : Ct lL g y_M_restore (.code y_M_restore b_M_restore 4 (some .int)) 6 200 [.ref m0, .int (nI j), .int (nI ps)] (wM g m0 m1 m2 m3 m4 m5 m6 m7 m8 m9 m10 n sy k o ke va fl sg cp fs la nx hd dn tg bh) (exP (some (.int (nI 0))) (wM g m0 m1 m2 m3 m4 m5 m6 m7 m8 m9 m10 n sy k o ke va fl sg cp fs la nx hd 1 ps (ps - (fs j)))) := by
  refine Ct.ofW (by decide) (Nat.le_of_ble_eq_true rfl) ?_
  intro pX eX sX mX aX bX tX cX AX lsX HX oX QX zx zb zr zk zm zo zg zK zP zD zA zS zQ zl
  have zo : sX.vm.findClass R_M = some mX.cls := zo
  have zl : lv_has lsX 4 [(0, .ref m0), (1, .int (nI j)), (2, .int (nI ps))] := zl
  refine lv_aload_n zx zb d_M_restore_0 rfl (lv_at zl 0 rfl) ?_
  refine lv_iload_n zx zb d_M_restore_1 rfl (lv_at zl 1 rfl) ?_
  refine lv_iload_n zx zb d_M_restore_2 rfl (lv_at zl 2 rfl) ?_
  refine ct_V (ws' := wM g m0 m1 m2 m3 m4 m5 m6 m7 m8 m9 m10 n sy k o ke va fl sg cp fs la nx hd dn tg bh) (rest := []) (st1 := [.int (nI 0)]) zx zb zm zo zg zK zP zD zS zA zl.1 (c_M_ans_c lL g m0 m1 m2 m3 m4 m5 m6 m7 m8 m9 m10 n sy k o ke va fl sg cp fs la nx hd dn tg bh j ps G hj hfj hps hla hfs hee hfp hG0 hG5 hG1 hG3 hk4 hkc) ok_M_answer ov_M_answer ml_M_96 (by decide) 0 7 rfl rfl rfl [0, 1, 2, 3, 4, 5, 6, 7, 8, 9, 10] [] 11 (by decide) rfl rfl rfl rfl (by decide) rfl rfl rfl (Nat.le_of_ble_eq_true rfl) d_M_restore_3 (fun HX oX zP zD zS => ?_)
  refine lv_istore_n (lv' := [(3, .int (nI 0)), (0, .ref m0), (1, .int (nI j)), (2, .int (nI ps))]) zx zb d_M_restore_6 rfl zl (by decide) rfl (fun lsX zl => ?_)
  refine lv_iload_n zx zb d_M_restore_7 rfl (lv_at zl 0 rfl) ?_
  refine wn_ine_F (tgt := 33) zx zb d_M_restore_8 (by decide) (by omega) (by omega) ?_
  refine lv_aload_n zx zb d_M_restore_11 rfl (lv_at zl 1 rfl) ?_
  refine lv_iconst (v := (nI 1)) zx zb d_M_restore_12 (by decide) ?_
  refine wv_put zx zb zg hin_M rfl t_M t_M_ok n_M zo zK zP zD zS 0 rfl 13 (by decide) rfl fl_M_99 rfl (by decide) rfl (Nat.le_of_ble_eq_true rfl) d_M_restore_13 (fun HX oX zP zD zS => ?_)
  have zP : va_P g.1 cls (wM g m0 m1 m2 m3 m4 m5 m6 m7 m8 m9 m10 n sy k o ke va fl sg cp fs la nx hd 1 tg bh) HX := zP
  have zD : va_D AX (wM g m0 m1 m2 m3 m4 m5 m6 m7 m8 m9 m10 n sy k o ke va fl sg cp fs la nx hd 1 tg bh) := zD
  refine lv_aload_n zx zb d_M_restore_16 rfl (lv_at zl 1 rfl) ?_
  refine lv_iload_n zx zb d_M_restore_17 rfl (lv_at zl 3 rfl) ?_
  refine wv_put zx zb zg hin_M rfl t_M t_M_ok n_M zo zK zP zD zS 0 rfl 14 (by decide) rfl fl_M_103 rfl rfl rfl (Nat.le_of_ble_eq_true rfl) d_M_restore_18 (fun HX oX zP zD zS => ?_)
  have zP : va_P g.1 cls (wM g m0 m1 m2 m3 m4 m5 m6 m7 m8 m9 m10 n sy k o ke va fl sg cp fs la nx hd 1 ps bh) HX := zP
  have zD : va_D AX (wM g m0 m1 m2 m3 m4 m5 m6 m7 m8 m9 m10 n sy k o ke va fl sg cp fs la nx hd 1 ps bh) := zD
  refine lv_aload_n zx zb d_M_restore_21 rfl (lv_at zl 1 rfl) ?_
  refine lv_iload_n zx zb d_M_restore_22 rfl (lv_at zl 3 rfl) ?_
  refine lv_aload_n zx zb d_M_restore_23 rfl (lv_at zl 1 rfl) ?_
  refine wv_get zx zb zg hin_M rfl zo zK zP 0 rfl 9 (by decide) rfl fl_M_31 rfl d_M_restore_24 ?_
  refine lv_iload_n zx zb d_M_restore_27 rfl (lv_at zl 2 rfl) ?_
  refine wv_ialdN zx zb zK zP 8 rfl (by omega) (by decide) d_M_restore_28 ?_
  refine wv_isub zx zb d_M_restore_29 (pk_sub (by omega)) ?_
  refine wv_put zx zb zg hin_M rfl t_M t_M_ok n_M zo zK zP zD zS 0 rfl 15 (by decide) rfl fl_M_106 rfl rfl rfl (Nat.le_of_ble_eq_true rfl) d_M_restore_30 (fun HX oX zP zD zS => ?_)
  have zP : va_P g.1 cls (wM g m0 m1 m2 m3 m4 m5 m6 m7 m8 m9 m10 n sy k o ke va fl sg cp fs la nx hd 1 ps (ps - (fs j))) HX := zP
  have zD : va_D AX (wM g m0 m1 m2 m3 m4 m5 m6 m7 m8 m9 m10 n sy k o ke va fl sg cp fs la nx hd 1 ps (ps - (fs j))) := zD
  refine lv_iload_n zx zb d_M_restore_33 rfl (lv_at zl 0 rfl) ?_
  exact ct_iret zQ zx zb zr zk zP zD zS d_M_restore_34 rfl (⟨rfl, rfl⟩)
set_option maxRecDepth 20000 in
theorem c_M_restore_s (lL : Launch) (g : Gt) (m0 : Nat) (m1 : Nat) (m2 : Nat) (m3 : Nat) (m4 : Nat) (m5 : Nat) (m6 : Nat) (m7 : Nat) (m8 : Nat) (m9 : Nat) (m10 : Nat) (n : Nat) (sy : Nat) (k : Nat → Nat) (o : Nat → Int32) (ke : Nat → Nat) (va : Nat → Int32) (fl : Nat → Nat) (sg : Nat → Nat) (cp : Nat → Nat) (fs : Nat → Nat) (la : Nat → Nat) (nx : Nat) (hd : Nat → Nat) (dn : Nat) (tg : Nat) (bh : Nat) (j : Nat) (ps : Nat) (hj : j < 3) (hfj : sg j = 2) (hps : ps < 2147483648) (hla : la j ≤ 520) (hfs : fs j ≤ 520) (hee : la j ≤ ps) (hfp : ps = fs j) (hfs2 : fs j ≤ 512) : Ct lL g y_M_restore (.code y_M_restore b_M_restore 4 (some .int)) 6 200 [.ref m0, .int (nI j), .int (nI ps)] (wM g m0 m1 m2 m3 m4 m5 m6 m7 m8 m9 m10 n sy k o ke va fl sg cp fs la nx hd dn tg bh) (exP (some (.int (nI 0))) (wM g m0 m1 m2 m3 m4 m5 m6 m7 m8 m9 m10 n sy k o ke va fl sg cp fs la nx hd 1 ps (ps - (fs j)))) := by
  refine Ct.ofW (by decide) (Nat.le_of_ble_eq_true rfl) ?_
  intro pX eX sX mX aX bX tX cX AX lsX HX oX QX zx zb zr zk zm zo zg zK zP zD zA zS zQ zl
  have zo : sX.vm.findClass R_M = some mX.cls := zo
  have zl : lv_has lsX 4 [(0, .ref m0), (1, .int (nI j)), (2, .int (nI ps))] := zl
  refine lv_aload_n zx zb d_M_restore_0 rfl (lv_at zl 0 rfl) ?_
  refine lv_iload_n zx zb d_M_restore_1 rfl (lv_at zl 1 rfl) ?_
  refine lv_iload_n zx zb d_M_restore_2 rfl (lv_at zl 2 rfl) ?_
  refine ct_V (ws' := wM g m0 m1 m2 m3 m4 m5 m6 m7 m8 m9 m10 n sy k o ke va fl sg cp fs la nx hd dn tg bh) (rest := []) (st1 := [.int (nI 0)]) zx zb zm zo zg zK zP zD zS zA zl.1 (c_M_ans_s lL g m0 m1 m2 m3 m4 m5 m6 m7 m8 m9 m10 n sy k o ke va fl sg cp fs la nx hd dn tg bh j ps hj hfj hps hla hfs hee hfp hfs2) ok_M_answer ov_M_answer ml_M_96 (by decide) 0 7 rfl rfl rfl [0, 1, 2, 3, 4, 5, 6, 7, 8, 9, 10] [] 11 (by decide) rfl rfl rfl rfl (by decide) rfl rfl rfl (Nat.le_of_ble_eq_true rfl) d_M_restore_3 (fun HX oX zP zD zS => ?_)
  refine lv_istore_n (lv' := [(3, .int (nI 0)), (0, .ref m0), (1, .int (nI j)), (2, .int (nI ps))]) zx zb d_M_restore_6 rfl zl (by decide) rfl (fun lsX zl => ?_)
  refine lv_iload_n zx zb d_M_restore_7 rfl (lv_at zl 0 rfl) ?_
  refine wn_ine_F (tgt := 33) zx zb d_M_restore_8 (by decide) (by omega) (by omega) ?_
  refine lv_aload_n zx zb d_M_restore_11 rfl (lv_at zl 1 rfl) ?_
  refine lv_iconst (v := (nI 1)) zx zb d_M_restore_12 (by decide) ?_
  refine wv_put zx zb zg hin_M rfl t_M t_M_ok n_M zo zK zP zD zS 0 rfl 13 (by decide) rfl fl_M_99 rfl (by decide) rfl (Nat.le_of_ble_eq_true rfl) d_M_restore_13 (fun HX oX zP zD zS => ?_)
  have zP : va_P g.1 cls (wM g m0 m1 m2 m3 m4 m5 m6 m7 m8 m9 m10 n sy k o ke va fl sg cp fs la nx hd 1 tg bh) HX := zP
  have zD : va_D AX (wM g m0 m1 m2 m3 m4 m5 m6 m7 m8 m9 m10 n sy k o ke va fl sg cp fs la nx hd 1 tg bh) := zD
  refine lv_aload_n zx zb d_M_restore_16 rfl (lv_at zl 1 rfl) ?_
  refine lv_iload_n zx zb d_M_restore_17 rfl (lv_at zl 3 rfl) ?_
  refine wv_put zx zb zg hin_M rfl t_M t_M_ok n_M zo zK zP zD zS 0 rfl 14 (by decide) rfl fl_M_103 rfl rfl rfl (Nat.le_of_ble_eq_true rfl) d_M_restore_18 (fun HX oX zP zD zS => ?_)
  have zP : va_P g.1 cls (wM g m0 m1 m2 m3 m4 m5 m6 m7 m8 m9 m10 n sy k o ke va fl sg cp fs la nx hd 1 ps bh) HX := zP
  have zD : va_D AX (wM g m0 m1 m2 m3 m4 m5 m6 m7 m8 m9 m10 n sy k o ke va fl sg cp fs la nx hd 1 ps bh) := zD
  refine lv_aload_n zx zb d_M_restore_21 rfl (lv_at zl 1 rfl) ?_
  refine lv_iload_n zx zb d_M_restore_22 rfl (lv_at zl 3 rfl) ?_
  refine lv_aload_n zx zb d_M_restore_23 rfl (lv_at zl 1 rfl) ?_
  refine wv_get zx zb zg hin_M rfl zo zK zP 0 rfl 9 (by decide) rfl fl_M_31 rfl d_M_restore_24 ?_
  refine lv_iload_n zx zb d_M_restore_27 rfl (lv_at zl 2 rfl) ?_
  refine wv_ialdN zx zb zK zP 8 rfl (by omega) (by decide) d_M_restore_28 ?_
  refine wv_isub zx zb d_M_restore_29 (pk_sub (by omega)) ?_
  refine wv_put zx zb zg hin_M rfl t_M t_M_ok n_M zo zK zP zD zS 0 rfl 15 (by decide) rfl fl_M_106 rfl rfl rfl (Nat.le_of_ble_eq_true rfl) d_M_restore_30 (fun HX oX zP zD zS => ?_)
  have zP : va_P g.1 cls (wM g m0 m1 m2 m3 m4 m5 m6 m7 m8 m9 m10 n sy k o ke va fl sg cp fs la nx hd 1 ps (ps - (fs j))) HX := zP
  have zD : va_D AX (wM g m0 m1 m2 m3 m4 m5 m6 m7 m8 m9 m10 n sy k o ke va fl sg cp fs la nx hd 1 ps (ps - (fs j))) := zD
  refine lv_iload_n zx zb d_M_restore_33 rfl (lv_at zl 0 rfl) ?_
  exact ct_iret zQ zx zb zr zk zP zD zS d_M_restore_34 rfl (⟨rfl, rfl⟩)
set_option maxRecDepth 20000 in
theorem c_M_dirty (lL : Launch) (g : Gt) (m0 : Nat) (m1 : Nat) (m2 : Nat) (m3 : Nat) (m4 : Nat) (m5 : Nat) (m6 : Nat) (m7 : Nat) (m8 : Nat) (m9 : Nat) (m10 : Nat) (n : Nat) (sy : Nat) (k : Nat → Nat) (o : Nat → Int32) (ke : Nat → Nat) (va : Nat → Int32) (fl : Nat → Nat) (sg : Nat → Nat) (cp : Nat → Nat) (fs : Nat → Nat) (la : Nat → Nat) (nx : Nat) (hd : Nat → Nat) (dn : Nat) (tg : Nat) (bh : Nat) (hn5 : n < 520) (hk4 : ∀ i, i < n → k i < 4) (hke : ∀ i, i < n → k i = 0 → ke i < 32) (hfl : ∀ q, q < 8 → fl q ≤ 520) : Ct lL g y_M_dirty (.code y_M_dirty b_M_dirty 3 (some .int)) 6 200 [.ref m0] (wM g m0 m1 m2 m3 m4 m5 m6 m7 m8 m9 m10 n sy k o ke va fl sg cp fs la nx hd dn tg bh) (exP (some (.int (nI (dyS k o ke fl n 0 8)))) (wM g m0 m1 m2 m3 m4 m5 m6 m7 m8 m9 m10 n sy k o ke va fl sg cp fs la nx hd dn tg bh)) := by
  refine Ct.ofW (by decide) (Nat.le_of_ble_eq_true rfl) ?_
  intro pX eX sX mX aX bX tX cX AX lsX HX oX QX zx zb zr zk zm zo zg zK zP zD zA zS zQ zl
  have zo : sX.vm.findClass R_M = some mX.cls := zo
  have zl : lv_has lsX 3 [(0, .ref m0)] := zl
  refine lv_iconst (v := (nI 0)) zx zb d_M_dirty_0 (by decide) ?_
  refine lv_istore_n (lv' := [(1, .int (nI 0)), (0, .ref m0)]) zx zb d_M_dirty_1 rfl zl (by decide) rfl (fun lsX zl => ?_)
  refine lv_iconst (v := (nI 0)) zx zb d_M_dirty_2 (by decide) ?_
  refine lv_istore_n (lv' := [(2, .int (nI 0)), (1, .int (nI 0)), (0, .ref m0)]) zx zb d_M_dirty_3 rfl zl (by decide) rfl (fun lsX zl => ?_)
  have loop4 : ∀ (kk : Nat) (f : Nat) (q : Nat), kk = 8 - q → (q ≤ 8) → (f ≤ q) → (f + dyS k o ke fl n q (8 - q) = dyS k o ke fl n 0 8) → ∀ (lsX : Array Slot) (HX : Heap) (oX : List Loc), lv_has lsX 3 [(0, .ref m0), (1, .int (nI f)), (2, .int (nI q))] → va_P g.1 cls (wM g m0 m1 m2 m3 m4 m5 m6 m7 m8 m9 m10 n sy k o ke va fl sg cp fs la nx hd dn tg bh) HX → va_D AX (wM g m0 m1 m2 m3 m4 m5 m6 m7 m8 m9 m10 n sy k o ke va fl sg cp fs la nx hd dn tg bh) → va_S AX sX.heap HX oX → W pX lL eX (rmL 6 200) sX mX aX bX tX cX HX oX 0 0 QX (F0 mX 4 lsX []) := by
    intro kk
    induction kk using Nat.strongRecOn with
    | ind kk ih_loop4 =>
      intro f q hkk hq hfq hi lsX HX oX zl zP zD zS
      rcases Nat.lt_or_ge q 8 with h3 | h3
      · have hflq := hfl q h3
        have hwl := wtL_le k o ke (fl q) q n
        have e3 : 8 - q = (8 - (q + 1)) + 1 := by omega
        rw [e3] at hi
        have hi : f + ((if 0 < wtL k o ke (fl q) q n then 1 else 0) + dyS k o ke fl n (q + 1) (8 - (q + 1))) = dyS k o ke fl n 0 8 := hi
        refine lv_iload_n zx zb d_M_dirty_4 rfl (lv_at zl 2 rfl) ?_
        refine lv_bipush (v := (nI 8)) zx zb d_M_dirty_5 (by decide) ?_
        refine wn_cge_F (tgt := 32) zx zb d_M_dirty_7 (by decide) (by omega) (by omega) (by omega) ?_
        by_cases hz : 0 < wtL k o ke (fl q) q n
        · rw [if_pos hz] at hi
          have hi : f + 1 + dyS k o ke fl n (q + 1) (8 - (q + 1)) = dyS k o ke fl n 0 8 := by omega
          refine lv_iload_n zx zb d_M_dirty_10 rfl (lv_at zl 1 rfl) ?_
          refine lv_aload_n zx zb d_M_dirty_11 rfl (lv_at zl 0 rfl) ?_
          refine lv_iload_n zx zb d_M_dirty_12 rfl (lv_at zl 2 rfl) ?_
          refine ct_V (ws' := wM g m0 m1 m2 m3 m4 m5 m6 m7 m8 m9 m10 n sy k o ke va fl sg cp fs la nx hd dn tg bh) (rest := [.int (nI f)]) (st1 := [.int (nI (wtL k o ke (fl q) q n)), .int (nI f)]) zx zb zm zo zg zK zP zD zS zA zl.1 (c_M_waiting lL g m0 m1 m2 m3 m4 m5 m6 m7 m8 m9 m10 n sy k o ke va fl sg cp fs la nx hd dn tg bh q (by omega) (by omega) hk4 hke (by omega)) ok_M_waiting ov_M_waiting ml_M_77 (by decide) 0 7 rfl rfl rfl [0, 1, 2, 3, 4, 5, 6, 7, 8, 9, 10] [] 11 (by decide) rfl rfl rfl rfl (by decide) rfl rfl rfl (Nat.le_of_ble_eq_true rfl) d_M_dirty_13 (fun HX oX zP zD zS => ?_)
          refine wn_ile_F (tgt := 23) zx zb d_M_dirty_16 (by decide) (by omega) (by omega) ?_
          refine lv_iconst (v := (nI 1)) zx zb d_M_dirty_19 (by decide) ?_
          refine lv_goto (tgt := 24) zx zb d_M_dirty_20 (by decide) ?_
          refine wv_iadd zx zb d_M_dirty_24 (nI_add _ _) ?_
          refine lv_istore_n (lv' := [(1, .int (nI (f + 1))), (0, .ref m0), (2, .int (nI q))]) zx zb d_M_dirty_25 rfl zl (by decide) rfl (fun lsX zl => ?_)
          refine lv_iinc (k := 2) (lv' := [(2, .int (nI (q + 1))), (1, .int (nI (f + 1))), (0, .ref m0)]) zx zb d_M_dirty_26 zl rfl (ni_inc _) (by decide) rfl (fun lsX zl => ?_)
          refine lv_goto (tgt := 4) zx zb d_M_dirty_29 (by decide) ?_
          exact ih_loop4 _ (by omega) (f + 1) (q + 1) rfl (by omega) (by omega) hi lsX HX oX (lv_sub zl [2, 1, 0] rfl) zP zD zS
        · rw [if_neg hz] at hi
          have hi : f + 0 + dyS k o ke fl n (q + 1) (8 - (q + 1)) = dyS k o ke fl n 0 8 := by omega
          refine lv_iload_n zx zb d_M_dirty_10 rfl (lv_at zl 1 rfl) ?_
          refine lv_aload_n zx zb d_M_dirty_11 rfl (lv_at zl 0 rfl) ?_
          refine lv_iload_n zx zb d_M_dirty_12 rfl (lv_at zl 2 rfl) ?_
          refine ct_V (ws' := wM g m0 m1 m2 m3 m4 m5 m6 m7 m8 m9 m10 n sy k o ke va fl sg cp fs la nx hd dn tg bh) (rest := [.int (nI f)]) (st1 := [.int (nI (wtL k o ke (fl q) q n)), .int (nI f)]) zx zb zm zo zg zK zP zD zS zA zl.1 (c_M_waiting lL g m0 m1 m2 m3 m4 m5 m6 m7 m8 m9 m10 n sy k o ke va fl sg cp fs la nx hd dn tg bh q (by omega) (by omega) hk4 hke (by omega)) ok_M_waiting ov_M_waiting ml_M_77 (by decide) 0 7 rfl rfl rfl [0, 1, 2, 3, 4, 5, 6, 7, 8, 9, 10] [] 11 (by decide) rfl rfl rfl rfl (by decide) rfl rfl rfl (Nat.le_of_ble_eq_true rfl) d_M_dirty_13 (fun HX oX zP zD zS => ?_)
          refine wn_ile_T (tgt := 23) zx zb d_M_dirty_16 (by decide) (by omega) (by omega) ?_
          refine lv_iconst (v := (nI 0)) zx zb d_M_dirty_23 (by decide) ?_
          refine wv_iadd zx zb d_M_dirty_24 (nI_add _ _) ?_
          refine lv_istore_n (lv' := [(1, .int (nI (f + 0))), (0, .ref m0), (2, .int (nI q))]) zx zb d_M_dirty_25 rfl zl (by decide) rfl (fun lsX zl => ?_)
          refine lv_iinc (k := 2) (lv' := [(2, .int (nI (q + 1))), (1, .int (nI (f + 0))), (0, .ref m0)]) zx zb d_M_dirty_26 zl rfl (ni_inc _) (by decide) rfl (fun lsX zl => ?_)
          refine lv_goto (tgt := 4) zx zb d_M_dirty_29 (by decide) ?_
          exact ih_loop4 _ (by omega) (f + 0) (q + 1) rfl (by omega) (by omega) hi lsX HX oX (lv_sub zl [2, 1, 0] rfl) zP zD zS
      · have e3 : q = 8 := by omega
        subst e3
        have hi : f = dyS k o ke fl n 0 8 := hi
        refine lv_iload_n zx zb d_M_dirty_4 rfl (lv_at zl 2 rfl) ?_
        refine lv_bipush (v := (nI 8)) zx zb d_M_dirty_5 (by decide) ?_
        refine wn_cge_T (tgt := 32) zx zb d_M_dirty_7 (by decide) (by omega) (by omega) (by omega) ?_
        refine lv_iload_n zx zb d_M_dirty_32 rfl (lv_at zl 1 rfl) ?_
        exact ct_iret zQ zx zb zr zk zP zD zS d_M_dirty_33 rfl (⟨by rw [hi], rfl⟩)
  exact loop4 _ 0 0 rfl (by omega) (by omega) (Nat.zero_add _) lsX HX oX (lv_sub zl [2, 1, 0] rfl) zP zD zS
