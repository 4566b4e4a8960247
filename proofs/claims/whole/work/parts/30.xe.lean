set_option maxRecDepth 20000 in
theorem c_X_reach_t (lL : Launch) (g : Gt) (x : Nat) (l0 : Nat) (t0 : Nat) (p0 : Nat) (ba : Nat) (h0 : Nat) (r0 : Nat) (un : Int32) (b : Nat → Nat) (b1 : Nat) (bv : Nat → Int32) (pr : Nat) (fi : Nat) (st : Nat) (cp : Nat) (en : Nat) (pg : Nat) (h1 : Nat) (hd : Nat → Nat) (hc : Nat) (nx : Nat) (l1 : Nat) (l2 : Nat) (l3 : Nat) (l4 : Nat) (k : Nat → Nat) (o : Nat → Nat) (ke : Nat → Nat) (va : Nat → Int32) (n : Nat) (sy : Nat) (j : Nat) (hj : j < 3) (hfi : fi = 1) (hen : en ≤ 512) (hst : st ≤ 512) (hnx : nx ≤ 64) (hh : ∀ j, j < 64 → hd j = 0 ∨ hd j = 1) (hn : n ≤ 512) (hk4 : ∀ i, i < n → k i < 4) (hgn : ∀ i, st < i → i ≤ hgS hd nx (st / 8) (64 - st / 8) * 8 → i ≤ n) : Ct lL g y_X_reach (.code y_X_reach b_X_reach 5 (some .int)) 6 200 [.ref x, .int (nI j)] (wX g x l0 t0 p0 ba h0 r0 un ++ wBA g ba b ++ wBk g (b j) b1 bv pr fi st cp en pg ++ wAr g h0 h1 hd hc nx ++ wLog g l0 l1 l2 l3 l4 k o ke va n sy) (exP (some (.int (rcR k st en (hgS hd nx (st / 8) (64 - st / 8) * 8)))) (wX g x l0 t0 p0 ba h0 r0 un ++ wBA g ba b ++ wBk g (b j) b1 bv pr fi st cp en pg ++ wAr g h0 h1 hd hc nx ++ wLog g l0 l1 l2 l3 l4 k o ke va n sy)) := by
  refine Ct.ofW (by decide) (Nat.le_of_ble_eq_true rfl) ?_
  intro pX eX sX mX aX bX tX cX AX lsX HX oX QX zx zb zr zk zm zo zg zK zP zD zA zS zQ zl
  have zo : sX.vm.findClass R_X = some mX.cls := zo
  have zl : lv_has lsX 5 [(0, .ref x), (1, .int (nI j))] := zl
  refine lv_aload_n zx zb d_X_reach_0 rfl (lv_at zl 0 rfl) ?_
  refine lv_iload_n zx zb d_X_reach_1 rfl (lv_at zl 1 rfl) ?_
  refine ct_V (rest := []) zx zb zm zo zg zK zP zD zS zA zl.1 (c_X_isFin_t lL g x l0 t0 p0 ba h0 r0 un b b1 bv pr fi st cp en pg j (by omega) (by omega)) ok_X_isFinishedBackup ov_X_isFinishedBackup ml_X_138 (by decide) 0 0 rfl rfl rfl [0, 1, 2, 3] (by decide) rfl rfl rfl (Nat.le_of_ble_eq_true rfl) d_X_reach_2 (fun rX uX HX oX zp zP zD zS => ?_)
  obtain ⟨rfl, rfl⟩ := zp
  have zP : va_P g.1 cls (wX g x l0 t0 p0 ba h0 r0 un ++ wBA g ba b ++ wBk g (b j) b1 bv pr fi st cp en pg ++ wAr g h0 h1 hd hc nx ++ wLog g l0 l1 l2 l3 l4 k o ke va n sy) HX := zP
  have zD : va_D AX (wX g x l0 t0 p0 ba h0 r0 un ++ wBA g ba b ++ wBk g (b j) b1 bv pr fi st cp en pg ++ wAr g h0 h1 hd hc nx ++ wLog g l0 l1 l2 l3 l4 k o ke va n sy) := zD
  refine W.eq (g2 := F0 mX 5 lsX [.int (nI 1)]) rfl ?_
  refine wn_ine_T (tgt := 10) zx zb d_X_reach_5 (by decide) (by omega) (by omega) ?_
  refine lv_aload_n zx zb d_X_reach_10 rfl (lv_at zl 0 rfl) ?_
  refine wv_get zx zb zg hin_X rfl zo zK zP 0 rfl 3 (by decide) rfl fl_X_46 rfl d_X_reach_11 ?_
  refine lv_iload_n zx zb d_X_reach_14 rfl (lv_at zl 1 rfl) ?_
  refine wv_aald (v := b j) zx zb zK zP 1 rfl rfl (by omega) (by decide) d_X_reach_15 ?_
  refine lv_astore_n (lv' := [(2, .ref (b j)), (0, .ref x), (1, .int (nI j))]) zx zb d_X_reach_16 rfl zl (by decide) rfl (fun lsX zl => ?_)
  have hle := hgS_le hd nx (64 - st / 8) (st / 8)
  refine lv_aload_n zx zb d_X_reach_17 rfl (lv_at zl 1 rfl) ?_
  refine wv_get zx zb zg hin_X rfl zo zK zP 0 rfl 4 (by decide) rfl fl_X_33 rfl d_X_reach_18 ?_
  refine lv_aload_n zx zb d_X_reach_21 rfl (lv_at zl 0 rfl) ?_
  refine wv_get zx zb zg hin_Bk rfl zo zK zP 2 rfl 3 (by decide) rfl fl_X_141 rfl d_X_reach_22 ?_
  refine ct_V (rest := []) zx zb zm zo zg zK zP zD zS zA zl.1 (c_Ar_heldFrom lL g h0 h1 hd hc nx st (by omega) hh (by omega)) ok_Ar_heldWithoutGapFrom ov_Ar_heldWithoutGapFrom ml_X_174 (by decide) 4 5 rfl rfl rfl [4, 5] (by decide) rfl rfl rfl (Nat.le_of_ble_eq_true rfl) d_X_reach_25 (fun rX uX HX oX zp zP zD zS => ?_)
  obtain ⟨rfl, rfl⟩ := zp
  have zP : va_P g.1 cls (wX g x l0 t0 p0 ba h0 r0 un ++ wBA g ba b ++ wBk g (b j) b1 bv pr fi st cp en pg ++ wAr g h0 h1 hd hc nx ++ wLog g l0 l1 l2 l3 l4 k o ke va n sy) HX := zP
  have zD : va_D AX (wX g x l0 t0 p0 ba h0 r0 un ++ wBA g ba b ++ wBk g (b j) b1 bv pr fi st cp en pg ++ wAr g h0 h1 hd hc nx ++ wLog g l0 l1 l2 l3 l4 k o ke va n sy) := zD
  refine W.eq (g2 := F0 mX 28 lsX [.int (nI (hgS hd nx (st / 8) (64 - st / 8) * 8))]) rfl ?_
  refine lv_istore_n (lv' := [(3, .int (nI (hgS hd nx (st / 8) (64 - st / 8) * 8))), (2, .ref (b j)), (0, .ref x), (1, .int (nI j))]) zx zb d_X_reach_28 rfl zl (by decide) rfl (fun lsX zl => ?_)
  refine lv_iload_n zx zb d_X_reach_29 rfl (lv_at zl 0 rfl) ?_
  refine lv_istore (lv' := [(4, .int (nI (hgS hd nx (st / 8) (64 - st / 8) * 8))), (3, .int (nI (hgS hd nx (st / 8) (64 - st / 8) * 8))), (2, .ref (b j)), (0, .ref x), (1, .int (nI j))]) zx zb d_X_reach_30 zl (by decide) rfl (fun lsX zl => ?_)
  have loop32 : ∀ (kk : Nat) (ps : Nat), kk = ps → (ps ≤ hgS hd nx (st / 8) (64 - st / 8) * 8) → (ps ≤ 512) → (rcR k st en ps = rcR k st en (hgS hd nx (st / 8) (64 - st / 8) * 8)) → ∀ (lsX : Array Slot) (HX : Heap) (oX : List Loc), lv_has lsX 5 [(0, .ref x), (1, .int (nI j)), (2, .ref (b j)), (4, .int (nI ps))] → va_P g.1 cls (wX g x l0 t0 p0 ba h0 r0 un ++ wBA g ba b ++ wBk g (b j) b1 bv pr fi st cp en pg ++ wAr g h0 h1 hd hc nx ++ wLog g l0 l1 l2 l3 l4 k o ke va n sy) HX → va_D AX (wX g x l0 t0 p0 ba h0 r0 un ++ wBA g ba b ++ wBk g (b j) b1 bv pr fi st cp en pg ++ wAr g h0 h1 hd hc nx ++ wLog g l0 l1 l2 l3 l4 k o ke va n sy) → va_S AX sX.heap HX oX → W pX lL eX (rmL 6 200) sX mX aX bX tX cX HX oX 0 0 QX (F0 mX 32 lsX []) := by
    intro kk
    induction kk using Nat.strongRecOn with
    | ind kk ih =>
      intro ps hkk hpg hp5 hi lsX HX oX zl zP zD zS
      rcases Nat.lt_or_ge st ps with hsp | hsp
      · have hpn := hgn ps hsp hpg
        have hkp := hk4 (ps - 1) (by omega)
        refine lv_iload zx zb d_X_reach_32 (lv_at zl 3 rfl) ?_
        refine lv_aload_n zx zb d_X_reach_34 rfl (lv_at zl 2 rfl) ?_
        refine wv_get zx zb zg hin_Bk rfl zo zK zP 2 rfl 3 (by decide) rfl fl_X_141 rfl d_X_reach_35 ?_
        refine wn_cle_F (tgt := 71) zx zb d_X_reach_38 (by decide) (by omega) (by omega) (by omega) ?_
        rcases Nat.lt_or_ge ps en with hpe | hpe
        · have hi : (if st = en then nI st else -1) = rcR k st en (hgS hd nx (st / 8) (64 - st / 8) * 8) := (rcR_out (by omega)).symm.trans hi
          refine lv_iload zx zb d_X_reach_41 (lv_at zl 3 rfl) ?_
          refine lv_aload_n zx zb d_X_reach_43 rfl (lv_at zl 2 rfl) ?_
          refine wv_get zx zb zg hin_Bk rfl zo zK zP 2 rfl 5 (by decide) rfl fl_X_144 rfl d_X_reach_44 ?_
          refine wn_clt_T (tgt := 71) zx zb d_X_reach_47 (by decide) (by omega) (by omega) (by omega) ?_
          rcases Nat.lt_or_ge st en with hse | hse
          · rw [if_neg (by omega)] at hi
            refine lv_aload_n zx zb d_X_reach_71 rfl (lv_at zl 2 rfl) ?_
            refine wv_get zx zb zg hin_Bk rfl zo zK zP 2 rfl 3 (by decide) rfl fl_X_141 rfl d_X_reach_72 ?_
            refine lv_aload_n zx zb d_X_reach_75 rfl (lv_at zl 2 rfl) ?_
            refine wv_get zx zb zg hin_Bk rfl zo zK zP 2 rfl 5 (by decide) rfl fl_X_144 rfl d_X_reach_76 ?_
            refine wn_cne_T (tgt := 89) zx zb d_X_reach_79 (by decide) (by omega) (by omega) (by omega) ?_
            refine lv_iconst (v := (-1)) zx zb d_X_reach_89 (by decide) ?_
            exact ct_iret zQ zx zb zr zk zP zD zS d_X_reach_90 rfl (⟨by rw [hi], rfl⟩)
          · have hse2 := hse
            refine lv_aload_n zx zb d_X_reach_71 rfl (lv_at zl 2 rfl) ?_
            rcases Nat.lt_or_ge en st with hes | hes
            · rw [if_neg (by omega)] at hi
              refine wv_get zx zb zg hin_Bk rfl zo zK zP 2 rfl 3 (by decide) rfl fl_X_141 rfl d_X_reach_72 ?_
              refine lv_aload_n zx zb d_X_reach_75 rfl (lv_at zl 2 rfl) ?_
              refine wv_get zx zb zg hin_Bk rfl zo zK zP 2 rfl 5 (by decide) rfl fl_X_144 rfl d_X_reach_76 ?_
              refine wn_cne_T (tgt := 89) zx zb d_X_reach_79 (by decide) (by omega) (by omega) (by omega) ?_
              refine lv_iconst (v := (-1)) zx zb d_X_reach_89 (by decide) ?_
              exact ct_iret zQ zx zb zr zk zP zD zS d_X_reach_90 rfl (⟨by rw [hi], rfl⟩)
            · rw [if_pos (by omega)] at hi
              refine wv_get zx zb zg hin_Bk rfl zo zK zP 2 rfl 3 (by decide) rfl fl_X_141 rfl d_X_reach_72 ?_
              refine lv_aload_n zx zb d_X_reach_75 rfl (lv_at zl 2 rfl) ?_
              refine wv_get zx zb zg hin_Bk rfl zo zK zP 2 rfl 5 (by decide) rfl fl_X_144 rfl d_X_reach_76 ?_
              refine wn_cne_F (tgt := 89) zx zb d_X_reach_79 (by decide) (by omega) (by omega) (by omega) ?_
              refine lv_aload_n zx zb d_X_reach_82 rfl (lv_at zl 2 rfl) ?_
              refine wv_get zx zb zg hin_Bk rfl zo zK zP 2 rfl 3 (by decide) rfl fl_X_141 rfl d_X_reach_83 ?_
              refine lv_goto (tgt := 90) zx zb d_X_reach_86 (by decide) ?_
              exact ct_iret zQ zx zb zr zk zP zD zS d_X_reach_90 rfl (⟨by rw [hi], rfl⟩)
        · have hi : (if k (ps - 1) = 1 then nI ps else rcR k st en (ps - 1)) = rcR k st en (hgS hd nx (st / 8) (64 - st / 8) * 8) := (rcR_in hsp hpe).symm.trans hi
          refine lv_iload zx zb d_X_reach_41 (lv_at zl 3 rfl) ?_
          refine lv_aload_n zx zb d_X_reach_43 rfl (lv_at zl 2 rfl) ?_
          refine wv_get zx zb zg hin_Bk rfl zo zK zP 2 rfl 5 (by decide) rfl fl_X_144 rfl d_X_reach_44 ?_
          refine wn_clt_F (tgt := 71) zx zb d_X_reach_47 (by decide) (by omega) (by omega) (by omega) ?_
          by_cases hkc : k (ps - 1) = 1
          · rw [if_pos hkc] at hi
            refine lv_aload_n zx zb d_X_reach_50 rfl (lv_at zl 0 rfl) ?_
            refine wv_get zx zb zg hin_X rfl zo zK zP 0 rfl 0 (by decide) rfl fl_X_12 rfl d_X_reach_51 ?_
            refine lv_iload zx zb d_X_reach_54 (lv_at zl 3 rfl) ?_
            refine ct_V (rest := []) zx zb zm zo zg zK zP zD zS zA zl.1 (c_Log_hasCommit_t lL g l0 l1 l2 l3 l4 k o ke va n sy ps (by omega) (by omega) (by omega) (by omega)) ok_Log_hasCommitDoneAt ov_Log_hasCommitDoneAt ml_X_161 (by decide) 6 1 rfl rfl rfl [6, 7, 8, 9, 10] (by decide) rfl rfl rfl (Nat.le_of_ble_eq_true rfl) d_X_reach_56 (fun rX uX HX oX zp zP zD zS => ?_)
            obtain ⟨rfl, rfl⟩ := zp
            have zP : va_P g.1 cls (wX g x l0 t0 p0 ba h0 r0 un ++ wBA g ba b ++ wBk g (b j) b1 bv pr fi st cp en pg ++ wAr g h0 h1 hd hc nx ++ wLog g l0 l1 l2 l3 l4 k o ke va n sy) HX := zP
            have zD : va_D AX (wX g x l0 t0 p0 ba h0 r0 un ++ wBA g ba b ++ wBk g (b j) b1 bv pr fi st cp en pg ++ wAr g h0 h1 hd hc nx ++ wLog g l0 l1 l2 l3 l4 k o ke va n sy) := zD
            refine W.eq (g2 := F0 mX 59 lsX [.int (nI 1)]) rfl ?_
            refine wn_ieq_F (tgt := 65) zx zb d_X_reach_59 (by decide) (by omega) (by omega) ?_
            refine lv_iload zx zb d_X_reach_62 (lv_at zl 3 rfl) ?_
            exact ct_iret zQ zx zb zr zk zP zD zS d_X_reach_64 rfl (⟨by rw [hi], rfl⟩)
          · rw [if_neg hkc] at hi
            refine lv_aload_n zx zb d_X_reach_50 rfl (lv_at zl 0 rfl) ?_
            refine wv_get zx zb zg hin_X rfl zo zK zP 0 rfl 0 (by decide) rfl fl_X_12 rfl d_X_reach_51 ?_
            refine lv_iload zx zb d_X_reach_54 (lv_at zl 3 rfl) ?_
            refine ct_V (rest := []) zx zb zm zo zg zK zP zD zS zA zl.1 (c_Log_hasCommit_f lL g l0 l1 l2 l3 l4 k o ke va n sy ps (by omega) (by omega) (by omega) (by omega) (by omega)) ok_Log_hasCommitDoneAt ov_Log_hasCommitDoneAt ml_X_161 (by decide) 6 1 rfl rfl rfl [6, 7, 8, 9, 10] (by decide) rfl rfl rfl (Nat.le_of_ble_eq_true rfl) d_X_reach_56 (fun rX uX HX oX zp zP zD zS => ?_)
            obtain ⟨rfl, rfl⟩ := zp
            have zP : va_P g.1 cls (wX g x l0 t0 p0 ba h0 r0 un ++ wBA g ba b ++ wBk g (b j) b1 bv pr fi st cp en pg ++ wAr g h0 h1 hd hc nx ++ wLog g l0 l1 l2 l3 l4 k o ke va n sy) HX := zP
            have zD : va_D AX (wX g x l0 t0 p0 ba h0 r0 un ++ wBA g ba b ++ wBk g (b j) b1 bv pr fi st cp en pg ++ wAr g h0 h1 hd hc nx ++ wLog g l0 l1 l2 l3 l4 k o ke va n sy) := zD
            refine W.eq (g2 := F0 mX 59 lsX [.int (nI 0)]) rfl ?_
            refine wn_ieq_T (tgt := 65) zx zb d_X_reach_59 (by decide) (by omega) (by omega) ?_
            refine lv_iinc (k := 3) (lv' := [(4, .int (nI (ps - 1))), (0, .ref x), (1, .int (nI j)), (2, .ref (b j))]) zx zb d_X_reach_65 zl rfl (ni_dec1 (by omega)) (by decide) rfl (fun lsX zl => ?_)
            refine lv_goto (tgt := 32) zx zb d_X_reach_68 (by decide) ?_
            exact ih _ (by omega) (ps - 1) rfl (by omega) (by omega) hi lsX HX oX (lv_sub zl [1, 2, 3, 0] rfl) zP zD zS
      · have hi : (if st = en then nI st else -1) = rcR k st en (hgS hd nx (st / 8) (64 - st / 8) * 8) := (rcR_out (by omega)).symm.trans hi
        refine lv_iload zx zb d_X_reach_32 (lv_at zl 3 rfl) ?_
        refine lv_aload_n zx zb d_X_reach_34 rfl (lv_at zl 2 rfl) ?_
        refine wv_get zx zb zg hin_Bk rfl zo zK zP 2 rfl 3 (by decide) rfl fl_X_141 rfl d_X_reach_35 ?_
        refine wn_cle_T (tgt := 71) zx zb d_X_reach_38 (by decide) (by omega) (by omega) (by omega) ?_
        rcases Nat.lt_or_ge st en with hse | hse
        · rw [if_neg (by omega)] at hi
          refine lv_aload_n zx zb d_X_reach_71 rfl (lv_at zl 2 rfl) ?_
          refine wv_get zx zb zg hin_Bk rfl zo zK zP 2 rfl 3 (by decide) rfl fl_X_141 rfl d_X_reach_72 ?_
          refine lv_aload_n zx zb d_X_reach_75 rfl (lv_at zl 2 rfl) ?_
          refine wv_get zx zb zg hin_Bk rfl zo zK zP 2 rfl 5 (by decide) rfl fl_X_144 rfl d_X_reach_76 ?_
          refine wn_cne_T (tgt := 89) zx zb d_X_reach_79 (by decide) (by omega) (by omega) (by omega) ?_
          refine lv_iconst (v := (-1)) zx zb d_X_reach_89 (by decide) ?_
          exact ct_iret zQ zx zb zr zk zP zD zS d_X_reach_90 rfl (⟨by rw [hi], rfl⟩)
        · have hse2 := hse
          refine lv_aload_n zx zb d_X_reach_71 rfl (lv_at zl 2 rfl) ?_
          rcases Nat.lt_or_ge en st with hes | hes
          · rw [if_neg (by omega)] at hi
            refine wv_get zx zb zg hin_Bk rfl zo zK zP 2 rfl 3 (by decide) rfl fl_X_141 rfl d_X_reach_72 ?_
            refine lv_aload_n zx zb d_X_reach_75 rfl (lv_at zl 2 rfl) ?_
            refine wv_get zx zb zg hin_Bk rfl zo zK zP 2 rfl 5 (by decide) rfl fl_X_144 rfl d_X_reach_76 ?_
            refine wn_cne_T (tgt := 89) zx zb d_X_reach_79 (by decide) (by omega) (by omega) (by omega) ?_
            refine lv_iconst (v := (-1)) zx zb d_X_reach_89 (by decide) ?_
            exact ct_iret zQ zx zb zr zk zP zD zS d_X_reach_90 rfl (⟨by rw [hi], rfl⟩)
          · rw [if_pos (by omega)] at hi
            refine wv_get zx zb zg hin_Bk rfl zo zK zP 2 rfl 3 (by decide) rfl fl_X_141 rfl d_X_reach_72 ?_
            refine lv_aload_n zx zb d_X_reach_75 rfl (lv_at zl 2 rfl) ?_
            refine wv_get zx zb zg hin_Bk rfl zo zK zP 2 rfl 5 (by decide) rfl fl_X_144 rfl d_X_reach_76 ?_
            refine wn_cne_F (tgt := 89) zx zb d_X_reach_79 (by decide) (by omega) (by omega) (by omega) ?_
            refine lv_aload_n zx zb d_X_reach_82 rfl (lv_at zl 2 rfl) ?_
            refine wv_get zx zb zg hin_Bk rfl zo zK zP 2 rfl 3 (by decide) rfl fl_X_141 rfl d_X_reach_83 ?_
            refine lv_goto (tgt := 90) zx zb d_X_reach_86 (by decide) ?_
            exact ct_iret zQ zx zb zr zk zP zD zS d_X_reach_90 rfl (⟨by rw [hi], rfl⟩)
  exact loop32 _ (hgS hd nx (st / 8) (64 - st / 8) * 8) rfl (Nat.le_refl _) (by omega) rfl lsX HX oX (lv_sub zl [3, 4, 2, 0] rfl) zP zD zS
