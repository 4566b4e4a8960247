set_option maxRecDepth 20000 in
theorem c_M_waiting (lL : Launch) (g : Gt) (m0 : Nat) (m1 : Nat) (m2 : Nat) (m3 : Nat) (m4 : Nat) (m5 : Nat) (m6 : Nat) (m7 : Nat) (m8 : Nat) (m9 : Nat) (m10 : Nat) (n : Nat) (sy : Nat) (k : Nat → Nat) (o : Nat → Int32) (ke : Nat → Nat) (va : Nat → Int32) (fl : Nat → Nat) (sg : Nat → Nat) (cp : Nat → Nat) (fs : Nat → Nat) (la : Nat → Nat) (nx : Nat) (hd : Nat → Nat) (dn : Nat) (tg : Nat) (bh : Nat) (p : Nat) (hp8 : p < 8) (hn5 : n < 520) (hk4 : ∀ i, i < n → k i < 4) (hke : ∀ i, i < n → k i = 0 → ke i < 32) (hfl : fl p ≤ 520) : Ct lL g y_M_waiting (.code y_M_waiting b_M_waiting 5 (some .int)) 2 45 [.ref m0, .int (nI p)] (wM g m0 m1 m2 m3 m4 m5 m6 m7 m8 m9 m10 n sy k o ke va fl sg cp fs la nx hd dn tg bh) (exP (some (.int (nI (wtL k o ke (fl p) p n)))) (wM g m0 m1 m2 m3 m4 m5 m6 m7 m8 m9 m10 n sy k o ke va fl sg cp fs la nx hd dn tg bh)) := by
  refine Ct.ofW (by decide) (Nat.le_of_ble_eq_true rfl) ?_
  intro pX eX sX mX aX bX tX cX AX lsX HX oX QX zx zb zr zk zm zo zg zK zP zD zA zS zQ zl
  have zo : sX.vm.findClass R_M = some mX.cls := zo
  have zl : lv_has lsX 5 [(0, .ref m0), (1, .int (nI p))] := zl
  refine lv_aload_n zx zb d_M_waiting_0 rfl (lv_at zl 0 rfl) ?_
  refine wv_get zx zb zg hin_M rfl zo zK zP 0 rfl 0 (by decide) rfl fl_M_41 rfl d_M_waiting_1 ?_
  refine lv_iconst (v := (nI 1)) zx zb d_M_waiting_4 (by decide) ?_
  refine wv_isub (z := nP n) zx zb d_M_waiting_5 rfl ?_
  refine lv_istore_n (lv' := [(2, .int (nP n)), (0, .ref m0), (1, .int (nI p))]) zx zb d_M_waiting_6 rfl zl (by decide) rfl (fun lsX zl => ?_)
  have loop7 : ∀ (kk : Nat) (c : Nat), kk = c → (c ≤ n) → (wtL k o ke (fl p) p c = wtL k o ke (fl p) p n) → ∀ (lsX : Array Slot) (HX : Heap) (oX : List Loc), lv_has lsX 5 [(0, .ref m0), (1, .int (nI p)), (2, .int (nP c))] → va_P g.1 cls (wM g m0 m1 m2 m3 m4 m5 m6 m7 m8 m9 m10 n sy k o ke va fl sg cp fs la nx hd dn tg bh) HX → va_D AX (wM g m0 m1 m2 m3 m4 m5 m6 m7 m8 m9 m10 n sy k o ke va fl sg cp fs la nx hd dn tg bh) → va_S AX sX.heap HX oX → W pX lL eX (rmL 2 45) sX mX aX bX tX cX HX oX 0 0 QX (F0 mX 7 lsX []) := by
    intro kk
    induction kk using Nat.strongRecOn with
    | ind kk ih_loop7 =>
      intro c hkk hc5 hi lsX HX oX zl zP zD zS
      rcases nat_cs c with rfl | ⟨c, rfl⟩
      · have hi : 0 = wtL k o ke (fl p) p n := hi
        refine lv_iload_n zx zb d_M_waiting_7 rfl (lv_at zl 2 rfl) ?_
        refine lv_aload_n zx zb d_M_waiting_8 rfl (lv_at zl 0 rfl) ?_
        refine wv_get zx zb zg hin_M rfl zo zK zP 0 rfl 6 (by decide) rfl fl_M_22 rfl d_M_waiting_9 ?_
        refine lv_iload_n zx zb d_M_waiting_12 rfl (lv_at zl 1 rfl) ?_
        refine wv_ialdN zx zb zK zP 5 rfl (by omega) (by decide) d_M_waiting_13 ?_
        refine lv_icmp_lt (tgt := 84) zx zb d_M_waiting_14 (by decide) (fun _ => ?_) (fun h => absurd h (fun h => h (nP_lt (by omega))))
        refine lv_iconst (v := (nI 0)) zx zb d_M_waiting_84 (by decide) ?_
        exact ct_iret zQ zx zb zr zk zP zD zS d_M_waiting_85 rfl (⟨by rw [hi], rfl⟩)
      · have hkc := hk4 c (by omega)
        have zl : lv_has lsX 5 [(0, .ref m0), (1, .int (nI p)), (2, .int (nI c))] := by rw [nP_s] at zl; exact zl
        refine lv_iload_n zx zb d_M_waiting_7 rfl (lv_at zl 2 rfl) ?_
        rcases Nat.lt_or_ge c (fl p) with hcf | hcf
        · have hi : 0 = wtL k o ke (fl p) p n := (if_pos hcf).symm.trans hi
          refine lv_aload_n zx zb d_M_waiting_8 rfl (lv_at zl 0 rfl) ?_
          refine wv_get zx zb zg hin_M rfl zo zK zP 0 rfl 6 (by decide) rfl fl_M_22 rfl d_M_waiting_9 ?_
          refine lv_iload_n zx zb d_M_waiting_12 rfl (lv_at zl 1 rfl) ?_
          refine wv_ialdN zx zb zK zP 5 rfl (by omega) (by decide) d_M_waiting_13 ?_
          refine wn_clt_T (tgt := 84) zx zb d_M_waiting_14 (by decide) (by omega) (by omega) (by omega) ?_
          refine lv_iconst (v := (nI 0)) zx zb d_M_waiting_84 (by decide) ?_
          exact ct_iret zQ zx zb zr zk zP zD zS d_M_waiting_85 rfl (⟨by rw [hi], rfl⟩)
        · have hi : (if tiL k o ke c (4 * p) 4 0 ≠ 0 then c + 1 else wtL k o ke (fl p) p c) = wtL k o ke (fl p) p n := (if_neg (by omega)).symm.trans hi
          refine lv_aload_n zx zb d_M_waiting_8 rfl (lv_at zl 0 rfl) ?_
          refine wv_get zx zb zg hin_M rfl zo zK zP 0 rfl 6 (by decide) rfl fl_M_22 rfl d_M_waiting_9 ?_
          refine lv_iload_n zx zb d_M_waiting_12 rfl (lv_at zl 1 rfl) ?_
          refine wv_ialdN zx zb zK zP 5 rfl (by omega) (by decide) d_M_waiting_13 ?_
          refine wn_clt_F (tgt := 84) zx zb d_M_waiting_14 (by decide) (by omega) (by omega) (by omega) ?_
          refine lv_iconst (v := (nI 0)) zx zb d_M_waiting_17 (by decide) ?_
          refine lv_istore_n (lv' := [(3, .int (nI 0)), (0, .ref m0), (1, .int (nI p)), (2, .int (nI c))]) zx zb d_M_waiting_18 rfl zl (by decide) rfl (fun lsX zl => ?_)
          refine lv_iconst (v := (nI 4)) zx zb d_M_waiting_19 (by decide) ?_
          refine lv_iload_n zx zb d_M_waiting_20 rfl (lv_at zl 2 rfl) ?_
          refine wv_imul zx zb d_M_waiting_21 (pk_mul _ _) ?_
          refine lv_istore (lv' := [(4, .int (nI (4 * p))), (3, .int (nI 0)), (0, .ref m0), (1, .int (nI p)), (2, .int (nI c))]) zx zb d_M_waiting_22 zl (by decide) rfl (fun lsX zl => ?_)
          have loopi : ∀ (kk : Nat) (q : Nat) (b : Nat), kk = 4 * p + 4 - q → (q ≤ 4 * p + 4) → (b ≤ 1) → (tiL k o ke c q (4 * p + 4 - q) b = tiL k o ke c (4 * p) 4 0) → ∀ (lsX : Array Slot) (HX : Heap) (oX : List Loc), lv_has lsX 5 [(0, .ref m0), (1, .int (nI p)), (2, .int (nI c)), (3, .int (nI b)), (4, .int (nI q))] → va_P g.1 cls (wM g m0 m1 m2 m3 m4 m5 m6 m7 m8 m9 m10 n sy k o ke va fl sg cp fs la nx hd dn tg bh) HX → va_D AX (wM g m0 m1 m2 m3 m4 m5 m6 m7 m8 m9 m10 n sy k o ke va fl sg cp fs la nx hd dn tg bh) → va_S AX sX.heap HX oX → W pX lL eX (rmL 2 45) sX mX aX bX tX cX HX oX 0 0 QX (F0 mX 24 lsX []) := by
            intro kk
            induction kk using Nat.strongRecOn with
            | ind kk ih_loopi =>
              intro q b hkk hq1 hb1 hi2 lsX HX oX zl zP zD zS
              rcases Nat.lt_or_ge q (4 * p + 4) with hq4 | hq4
              · have e4 : 4 * p + 4 - q = (4 * p + 4 - (q + 1)) + 1 := by omega
                rw [e4] at hi2
                have hi2 : tiL k o ke c (q + 1) (4 * p + 4 - (q + 1)) (if b ≠ 0 ∨ (k c = 1 ∧ (sfO k o ke (o c) q c).isSome = true) then 1 else 0) = tiL k o ke c (4 * p) 4 0 := hi2
                refine lv_iload zx zb d_M_waiting_24 (lv_at zl 4 rfl) ?_
                refine lv_iconst (v := (nI 4)) zx zb d_M_waiting_26 (by decide) ?_
                refine lv_iload_n zx zb d_M_waiting_27 rfl (lv_at zl 1 rfl) ?_
                refine wv_imul zx zb d_M_waiting_28 (pk_mul _ _) ?_
                refine lv_iconst (v := (nI 4)) zx zb d_M_waiting_29 (by decide) ?_
                refine wv_iadd zx zb d_M_waiting_30 (nI_add _ _) ?_
                refine wn_cge_F (tgt := 70) zx zb d_M_waiting_31 (by decide) (by omega) (by omega) (by omega) ?_
                by_cases hb0 : b = 0
                · have hb02 := hb0
                  refine lv_iload_n zx zb d_M_waiting_34 rfl (lv_at zl 3 rfl) ?_
                  refine wn_ine_F (tgt := 58) zx zb d_M_waiting_35 (by decide) (by omega) (by omega) ?_
                  by_cases hk1 : k c = 1
                  · have hk12 := hk1
                    refine lv_aload_n zx zb d_M_waiting_38 rfl (lv_at zl 0 rfl) ?_
                    rcases hs : sfO k o ke (o c) q c with _ | j
                    · have hif : (if b ≠ 0 ∨ (k c = 1 ∧ (sfO k o ke (o c) q c).isSome = true) then 1 else 0) = 0 := if_neg (by rw [hs]; simp [hb0])
                      rw [hif] at hi2
                      refine wv_get zx zb zg hin_M rfl zo zK zP 0 rfl 2 (by decide) rfl fl_M_7 rfl d_M_waiting_39 ?_
                      refine lv_iload_n zx zb d_M_waiting_42 rfl (lv_at zl 2 rfl) ?_
                      refine wv_ialdN zx zb zK zP 1 rfl (by omega) (by decide) d_M_waiting_43 ?_
                      refine lv_iconst (v := (nI 1)) zx zb d_M_waiting_44 (by decide) ?_
                      refine wn_cne_F (tgt := 62) zx zb d_M_waiting_45 (by decide) (by omega) (by omega) (by omega) ?_
                      refine lv_aload_n zx zb d_M_waiting_48 rfl (lv_at zl 0 rfl) ?_
                      refine lv_iload_n zx zb d_M_waiting_49 rfl (lv_at zl 2 rfl) ?_
                      refine lv_iload zx zb d_M_waiting_50 (lv_at zl 4 rfl) ?_
                      refine ct_V (ws' := wM g m0 m1 m2 m3 m4 m5 m6 m7 m8 m9 m10 n sy k o ke va fl sg cp fs la nx hd dn tg bh) (rest := []) (st1 := [.int (-1)]) zx zb zm zo zg zK zP zD zS zA zl.1 (c_M_setFor_n lL g m0 m1 m2 m3 m4 m5 m6 m7 m8 m9 m10 n sy k o ke va fl sg cp fs la nx hd dn tg bh c q (by omega) (fun i hi => hk4 i (by omega)) (fun i hi => hke i (by omega)) (by omega) hs) ok_M_setFor ov_M_setFor ml_M_49 (by decide) 0 7 rfl rfl rfl [0, 1, 2, 3, 4, 5, 6, 7, 8, 9, 10] [] 11 (by decide) rfl rfl rfl rfl (by decide) rfl rfl rfl (Nat.le_of_ble_eq_true rfl) d_M_waiting_52 (fun HX oX zP zD zS => ?_)
                      refine lv_if_lt (tgt := 62) zx zb d_M_waiting_55 (by decide) (fun _ => ?_) (fun h => absurd h (fun h => h (by decide)))
                      refine lv_iconst (v := (nI 0)) zx zb d_M_waiting_62 (by decide) ?_
                      refine lv_istore_n (lv' := [(3, .int (nI 0)), (0, .ref m0), (1, .int (nI p)), (2, .int (nI c)), (4, .int (nI q))]) zx zb d_M_waiting_63 rfl zl (by decide) rfl (fun lsX zl => ?_)
                      refine lv_iinc (k := 4) (lv' := [(4, .int (nI (q + 1))), (3, .int (nI 0)), (0, .ref m0), (1, .int (nI p)), (2, .int (nI c))]) zx zb d_M_waiting_64 zl rfl (ni_inc _) (by decide) rfl (fun lsX zl => ?_)
                      refine lv_goto (tgt := 24) zx zb d_M_waiting_67 (by decide) ?_
                      exact ih_loopi _ (by omega) (q + 1) 0 rfl (by omega) (by omega) hi2 lsX HX oX (lv_sub zl [2, 3, 4, 1, 0] rfl) zP zD zS
                    · have hif : (if b ≠ 0 ∨ (k c = 1 ∧ (sfO k o ke (o c) q c).isSome = true) then 1 else 0) = 1 := if_pos (Or.inr ⟨hk1, by rw [hs]; rfl⟩)
                      rw [hif] at hi2
                      have hjc := sfO_lt hs
                      refine wv_get zx zb zg hin_M rfl zo zK zP 0 rfl 2 (by decide) rfl fl_M_7 rfl d_M_waiting_39 ?_
                      refine lv_iload_n zx zb d_M_waiting_42 rfl (lv_at zl 2 rfl) ?_
                      refine wv_ialdN zx zb zK zP 1 rfl (by omega) (by decide) d_M_waiting_43 ?_
                      refine lv_iconst (v := (nI 1)) zx zb d_M_waiting_44 (by decide) ?_
                      refine wn_cne_F (tgt := 62) zx zb d_M_waiting_45 (by decide) (by omega) (by omega) (by omega) ?_
                      refine lv_aload_n zx zb d_M_waiting_48 rfl (lv_at zl 0 rfl) ?_
                      refine lv_iload_n zx zb d_M_waiting_49 rfl (lv_at zl 2 rfl) ?_
                      refine lv_iload zx zb d_M_waiting_50 (lv_at zl 4 rfl) ?_
                      refine ct_V (ws' := wM g m0 m1 m2 m3 m4 m5 m6 m7 m8 m9 m10 n sy k o ke va fl sg cp fs la nx hd dn tg bh) (rest := []) (st1 := [.int (nI j)]) zx zb zm zo zg zK zP zD zS zA zl.1 (c_M_setFor_s lL g m0 m1 m2 m3 m4 m5 m6 m7 m8 m9 m10 n sy k o ke va fl sg cp fs la nx hd dn tg bh c q j (by omega) (fun i hi => hk4 i (by omega)) (fun i hi => hke i (by omega)) (by omega) hs) ok_M_setFor ov_M_setFor ml_M_49 (by decide) 0 7 rfl rfl rfl [0, 1, 2, 3, 4, 5, 6, 7, 8, 9, 10] [] 11 (by decide) rfl rfl rfl rfl (by decide) rfl rfl rfl (Nat.le_of_ble_eq_true rfl) d_M_waiting_52 (fun HX oX zP zD zS => ?_)
                      refine wn_ilt_F (tgt := 62) zx zb d_M_waiting_55 (by decide) (by omega) (trivial) ?_
                      refine lv_iconst (v := (nI 1)) zx zb d_M_waiting_58 (by decide) ?_
                      refine lv_goto (tgt := 63) zx zb d_M_waiting_59 (by decide) ?_
                      refine lv_istore_n (lv' := [(3, .int (nI 1)), (0, .ref m0), (1, .int (nI p)), (2, .int (nI c)), (4, .int (nI q))]) zx zb d_M_waiting_63 rfl zl (by decide) rfl (fun lsX zl => ?_)
                      refine lv_iinc (k := 4) (lv' := [(4, .int (nI (q + 1))), (3, .int (nI 1)), (0, .ref m0), (1, .int (nI p)), (2, .int (nI c))]) zx zb d_M_waiting_64 zl rfl (ni_inc _) (by decide) rfl (fun lsX zl => ?_)
                      refine lv_goto (tgt := 24) zx zb d_M_waiting_67 (by decide) ?_
                      exact ih_loopi _ (by omega) (q + 1) 1 rfl (by omega) (by omega) hi2 lsX HX oX (lv_sub zl [2, 3, 4, 1, 0] rfl) zP zD zS
                  · have hif : (if b ≠ 0 ∨ (k c = 1 ∧ (sfO k o ke (o c) q c).isSome = true) then 1 else 0) = 0 := if_neg (by simp [hb0, hk1])
                    rw [hif] at hi2
                    refine lv_aload_n zx zb d_M_waiting_38 rfl (lv_at zl 0 rfl) ?_
                    refine wv_get zx zb zg hin_M rfl zo zK zP 0 rfl 2 (by decide) rfl fl_M_7 rfl d_M_waiting_39 ?_
                    refine lv_iload_n zx zb d_M_waiting_42 rfl (lv_at zl 2 rfl) ?_
                    refine wv_ialdN zx zb zK zP 1 rfl (by omega) (by decide) d_M_waiting_43 ?_
                    refine lv_iconst (v := (nI 1)) zx zb d_M_waiting_44 (by decide) ?_
                    refine wn_cne_T (tgt := 62) zx zb d_M_waiting_45 (by decide) (by omega) (by omega) (by omega) ?_
                    refine lv_iconst (v := (nI 0)) zx zb d_M_waiting_62 (by decide) ?_
                    refine lv_istore_n (lv' := [(3, .int (nI 0)), (0, .ref m0), (1, .int (nI p)), (2, .int (nI c)), (4, .int (nI q))]) zx zb d_M_waiting_63 rfl zl (by decide) rfl (fun lsX zl => ?_)
                    refine lv_iinc (k := 4) (lv' := [(4, .int (nI (q + 1))), (3, .int (nI 0)), (0, .ref m0), (1, .int (nI p)), (2, .int (nI c))]) zx zb d_M_waiting_64 zl rfl (ni_inc _) (by decide) rfl (fun lsX zl => ?_)
                    refine lv_goto (tgt := 24) zx zb d_M_waiting_67 (by decide) ?_
                    exact ih_loopi _ (by omega) (q + 1) 0 rfl (by omega) (by omega) hi2 lsX HX oX (lv_sub zl [2, 3, 4, 1, 0] rfl) zP zD zS
                · have hif : (if b ≠ 0 ∨ (k c = 1 ∧ (sfO k o ke (o c) q c).isSome = true) then 1 else 0) = 1 := if_pos (Or.inl hb0)
                  rw [hif] at hi2
                  refine lv_iload_n zx zb d_M_waiting_34 rfl (lv_at zl 3 rfl) ?_
                  refine wn_ine_T (tgt := 58) zx zb d_M_waiting_35 (by decide) (by omega) (by omega) ?_
                  refine lv_iconst (v := (nI 1)) zx zb d_M_waiting_58 (by decide) ?_
                  refine lv_goto (tgt := 63) zx zb d_M_waiting_59 (by decide) ?_
                  refine lv_istore_n (lv' := [(3, .int (nI 1)), (0, .ref m0), (1, .int (nI p)), (2, .int (nI c)), (4, .int (nI q))]) zx zb d_M_waiting_63 rfl zl (by decide) rfl (fun lsX zl => ?_)
                  refine lv_iinc (k := 4) (lv' := [(4, .int (nI (q + 1))), (3, .int (nI 1)), (0, .ref m0), (1, .int (nI p)), (2, .int (nI c))]) zx zb d_M_waiting_64 zl rfl (ni_inc _) (by decide) rfl (fun lsX zl => ?_)
                  refine lv_goto (tgt := 24) zx zb d_M_waiting_67 (by decide) ?_
                  exact ih_loopi _ (by omega) (q + 1) 1 rfl (by omega) (by omega) hi2 lsX HX oX (lv_sub zl [2, 3, 4, 1, 0] rfl) zP zD zS
              · have e4 : 4 * p + 4 - q = 0 := by omega
                rw [e4] at hi2
                have hi2 : b = tiL k o ke c (4 * p) 4 0 := hi2
                refine lv_iload zx zb d_M_waiting_24 (lv_at zl 4 rfl) ?_
                refine lv_iconst (v := (nI 4)) zx zb d_M_waiting_26 (by decide) ?_
                refine lv_iload_n zx zb d_M_waiting_27 rfl (lv_at zl 1 rfl) ?_
                refine wv_imul zx zb d_M_waiting_28 (pk_mul _ _) ?_
                refine lv_iconst (v := (nI 4)) zx zb d_M_waiting_29 (by decide) ?_
                refine wv_iadd zx zb d_M_waiting_30 (nI_add _ _) ?_
                refine wn_cge_T (tgt := 70) zx zb d_M_waiting_31 (by decide) (by omega) (by omega) (by omega) ?_
                by_cases hb0 : b = 0
                · have hi : wtL k o ke (fl p) p c = wtL k o ke (fl p) p n := (if_neg (by omega)).symm.trans hi
                  refine lv_iload_n zx zb d_M_waiting_70 rfl (lv_at zl 3 rfl) ?_
                  refine wn_ieq_T (tgt := 78) zx zb d_M_waiting_71 (by decide) (by omega) (by omega) ?_
                  refine lv_iinc (k := 2) (lv' := [(2, .int (nP c)), (0, .ref m0), (1, .int (nI p)), (3, .int (nI b)), (4, .int (nI q))]) zx zb d_M_waiting_78 zl rfl (nP_dec _) (by decide) rfl (fun lsX zl => ?_)
                  refine lv_goto (tgt := 7) zx zb d_M_waiting_81 (by decide) ?_
                  exact ih_loop7 _ (by omega) c rfl (by omega) hi lsX HX oX (lv_sub zl [1, 2, 0] rfl) zP zD zS
                · have hi : c + 1 = wtL k o ke (fl p) p n := (if_pos (by omega)).symm.trans hi
                  refine lv_iload_n zx zb d_M_waiting_70 rfl (lv_at zl 3 rfl) ?_
                  refine wn_ieq_F (tgt := 78) zx zb d_M_waiting_71 (by decide) (by omega) (by omega) ?_
                  refine lv_iload_n zx zb d_M_waiting_74 rfl (lv_at zl 2 rfl) ?_
                  refine lv_iconst (v := (nI 1)) zx zb d_M_waiting_75 (by decide) ?_
                  refine wv_iadd zx zb d_M_waiting_76 (nI_add _ _) ?_
                  exact ct_iret zQ zx zb zr zk zP zD zS d_M_waiting_77 rfl (⟨by rw [hi], rfl⟩)
          exact loopi _ (4 * p) 0 rfl (by omega) (by omega) (by rw [Nat.add_sub_cancel_left]) lsX HX oX (lv_sub zl [2, 3, 4, 1, 0] rfl) zP zD zS
  exact loop7 _ n rfl (Nat.le_refl _) rfl lsX HX oX (lv_sub zl [1, 2, 0] rfl) zP zD zS
set_option maxRecDepth 20000 in
theorem c_M_flush_n (lL : Launch) (g : Gt) (m0 : Nat) (m1 : Nat) (m2 : Nat) (m3 : Nat) (m4 : Nat) (m5 : Nat) (m6 : Nat) (m7 : Nat) (m8 : Nat) (m9 : Nat) (m10 : Nat) (n : Nat) (sy : Nat) (k : Nat → Nat) (o : Nat → Int32) (ke : Nat → Nat) (va : Nat → Int32) (fl : Nat → Nat) (sg : Nat → Nat) (cp : Nat → Nat) (fs : Nat → Nat) (la : Nat → Nat) (nx : Nat) (hd : Nat → Nat) (dn : Nat) (tg : Nat) (bh : Nat) (p : Int32) (hp8 : p < 0) : Ct lL g y_M_flush (.code y_M_flush b_M_flush 3 (some .int)) 6 200 [.ref m0, .int p] (wM g m0 m1 m2 m3 m4 m5 m6 m7 m8 m9 m10 n sy k o ke va fl sg cp fs la nx hd dn tg bh) (exP (some (.int (-1))) (wM g m0 m1 m2 m3 m4 m5 m6 m7 m8 m9 m10 n sy k o ke va fl sg cp fs la nx hd dn tg bh)) := by
  refine Ct.ofW (by decide) (Nat.le_of_ble_eq_true rfl) ?_
  intro pX eX sX mX aX bX tX cX AX lsX HX oX QX zx zb zr zk zm zo zg zK zP zD zA zS zQ zl
  have zo : sX.vm.findClass R_M = some mX.cls := zo
  have zl : lv_has lsX 3 [(0, .ref m0), (1, .int p)] := zl
  refine lv_iload_n zx zb d_M_flush_0 rfl (lv_at zl 1 rfl) ?_
  refine lv_if_lt (tgt := 10) zx zb d_M_flush_1 (by decide) (fun _ => ?_) (fun h => absurd h (fun h => h hp8))
  refine lv_iconst (v := (-1)) zx zb d_M_flush_10 (by decide) ?_
  exact ct_iret zQ zx zb zr zk zP zD zS d_M_flush_11 rfl (⟨rfl, rfl⟩)
set_option maxRecDepth 20000 in
theorem c_M_flush_g (lL : Launch) (g : Gt) (m0 : Nat) (m1 : Nat) (m2 : Nat) (m3 : Nat) (m4 : Nat) (m5 : Nat) (m6 : Nat) (m7 : Nat) (m8 : Nat) (m9 : Nat) (m10 : Nat) (n : Nat) (sy : Nat) (k : Nat → Nat) (o : Nat → Int32) (ke : Nat → Nat) (va : Nat → Int32) (fl : Nat → Nat) (sg : Nat → Nat) (cp : Nat → Nat) (fs : Nat → Nat) (la : Nat → Nat) (nx : Nat) (hd : Nat → Nat) (dn : Nat) (tg : Nat) (bh : Nat) (p : Nat) (hp8 : 8 ≤ p) (hp9 : p < 2147483648) : Ct lL g y_M_flush (.code y_M_flush b_M_flush 3 (some .int)) 6 200 [.ref m0, .int (nI p)] (wM g m0 m1 m2 m3 m4 m5 m6 m7 m8 m9 m10 n sy k o ke va fl sg cp fs la nx hd dn tg bh) (exP (some (.int (-1))) (wM g m0 m1 m2 m3 m4 m5 m6 m7 m8 m9 m10 n sy k o ke va fl sg cp fs la nx hd dn tg bh)) := by
  refine Ct.ofW (by decide) (Nat.le_of_ble_eq_true rfl) ?_
  intro pX eX sX mX aX bX tX cX AX lsX HX oX QX zx zb zr zk zm zo zg zK zP zD zA zS zQ zl
  have zo : sX.vm.findClass R_M = some mX.cls := zo
  have zl : lv_has lsX 3 [(0, .ref m0), (1, .int (nI p))] := zl
  refine lv_iload_n zx zb d_M_flush_0 rfl (lv_at zl 1 rfl) ?_
  refine wn_ilt_F (tgt := 10) zx zb d_M_flush_1 (by decide) (by omega) (trivial) ?_
  refine lv_iload_n zx zb d_M_flush_4 rfl (lv_at zl 1 rfl) ?_
  refine lv_bipush (v := (nI 7)) zx zb d_M_flush_5 (by decide) ?_
  refine wn_cle_F (tgt := 12) zx zb d_M_flush_7 (by decide) (by omega) (by omega) (by omega) ?_
  refine lv_iconst (v := (-1)) zx zb d_M_flush_10 (by decide) ?_
  exact ct_iret zQ zx zb zr zk zP zD zS d_M_flush_11 rfl (⟨rfl, rfl⟩)
set_option maxRecDepth 20000 in
theorem c_M_flush_c (lL : Launch) (g : Gt) (m0 : Nat) (m1 : Nat) (m2 : Nat) (m3 : Nat) (m4 : Nat) (m5 : Nat) (m6 : Nat) (m7 : Nat) (m8 : Nat) (m9 : Nat) (m10 : Nat) (n : Nat) (sy : Nat) (k : Nat → Nat) (o : Nat → Int32) (ke : Nat → Nat) (va : Nat → Int32) (fl : Nat → Nat) (sg : Nat → Nat) (cp : Nat → Nat) (fs : Nat → Nat) (la : Nat → Nat) (nx : Nat) (hd : Nat → Nat) (dn : Nat) (tg : Nat) (bh : Nat) (p : Nat) (hp8 : p < 8) (hn5 : n < 520) (hk4 : ∀ i, i < n → k i < 4) (hke : ∀ i, i < n → k i = 0 → ke i < 32) (hfl : fl p ≤ 520) (hw : wtL k o ke (fl p) p n = 0) : Ct lL g y_M_flush (.code y_M_flush b_M_flush 3 (some .int)) 6 200 [.ref m0, .int (nI p)] (wM g m0 m1 m2 m3 m4 m5 m6 m7 m8 m9 m10 n sy k o ke va fl sg cp fs la nx hd dn tg bh) (exP (some (.int (nI 0))) (wM g m0 m1 m2 m3 m4 m5 m6 m7 m8 m9 m10 n sy k o ke va fl sg cp fs la nx hd dn tg bh)) := by
  refine Ct.ofW (by decide) (Nat.le_of_ble_eq_true rfl) ?_
  intro pX eX sX mX aX bX tX cX AX lsX HX oX QX zx zb zr zk zm zo zg zK zP zD zA zS zQ zl
  have zo : sX.vm.findClass R_M = some mX.cls := zo
  have zl : lv_has lsX 3 [(0, .ref m0), (1, .int (nI p))] := zl
  refine lv_iload_n zx zb d_M_flush_0 rfl (lv_at zl 1 rfl) ?_
  refine wn_ilt_F (tgt := 10) zx zb d_M_flush_1 (by decide) (by omega) (trivial) ?_
  refine lv_iload_n zx zb d_M_flush_4 rfl (lv_at zl 1 rfl) ?_
  refine lv_bipush (v := (nI 7)) zx zb d_M_flush_5 (by decide) ?_
  refine wn_cle_T (tgt := 12) zx zb d_M_flush_7 (by decide) (by omega) (by omega) (by omega) ?_
  have hwl := wtL_le k o ke (fl p) p n
  refine lv_aload_n zx zb d_M_flush_12 rfl (lv_at zl 0 rfl) ?_
  refine lv_iload_n zx zb d_M_flush_13 rfl (lv_at zl 1 rfl) ?_
  refine ct_V (ws' := wM g m0 m1 m2 m3 m4 m5 m6 m7 m8 m9 m10 n sy k o ke va fl sg cp fs la nx hd dn tg bh) (rest := []) (st1 := [.int (nI (wtL k o ke (fl p) p n))]) zx zb zm zo zg zK zP zD zS zA zl.1 (c_M_waiting lL g m0 m1 m2 m3 m4 m5 m6 m7 m8 m9 m10 n sy k o ke va fl sg cp fs la nx hd dn tg bh p (by omega) (by omega) hk4 hke (by omega)) ok_M_waiting ov_M_waiting ml_M_77 (by decide) 0 7 rfl rfl rfl [0, 1, 2, 3, 4, 5, 6, 7, 8, 9, 10] [] 11 (by decide) rfl rfl rfl rfl (by decide) rfl rfl rfl (Nat.le_of_ble_eq_true rfl) d_M_flush_14 (fun HX oX zP zD zS => ?_)
  refine lv_istore_n (lv' := [(2, .int (nI (wtL k o ke (fl p) p n))), (0, .ref m0), (1, .int (nI p))]) zx zb d_M_flush_17 rfl zl (by decide) rfl (fun lsX zl => ?_)
  refine lv_iload_n zx zb d_M_flush_18 rfl (lv_at zl 0 rfl) ?_
  refine wn_ine_F (tgt := 24) zx zb d_M_flush_19 (by decide) (by omega) (by omega) ?_
  refine lv_iconst (v := (nI 0)) zx zb d_M_flush_22 (by decide) ?_
  exact ct_iret zQ zx zb zr zk zP zD zS d_M_flush_23 rfl (⟨rfl, rfl⟩)
set_option maxRecDepth 20000 in
theorem c_M_flush_s (lL : Launch) (g : Gt) (m0 : Nat) (m1 : Nat) (m2 : Nat) (m3 : Nat) (m4 : Nat) (m5 : Nat) (m6 : Nat) (m7 : Nat) (m8 : Nat) (m9 : Nat) (m10 : Nat) (n : Nat) (sy : Nat) (k : Nat → Nat) (o : Nat → Int32) (ke : Nat → Nat) (va : Nat → Int32) (fl : Nat → Nat) (sg : Nat → Nat) (cp : Nat → Nat) (fs : Nat → Nat) (la : Nat → Nat) (nx : Nat) (hd : Nat → Nat) (dn : Nat) (tg : Nat) (bh : Nat) (p : Nat) (hp8 : p < 8) (hn5 : n < 520) (hk4 : ∀ i, i < n → k i < 4) (hke : ∀ i, i < n → k i = 0 → ke i < 32) (hfl : fl p ≤ 520) (hsn : sy ≤ n) (hw : sy < wtL k o ke (fl p) p n) : Ct lL g y_M_flush (.code y_M_flush b_M_flush 3 (some .int)) 6 200 [.ref m0, .int (nI p)] (wM g m0 m1 m2 m3 m4 m5 m6 m7 m8 m9 m10 n sy k o ke va fl sg cp fs la nx hd dn tg bh) (exP (some (.int (nI 1))) (wM g m0 m1 m2 m3 m4 m5 m6 m7 m8 m9 m10 n n k o ke va (va_up fl p n) sg cp fs la nx hd dn tg bh)) := by
  refine Ct.ofW (by decide) (Nat.le_of_ble_eq_true rfl) ?_
  intro pX eX sX mX aX bX tX cX AX lsX HX oX QX zx zb zr zk zm zo zg zK zP zD zA zS zQ zl
  have zo : sX.vm.findClass R_M = some mX.cls := zo
  have zl : lv_has lsX 3 [(0, .ref m0), (1, .int (nI p))] := zl
  refine lv_iload_n zx zb d_M_flush_0 rfl (lv_at zl 1 rfl) ?_
  refine wn_ilt_F (tgt := 10) zx zb d_M_flush_1 (by decide) (by omega) (trivial) ?_
  refine lv_iload_n zx zb d_M_flush_4 rfl (lv_at zl 1 rfl) ?_
  refine lv_bipush (v := (nI 7)) zx zb d_M_flush_5 (by decide) ?_
  refine wn_cle_T (tgt := 12) zx zb d_M_flush_7 (by decide) (by omega) (by omega) (by omega) ?_
  have hwl := wtL_le k o ke (fl p) p n
  refine lv_aload_n zx zb d_M_flush_12 rfl (lv_at zl 0 rfl) ?_
  refine lv_iload_n zx zb d_M_flush_13 rfl (lv_at zl 1 rfl) ?_
  refine ct_V (ws' := wM g m0 m1 m2 m3 m4 m5 m6 m7 m8 m9 m10 n sy k o ke va fl sg cp fs la nx hd dn tg bh) (rest := []) (st1 := [.int (nI (wtL k o ke (fl p) p n))]) zx zb zm zo zg zK zP zD zS zA zl.1 (c_M_waiting lL g m0 m1 m2 m3 m4 m5 m6 m7 m8 m9 m10 n sy k o ke va fl sg cp fs la nx hd dn tg bh p (by omega) (by omega) hk4 hke (by omega)) ok_M_waiting ov_M_waiting ml_M_77 (by decide) 0 7 rfl rfl rfl [0, 1, 2, 3, 4, 5, 6, 7, 8, 9, 10] [] 11 (by decide) rfl rfl rfl rfl (by decide) rfl rfl rfl (Nat.le_of_ble_eq_true rfl) d_M_flush_14 (fun HX oX zP zD zS => ?_)
  refine lv_istore_n (lv' := [(2, .int (nI (wtL k o ke (fl p) p n))), (0, .ref m0), (1, .int (nI p))]) zx zb d_M_flush_17 rfl zl (by decide) rfl (fun lsX zl => ?_)
  refine lv_iload_n zx zb d_M_flush_18 rfl (lv_at zl 0 rfl) ?_
  refine wn_ine_T (tgt := 24) zx zb d_M_flush_19 (by decide) (by omega) (by omega) ?_
  refine lv_aload_n zx zb d_M_flush_24 rfl (lv_at zl 1 rfl) ?_
  refine lv_iload_n zx zb d_M_flush_25 rfl (lv_at zl 0 rfl) ?_
  refine lv_aload_n zx zb d_M_flush_26 rfl (lv_at zl 1 rfl) ?_
  refine wv_get zx zb zg hin_M rfl zo zK zP 0 rfl 1 (by decide) rfl fl_M_74 rfl d_M_flush_27 ?_
  refine wn_cle_F (tgt := 40) zx zb d_M_flush_30 (by decide) (by omega) (by omega) (by omega) ?_
  refine lv_aload_n zx zb d_M_flush_33 rfl (lv_at zl 1 rfl) ?_
  refine wv_get zx zb zg hin_M rfl zo zK zP 0 rfl 0 (by decide) rfl fl_M_41 rfl d_M_flush_34 ?_
  refine lv_goto (tgt := 44) zx zb d_M_flush_37 (by decide) ?_
  refine wv_put zx zb zg hin_M rfl t_M t_M_ok n_M zo zK zP zD zS 0 rfl 1 (by decide) rfl fl_M_74 rfl rfl rfl (Nat.le_of_ble_eq_true rfl) d_M_flush_44 (fun HX oX zP zD zS => ?_)
  have zP : va_P g.1 cls (wM g m0 m1 m2 m3 m4 m5 m6 m7 m8 m9 m10 n n k o ke va fl sg cp fs la nx hd dn tg bh) HX := zP
  have zD : va_D AX (wM g m0 m1 m2 m3 m4 m5 m6 m7 m8 m9 m10 n n k o ke va fl sg cp fs la nx hd dn tg bh) := zD
  refine lv_aload_n zx zb d_M_flush_47 rfl (lv_at zl 1 rfl) ?_
  refine wv_get zx zb zg hin_M rfl zo zK zP 0 rfl 6 (by decide) rfl fl_M_22 rfl d_M_flush_48 ?_
  refine lv_iload_n zx zb d_M_flush_51 rfl (lv_at zl 2 rfl) ?_
  refine lv_aload_n zx zb d_M_flush_52 rfl (lv_at zl 1 rfl) ?_
  refine wv_get zx zb zg hin_M rfl zo zK zP 0 rfl 0 (by decide) rfl fl_M_41 rfl d_M_flush_53 ?_
  refine wv_iastN zx zb zK zP zD zS 5 rfl (by omega) (by decide) d_M_flush_56 (fun HX oX zP zD zS => ?_)
  have zP : va_P g.1 cls (wM g m0 m1 m2 m3 m4 m5 m6 m7 m8 m9 m10 n n k o ke va (va_up fl p n) sg cp fs la nx hd dn tg bh) HX := zP
  have zD : va_D AX (wM g m0 m1 m2 m3 m4 m5 m6 m7 m8 m9 m10 n n k o ke va (va_up fl p n) sg cp fs la nx hd dn tg bh) := zD
  refine lv_iconst (v := (nI 1)) zx zb d_M_flush_57 (by decide) ?_
  exact ct_iret zQ zx zb zr zk zP zD zS d_M_flush_58 rfl (⟨rfl, rfl⟩)
set_option maxRecDepth 20000 in
theorem c_M_flush_d (lL : Launch) (g : Gt) (m0 : Nat) (m1 : Nat) (m2 : Nat) (m3 : Nat) (m4 : Nat) (m5 : Nat) (m6 : Nat) (m7 : Nat) (m8 : Nat) (m9 : Nat) (m10 : Nat) (n : Nat) (sy : Nat) (k : Nat → Nat) (o : Nat → Int32) (ke : Nat → Nat) (va : Nat → Int32) (fl : Nat → Nat) (sg : Nat → Nat) (cp : Nat → Nat) (fs : Nat → Nat) (la : Nat → Nat) (nx : Nat) (hd : Nat → Nat) (dn : Nat) (tg : Nat) (bh : Nat) (p : Nat) (hp8 : p < 8) (hn5 : n < 520) (hk4 : ∀ i, i < n → k i < 4) (hke : ∀ i, i < n → k i = 0 → ke i < 32) (hfl : fl p ≤ 520) (hsn : sy ≤ n) (hw : 0 < wtL k o ke (fl p) p n) (hw2 : wtL k o ke (fl p) p n ≤ sy) : Ct lL g y_M_flush (.code y_M_flush b_M_flush 3 (some .int)) 6 200 [.ref m0, .int (nI p)] (wM g m0 m1 m2 m3 m4 m5 m6 m7 m8 m9 m10 n sy k o ke va fl sg cp fs la nx hd dn tg bh) (exP (some (.int (nI 1))) (wM g m0 m1 m2 m3 m4 m5 m6 m7 m8 m9 m10 n sy k o ke va (va_up fl p n) sg cp fs la nx hd dn tg bh)) := by
  refine Ct.ofW (by decide) (Nat.le_of_ble_eq_true rfl) ?_
  intro pX eX sX mX aX bX tX cX AX lsX HX oX QX zx zb zr zk zm zo zg zK zP zD zA zS zQ zl
  have zo : sX.vm.findClass R_M = some mX.cls := zo
  have zl : lv_has lsX 3 [(0, .ref m0), (1, .int (nI p))] := zl
  refine lv_iload_n zx zb d_M_flush_0 rfl (lv_at zl 1 rfl) ?_
  refine wn_ilt_F (tgt := 10) zx zb d_M_flush_1 (by decide) (by omega) (trivial) ?_
  refine lv_iload_n zx zb d_M_flush_4 rfl (lv_at zl 1 rfl) ?_
  refine lv_bipush (v := (nI 7)) zx zb d_M_flush_5 (by decide) ?_
  refine wn_cle_T (tgt := 12) zx zb d_M_flush_7 (by decide) (by omega) (by omega) (by omega) ?_
  have hwl := wtL_le k o ke (fl p) p n
  refine lv_aload_n zx zb d_M_flush_12 rfl (lv_at zl 0 rfl) ?_
  refine lv_iload_n zx zb d_M_flush_13 rfl (lv_at zl 1 rfl) ?_
  refine ct_V (ws' := wM g m0 m1 m2 m3 m4 m5 m6 m7 m8 m9 m10 n sy k o ke va fl sg cp fs la nx hd dn tg bh) (rest := []) (st1 := [.int (nI (wtL k o ke (fl p) p n))]) zx zb zm zo zg zK zP zD zS zA zl.1 (c_M_waiting lL g m0 m1 m2 m3 m4 m5 m6 m7 m8 m9 m10 n sy k o ke va fl sg cp fs la nx hd dn tg bh p (by omega) (by omega) hk4 hke (by omega)) ok_M_waiting ov_M_waiting ml_M_77 (by decide) 0 7 rfl rfl rfl [0, 1, 2, 3, 4, 5, 6, 7, 8, 9, 10] [] 11 (by decide) rfl rfl rfl rfl (by decide) rfl rfl rfl (Nat.le_of_ble_eq_true rfl) d_M_flush_14 (fun HX oX zP zD zS => ?_)
  refine lv_istore_n (lv' := [(2, .int (nI (wtL k o ke (fl p) p n))), (0, .ref m0), (1, .int (nI p))]) zx zb d_M_flush_17 rfl zl (by decide) rfl (fun lsX zl => ?_)
  refine lv_iload_n zx zb d_M_flush_18 rfl (lv_at zl 0 rfl) ?_
  refine wn_ine_T (tgt := 24) zx zb d_M_flush_19 (by decide) (by omega) (by omega) ?_
  refine lv_aload_n zx zb d_M_flush_24 rfl (lv_at zl 1 rfl) ?_
  refine lv_iload_n zx zb d_M_flush_25 rfl (lv_at zl 0 rfl) ?_
  refine lv_aload_n zx zb d_M_flush_26 rfl (lv_at zl 1 rfl) ?_
  refine wv_get zx zb zg hin_M rfl zo zK zP 0 rfl 1 (by decide) rfl fl_M_74 rfl d_M_flush_27 ?_
  refine wn_cle_T (tgt := 40) zx zb d_M_flush_30 (by decide) (by omega) (by omega) (by omega) ?_
  refine lv_aload_n zx zb d_M_flush_40 rfl (lv_at zl 1 rfl) ?_
  refine wv_get zx zb zg hin_M rfl zo zK zP 0 rfl 1 (by decide) rfl fl_M_74 rfl d_M_flush_41 ?_
  refine wv_put zx zb zg hin_M rfl t_M t_M_ok n_M zo zK zP zD zS 0 rfl 1 (by decide) rfl fl_M_74 rfl rfl rfl (Nat.le_of_ble_eq_true rfl) d_M_flush_44 (fun HX oX zP zD zS => ?_)
  have zP : va_P g.1 cls (wM g m0 m1 m2 m3 m4 m5 m6 m7 m8 m9 m10 n sy k o ke va fl sg cp fs la nx hd dn tg bh) HX := zP
  have zD : va_D AX (wM g m0 m1 m2 m3 m4 m5 m6 m7 m8 m9 m10 n sy k o ke va fl sg cp fs la nx hd dn tg bh) := zD
  refine lv_aload_n zx zb d_M_flush_47 rfl (lv_at zl 1 rfl) ?_
  refine wv_get zx zb zg hin_M rfl zo zK zP 0 rfl 6 (by decide) rfl fl_M_22 rfl d_M_flush_48 ?_
  refine lv_iload_n zx zb d_M_flush_51 rfl (lv_at zl 2 rfl) ?_
  refine lv_aload_n zx zb d_M_flush_52 rfl (lv_at zl 1 rfl) ?_
  refine wv_get zx zb zg hin_M rfl zo zK zP 0 rfl 0 (by decide) rfl fl_M_41 rfl d_M_flush_53 ?_
  refine wv_iastN zx zb zK zP zD zS 5 rfl (by omega) (by decide) d_M_flush_56 (fun HX oX zP zD zS => ?_)
  have zP : va_P g.1 cls (wM g m0 m1 m2 m3 m4 m5 m6 m7 m8 m9 m10 n sy k o ke va (va_up fl p n) sg cp fs la nx hd dn tg bh) HX := zP
  have zD : va_D AX (wM g m0 m1 m2 m3 m4 m5 m6 m7 m8 m9 m10 n sy k o ke va (va_up fl p n) sg cp fs la nx hd dn tg bh) := zD
  refine lv_iconst (v := (nI 1)) zx zb d_M_flush_57 (by decide) ?_
  exact ct_iret zQ zx zb zr zk zP zD zS d_M_flush_58 rfl (⟨rfl, rfl⟩)
set_option maxRecDepth 20000 in
theorem c_M_checkpoint (lL : Launch) (g : Gt) (m0 : Nat) (m1 : Nat) (m2 : Nat) (m3 : Nat) (m4 : Nat) (m5 : Nat) (m6 : Nat) (m7 : Nat) (m8 : Nat) (m9 : Nat) (m10 : Nat) (n : Nat) (sy : Nat) (k : Nat → Nat) (o : Nat → Int32) (ke : Nat → Nat) (va : Nat → Int32) (fl : Nat → Nat) (sg : Nat → Nat) (cp : Nat → Nat) (fs : Nat → Nat) (la : Nat → Nat) (nx : Nat) (hd : Nat → Nat) (dn : Nat) (tg : Nat) (bh : Nat) (hn5 : n < 520) (hk4 : ∀ i, i < n → k i < 4) : Ct lL g y_M_checkpoint (.code y_M_checkpoint b_M_checkpoint 4 (some .int)) 5 150 [.ref m0] (wM g m0 m1 m2 m3 m4 m5 m6 m7 m8 m9 m10 n sy k o ke va fl sg cp fs la nx hd dn tg bh) (exP (some (.int (nI (ckS k o n 0 3 n)))) (wM g m0 m1 m2 m3 m4 m5 m6 m7 m8 m9 m10 n n k o ke va (ffS n fl 0 8) sg cp fs la nx hd dn tg bh)) := by
  refine Ct.ofW (by decide) (Nat.le_of_ble_eq_true rfl) ?_
  intro pX eX sX mX aX bX tX cX AX lsX HX oX QX zx zb zr zk zm zo zg zK zP zD zA zS zQ zl
  have zo : sX.vm.findClass R_M = some mX.cls := zo
  have zl : lv_has lsX 4 [(0, .ref m0)] := zl
  refine lv_aload_n zx zb d_M_checkpoint_0 rfl (lv_at zl 0 rfl) ?_
  refine lv_aload_n zx zb d_M_checkpoint_1 rfl (lv_at zl 0 rfl) ?_
  refine wv_get zx zb zg hin_M rfl zo zK zP 0 rfl 0 (by decide) rfl fl_M_41 rfl d_M_checkpoint_2 ?_
  refine wv_put zx zb zg hin_M rfl t_M t_M_ok n_M zo zK zP zD zS 0 rfl 1 (by decide) rfl fl_M_74 rfl rfl rfl (Nat.le_of_ble_eq_true rfl) d_M_checkpoint_5 (fun HX oX zP zD zS => ?_)
  have zP : va_P g.1 cls (wM g m0 m1 m2 m3 m4 m5 m6 m7 m8 m9 m10 n n k o ke va fl sg cp fs la nx hd dn tg bh) HX := zP
  have zD : va_D AX (wM g m0 m1 m2 m3 m4 m5 m6 m7 m8 m9 m10 n n k o ke va fl sg cp fs la nx hd dn tg bh) := zD
  refine lv_iconst (v := (nI 0)) zx zb d_M_checkpoint_8 (by decide) ?_
  refine lv_istore_n (lv' := [(1, .int (nI 0)), (0, .ref m0)]) zx zb d_M_checkpoint_9 rfl zl (by decide) rfl (fun lsX zl => ?_)
  have loop10 : ∀ (kk : Nat) (q : Nat) (flq : Nat → Nat), kk = 8 - q → (q ≤ 8) → (ffS n flq q (8 - q) = ffS n fl 0 8) → ∀ (lsX : Array Slot) (HX : Heap) (oX : List Loc), lv_has lsX 4 [(0, .ref m0), (1, .int (nI q))] → va_P g.1 cls (wM g m0 m1 m2 m3 m4 m5 m6 m7 m8 m9 m10 n n k o ke va flq sg cp fs la nx hd dn tg bh) HX → va_D AX (wM g m0 m1 m2 m3 m4 m5 m6 m7 m8 m9 m10 n n k o ke va flq sg cp fs la nx hd dn tg bh) → va_S AX sX.heap HX oX → W pX lL eX (rmL 5 150) sX mX aX bX tX cX HX oX 0 0 QX (F0 mX 10 lsX []) := by
    intro kk
    induction kk using Nat.strongRecOn with
    | ind kk ih_loop10 =>
      intro q flq hkk hq hi lsX HX oX zl zP zD zS
      rcases Nat.lt_or_ge q 8 with h3 | h3
      · have e3 : 8 - q = (8 - (q + 1)) + 1 := by omega
        rw [e3] at hi
        have hi : ffS n (va_up flq q n) (q + 1) (8 - (q + 1)) = ffS n fl 0 8 := hi
        refine lv_iload_n zx zb d_M_checkpoint_10 rfl (lv_at zl 1 rfl) ?_
        refine lv_bipush (v := (nI 8)) zx zb d_M_checkpoint_11 (by decide) ?_
        refine wn_cge_F (tgt := 32) zx zb d_M_checkpoint_13 (by decide) (by omega) (by omega) (by omega) ?_
        refine lv_aload_n zx zb d_M_checkpoint_16 rfl (lv_at zl 0 rfl) ?_
        refine wv_get zx zb zg hin_M rfl zo zK zP 0 rfl 6 (by decide) rfl fl_M_22 rfl d_M_checkpoint_17 ?_
        refine lv_iload_n zx zb d_M_checkpoint_20 rfl (lv_at zl 1 rfl) ?_
        refine lv_aload_n zx zb d_M_checkpoint_21 rfl (lv_at zl 0 rfl) ?_
        refine wv_get zx zb zg hin_M rfl zo zK zP 0 rfl 0 (by decide) rfl fl_M_41 rfl d_M_checkpoint_22 ?_
        refine wv_iastN zx zb zK zP zD zS 5 rfl (by omega) (by decide) d_M_checkpoint_25 (fun HX oX zP zD zS => ?_)
        have zP : va_P g.1 cls (wM g m0 m1 m2 m3 m4 m5 m6 m7 m8 m9 m10 n n k o ke va (va_up flq q n) sg cp fs la nx hd dn tg bh) HX := zP
        have zD : va_D AX (wM g m0 m1 m2 m3 m4 m5 m6 m7 m8 m9 m10 n n k o ke va (va_up flq q n) sg cp fs la nx hd dn tg bh) := zD
        refine lv_iinc (k := 1) (lv' := [(1, .int (nI (q + 1))), (0, .ref m0)]) zx zb d_M_checkpoint_26 zl rfl (ni_inc _) (by decide) rfl (fun lsX zl => ?_)
        refine lv_goto (tgt := 10) zx zb d_M_checkpoint_29 (by decide) ?_
        exact ih_loop10 _ (by omega) (q + 1) (va_up flq q n) rfl (by omega) hi lsX HX oX (lv_sub zl [1, 0] rfl) zP zD zS
      · have e3 : q = 8 := by omega
        subst e3
        have hi : flq = ffS n fl 0 8 := hi
        rw [hi] at zP zD
        refine lv_iload_n zx zb d_M_checkpoint_10 rfl (lv_at zl 1 rfl) ?_
        refine lv_bipush (v := (nI 8)) zx zb d_M_checkpoint_11 (by decide) ?_
        refine wn_cge_T (tgt := 32) zx zb d_M_checkpoint_13 (by decide) (by omega) (by omega) (by omega) ?_
        have zP : va_P g.1 cls (wM g m0 m1 m2 m3 m4 m5 m6 m7 m8 m9 m10 n n k o ke va (ffS n fl 0 8) sg cp fs la nx hd dn tg bh) HX := zP
        have zD : va_D AX (wM g m0 m1 m2 m3 m4 m5 m6 m7 m8 m9 m10 n n k o ke va (ffS n fl 0 8) sg cp fs la nx hd dn tg bh) := zD
        refine lv_aload_n zx zb d_M_checkpoint_32 rfl (lv_at zl 0 rfl) ?_
        refine wv_get zx zb zg hin_M rfl zo zK zP 0 rfl 0 (by decide) rfl fl_M_41 rfl d_M_checkpoint_33 ?_
        refine lv_istore_n (lv' := [(1, .int (nI n)), (0, .ref m0)]) zx zb d_M_checkpoint_36 rfl zl (by decide) rfl (fun lsX zl => ?_)
        refine lv_iconst (v := (nI 0)) zx zb d_M_checkpoint_37 (by decide) ?_
        refine lv_istore_n (lv' := [(2, .int (nI 0)), (1, .int (nI n)), (0, .ref m0)]) zx zb d_M_checkpoint_38 rfl zl (by decide) rfl (fun lsX zl => ?_)
        have loop39 : ∀ (kk : Nat) (t : Nat) (b : Nat), kk = 3 - t → (t ≤ 3) → (b ≤ n) → (ckS k o n t (3 - t) b = ckS k o n 0 3 n) → ∀ (lsX : Array Slot) (HX : Heap) (oX : List Loc), lv_has lsX 4 [(0, .ref m0), (1, .int (nI b)), (2, .int (nI t))] → va_P g.1 cls (wM g m0 m1 m2 m3 m4 m5 m6 m7 m8 m9 m10 n n k o ke va (ffS n fl 0 8) sg cp fs la nx hd dn tg bh) HX → va_D AX (wM g m0 m1 m2 m3 m4 m5 m6 m7 m8 m9 m10 n n k o ke va (ffS n fl 0 8) sg cp fs la nx hd dn tg bh) → va_S AX sX.heap HX oX → W pX lL eX (rmL 5 150) sX mX aX bX tX cX HX oX 0 0 QX (F0 mX 39 lsX []) := by
          intro kk
          induction kk using Nat.strongRecOn with
          | ind kk ih_loop39 =>
            intro t b hkk ht hb1 hi2 lsX HX oX zl zP zD zS
            rcases Nat.lt_or_ge t 3 with h4 | h4
            · have e4 : 3 - t = (3 - (t + 1)) + 1 := by omega
              rw [e4] at hi2
              have hi2 : ckS k o n (t + 1) (3 - (t + 1)) (match opO k o (nI t) n none with | some j => if j < b then j else b | none => b) = ckS k o n 0 3 n := hi2
              refine lv_iload_n zx zb d_M_checkpoint_39 rfl (lv_at zl 2 rfl) ?_
              refine lv_iconst (v := (nI 3)) zx zb d_M_checkpoint_40 (by decide) ?_
              refine wn_cge_F (tgt := 75) zx zb d_M_checkpoint_41 (by decide) (by omega) (by omega) (by omega) ?_
              rcases hop : opO k o (nI t) n none with _ | j
              · rw [hop] at hi2
                have hi2 : ckS k o n (t + 1) (3 - (t + 1)) b = ckS k o n 0 3 n := hi2
                refine lv_aload_n zx zb d_M_checkpoint_44 rfl (lv_at zl 0 rfl) ?_
                refine lv_iload_n zx zb d_M_checkpoint_45 rfl (lv_at zl 2 rfl) ?_
                refine lv_aload_n zx zb d_M_checkpoint_46 rfl (lv_at zl 0 rfl) ?_
                refine wv_get zx zb zg hin_M rfl zo zK zP 0 rfl 0 (by decide) rfl fl_M_41 rfl d_M_checkpoint_47 ?_
                refine ct_V (ws' := wM g m0 m1 m2 m3 m4 m5 m6 m7 m8 m9 m10 n n k o ke va (ffS n fl 0 8) sg cp fs la nx hd dn tg bh) (rest := []) (st1 := [.int (-1)]) zx zb zm zo zg zK zP zD zS zA zl.1 (c_M_opened_n lL g m0 m1 m2 m3 m4 m5 m6 m7 m8 m9 m10 n n k o ke va (ffS n fl 0 8) sg cp fs la nx hd dn tg bh (nI t) n (by omega) hk4 hop) ok_M_opened ov_M_opened ml_M_65 (by decide) 0 7 rfl rfl rfl [0, 1, 2, 3, 4, 5, 6, 7, 8, 9, 10] [] 11 (by decide) rfl rfl rfl rfl (by decide) rfl rfl rfl (Nat.le_of_ble_eq_true rfl) d_M_checkpoint_50 (fun HX oX zP zD zS => ?_)
                refine lv_istore_n (lv' := [(3, .int (-1)), (0, .ref m0), (1, .int (nI b)), (2, .int (nI t))]) zx zb d_M_checkpoint_53 rfl zl (by decide) rfl (fun lsX zl => ?_)
                refine lv_iload_n zx zb d_M_checkpoint_54 rfl (lv_at zl 0 rfl) ?_
                refine lv_if_lt (tgt := 67) zx zb d_M_checkpoint_55 (by decide) (fun _ => ?_) (fun h => absurd h (fun h => h (by decide)))
                refine lv_iload_n zx zb d_M_checkpoint_67 rfl (lv_at zl 2 rfl) ?_
                refine lv_istore_n (lv' := [(1, .int (nI b)), (3, .int (-1)), (0, .ref m0), (2, .int (nI t))]) zx zb d_M_checkpoint_68 rfl zl (by decide) rfl (fun lsX zl => ?_)
                refine lv_iinc (k := 3) (lv' := [(2, .int (nI (t + 1))), (1, .int (nI b)), (3, .int (-1)), (0, .ref m0)]) zx zb d_M_checkpoint_69 zl rfl (ni_inc _) (by decide) rfl (fun lsX zl => ?_)
                refine lv_goto (tgt := 39) zx zb d_M_checkpoint_72 (by decide) ?_
                exact ih_loop39 _ (by omega) (t + 1) b rfl (by omega) (by omega) hi2 lsX HX oX (lv_sub zl [3, 1, 0] rfl) zP zD zS
              · rw [hop] at hi2
                have hi2 : ckS k o n (t + 1) (3 - (t + 1)) (if j < b then j else b) = ckS k o n 0 3 n := hi2
                have hjn : j < n := (opO_lt hop).elim id (fun h => by cases h)
                refine lv_aload_n zx zb d_M_checkpoint_44 rfl (lv_at zl 0 rfl) ?_
                rcases Nat.lt_or_ge j b with hjb | hjb
                · rw [if_pos hjb] at hi2
                  refine lv_iload_n zx zb d_M_checkpoint_45 rfl (lv_at zl 2 rfl) ?_
                  refine lv_aload_n zx zb d_M_checkpoint_46 rfl (lv_at zl 0 rfl) ?_
                  refine wv_get zx zb zg hin_M rfl zo zK zP 0 rfl 0 (by decide) rfl fl_M_41 rfl d_M_checkpoint_47 ?_
                  refine ct_V (ws' := wM g m0 m1 m2 m3 m4 m5 m6 m7 m8 m9 m10 n n k o ke va (ffS n fl 0 8) sg cp fs la nx hd dn tg bh) (rest := []) (st1 := [.int (nI j)]) zx zb zm zo zg zK zP zD zS zA zl.1 (c_M_opened_s lL g m0 m1 m2 m3 m4 m5 m6 m7 m8 m9 m10 n n k o ke va (ffS n fl 0 8) sg cp fs la nx hd dn tg bh (nI t) n j (by omega) hk4 hop) ok_M_opened ov_M_opened ml_M_65 (by decide) 0 7 rfl rfl rfl [0, 1, 2, 3, 4, 5, 6, 7, 8, 9, 10] [] 11 (by decide) rfl rfl rfl rfl (by decide) rfl rfl rfl (Nat.le_of_ble_eq_true rfl) d_M_checkpoint_50 (fun HX oX zP zD zS => ?_)
                  refine lv_istore_n (lv' := [(3, .int (nI j)), (0, .ref m0), (1, .int (nI b)), (2, .int (nI t))]) zx zb d_M_checkpoint_53 rfl zl (by decide) rfl (fun lsX zl => ?_)
                  refine lv_iload_n zx zb d_M_checkpoint_54 rfl (lv_at zl 0 rfl) ?_
                  refine wn_ilt_F (tgt := 67) zx zb d_M_checkpoint_55 (by decide) (by omega) (trivial) ?_
                  refine lv_iload_n zx zb d_M_checkpoint_58 rfl (lv_at zl 0 rfl) ?_
                  refine lv_iload_n zx zb d_M_checkpoint_59 rfl (lv_at zl 2 rfl) ?_
                  refine wn_cge_F (tgt := 67) zx zb d_M_checkpoint_60 (by decide) (by omega) (by omega) (by omega) ?_
                  refine lv_iload_n zx zb d_M_checkpoint_63 rfl (lv_at zl 0 rfl) ?_
                  refine lv_goto (tgt := 68) zx zb d_M_checkpoint_64 (by decide) ?_
                  refine lv_istore_n (lv' := [(1, .int (nI j)), (3, .int (nI j)), (0, .ref m0), (2, .int (nI t))]) zx zb d_M_checkpoint_68 rfl zl (by decide) rfl (fun lsX zl => ?_)
                  refine lv_iinc (k := 3) (lv' := [(2, .int (nI (t + 1))), (1, .int (nI j)), (3, .int (nI j)), (0, .ref m0)]) zx zb d_M_checkpoint_69 zl rfl (ni_inc _) (by decide) rfl (fun lsX zl => ?_)
                  refine lv_goto (tgt := 39) zx zb d_M_checkpoint_72 (by decide) ?_
                  exact ih_loop39 _ (by omega) (t + 1) j rfl (by omega) (by omega) hi2 lsX HX oX (lv_sub zl [3, 1, 0] rfl) zP zD zS
                · rw [if_neg (by omega)] at hi2
                  refine lv_iload_n zx zb d_M_checkpoint_45 rfl (lv_at zl 2 rfl) ?_
                  refine lv_aload_n zx zb d_M_checkpoint_46 rfl (lv_at zl 0 rfl) ?_
                  refine wv_get zx zb zg hin_M rfl zo zK zP 0 rfl 0 (by decide) rfl fl_M_41 rfl d_M_checkpoint_47 ?_
                  refine ct_V (ws' := wM g m0 m1 m2 m3 m4 m5 m6 m7 m8 m9 m10 n n k o ke va (ffS n fl 0 8) sg cp fs la nx hd dn tg bh) (rest := []) (st1 := [.int (nI j)]) zx zb zm zo zg zK zP zD zS zA zl.1 (c_M_opened_s lL g m0 m1 m2 m3 m4 m5 m6 m7 m8 m9 m10 n n k o ke va (ffS n fl 0 8) sg cp fs la nx hd dn tg bh (nI t) n j (by omega) hk4 hop) ok_M_opened ov_M_opened ml_M_65 (by decide) 0 7 rfl rfl rfl [0, 1, 2, 3, 4, 5, 6, 7, 8, 9, 10] [] 11 (by decide) rfl rfl rfl rfl (by decide) rfl rfl rfl (Nat.le_of_ble_eq_true rfl) d_M_checkpoint_50 (fun HX oX zP zD zS => ?_)
                  refine lv_istore_n (lv' := [(3, .int (nI j)), (0, .ref m0), (1, .int (nI b)), (2, .int (nI t))]) zx zb d_M_checkpoint_53 rfl zl (by decide) rfl (fun lsX zl => ?_)
                  refine lv_iload_n zx zb d_M_checkpoint_54 rfl (lv_at zl 0 rfl) ?_
                  refine wn_ilt_F (tgt := 67) zx zb d_M_checkpoint_55 (by decide) (by omega) (trivial) ?_
                  refine lv_iload_n zx zb d_M_checkpoint_58 rfl (lv_at zl 0 rfl) ?_
                  refine lv_iload_n zx zb d_M_checkpoint_59 rfl (lv_at zl 2 rfl) ?_
                  refine wn_cge_T (tgt := 67) zx zb d_M_checkpoint_60 (by decide) (by omega) (by omega) (by omega) ?_
                  refine lv_iload_n zx zb d_M_checkpoint_67 rfl (lv_at zl 2 rfl) ?_
                  refine lv_istore_n (lv' := [(1, .int (nI b)), (3, .int (nI j)), (0, .ref m0), (2, .int (nI t))]) zx zb d_M_checkpoint_68 rfl zl (by decide) rfl (fun lsX zl => ?_)
                  refine lv_iinc (k := 3) (lv' := [(2, .int (nI (t + 1))), (1, .int (nI b)), (3, .int (nI j)), (0, .ref m0)]) zx zb d_M_checkpoint_69 zl rfl (ni_inc _) (by decide) rfl (fun lsX zl => ?_)
                  refine lv_goto (tgt := 39) zx zb d_M_checkpoint_72 (by decide) ?_
                  exact ih_loop39 _ (by omega) (t + 1) b rfl (by omega) (by omega) hi2 lsX HX oX (lv_sub zl [3, 1, 0] rfl) zP zD zS
            · have e4 : t = 3 := by omega
              subst e4
              have hi2 : b = ckS k o n 0 3 n := hi2
              refine lv_iload_n zx zb d_M_checkpoint_39 rfl (lv_at zl 2 rfl) ?_
              refine lv_iconst (v := (nI 3)) zx zb d_M_checkpoint_40 (by decide) ?_
              refine wn_cge_T (tgt := 75) zx zb d_M_checkpoint_41 (by decide) (by omega) (by omega) (by omega) ?_
              refine lv_iload_n zx zb d_M_checkpoint_75 rfl (lv_at zl 1 rfl) ?_
              exact ct_iret zQ zx zb zr zk zP zD zS d_M_checkpoint_76 rfl (⟨by rw [hi2], rfl⟩)
        exact loop39 _ 0 n rfl (by omega) (Nat.le_refl _) rfl lsX HX oX (lv_sub zl [2, 1, 0] rfl) zP zD zS
  exact loop10 _ 0 fl rfl (by omega) rfl lsX HX oX (lv_sub zl [1, 0] rfl) zP zD zS
set_option maxRecDepth 20000 in
theorem c_M_crash (lL : Launch) (g : Gt) (m0 : Nat) (m1 : Nat) (m2 : Nat) (m3 : Nat) (m4 : Nat) (m5 : Nat) (m6 : Nat) (m7 : Nat) (m8 : Nat) (m9 : Nat) (m10 : Nat) (n : Nat) (sy : Nat) (k : Nat → Nat) (o : Nat → Int32) (ke : Nat → Nat) (va : Nat → Int32) (fl : Nat → Nat) (sg : Nat → Nat) (cp : Nat → Nat) (fs : Nat → Nat) (la : Nat → Nat) (nx : Nat) (hd : Nat → Nat) (dn : Nat) (tg : Nat) (bh : Nat) (hs : sy ≤ n) (hs5 : sy < 520) (hfl : ∀ j, j < 8 → fl j ≤ 520) (hsg : ∀ j, j < 3 → sg j ≤ 2) : Ct lL g y_M_crash (.code y_M_crash b_M_crash 3 (some .int)) 6 200 [.ref m0] (wM g m0 m1 m2 m3 m4 m5 m6 m7 m8 m9 m10 n sy k o ke va fl sg cp fs la nx hd dn tg bh) (exP (some (.int (nI (n - sy)))) (wM g m0 m1 m2 m3 m4 m5 m6 m7 m8 m9 m10 (sy + 1) (sy + 1) (va_up k sy 3) (upd o sy (-1)) (va_up ke sy 0) (upd va sy (nI 0)) (crS sy fl 0 8) (sgS sg 0 3) cp fs la nx hd dn tg bh)) := by
  refine Ct.ofW (by decide) (Nat.le_of_ble_eq_true rfl) ?_
  intro pX eX sX mX aX bX tX cX AX lsX HX oX QX zx zb zr zk zm zo zg zK zP zD zA zS zQ zl
  have zo : sX.vm.findClass R_M = some mX.cls := zo
  have zl : lv_has lsX 3 [(0, .ref m0)] := zl
  refine lv_aload_n zx zb d_M_crash_0 rfl (lv_at zl 0 rfl) ?_
  refine wv_get zx zb zg hin_M rfl zo zK zP 0 rfl 0 (by decide) rfl fl_M_41 rfl d_M_crash_1 ?_
  refine lv_aload_n zx zb d_M_crash_4 rfl (lv_at zl 0 rfl) ?_
  refine wv_get zx zb zg hin_M rfl zo zK zP 0 rfl 1 (by decide) rfl fl_M_74 rfl d_M_crash_5 ?_
  refine wv_isub zx zb d_M_crash_8 (pk_sub (by omega)) ?_
  refine lv_istore_n (lv' := [(1, .int (nI (n - sy))), (0, .ref m0)]) zx zb d_M_crash_9 rfl zl (by decide) rfl (fun lsX zl => ?_)
  refine lv_aload_n zx zb d_M_crash_10 rfl (lv_at zl 1 rfl) ?_
  refine lv_aload_n zx zb d_M_crash_11 rfl (lv_at zl 1 rfl) ?_
  refine wv_get zx zb zg hin_M rfl zo zK zP 0 rfl 1 (by decide) rfl fl_M_74 rfl d_M_crash_12 ?_
  refine wv_put zx zb zg hin_M rfl t_M t_M_ok n_M zo zK zP zD zS 0 rfl 0 (by decide) rfl fl_M_41 rfl rfl rfl (Nat.le_of_ble_eq_true rfl) d_M_crash_15 (fun HX oX zP zD zS => ?_)
  have zP : va_P g.1 cls (wM g m0 m1 m2 m3 m4 m5 m6 m7 m8 m9 m10 sy sy k o ke va fl sg cp fs la nx hd dn tg bh) HX := zP
  have zD : va_D AX (wM g m0 m1 m2 m3 m4 m5 m6 m7 m8 m9 m10 sy sy k o ke va fl sg cp fs la nx hd dn tg bh) := zD
  refine lv_iconst (v := (nI 0)) zx zb d_M_crash_18 (by decide) ?_
  refine lv_istore_n (lv' := [(2, .int (nI 0)), (1, .int (nI (n - sy))), (0, .ref m0)]) zx zb d_M_crash_19 rfl zl (by decide) rfl (fun lsX zl => ?_)
  have loop20 : ∀ (kk : Nat) (q : Nat) (flq : Nat → Nat), kk = 8 - q → (q ≤ 8) → (∀ j, j < 8 → flq j ≤ 520) → (crS sy flq q (8 - q) = crS sy fl 0 8) → ∀ (lsX : Array Slot) (HX : Heap) (oX : List Loc), lv_has lsX 3 [(0, .ref m0), (1, .int (nI (n - sy))), (2, .int (nI q))] → va_P g.1 cls (wM g m0 m1 m2 m3 m4 m5 m6 m7 m8 m9 m10 sy sy k o ke va flq sg cp fs la nx hd dn tg bh) HX → va_D AX (wM g m0 m1 m2 m3 m4 m5 m6 m7 m8 m9 m10 sy sy k o ke va flq sg cp fs la nx hd dn tg bh) → va_S AX sX.heap HX oX → W pX lL eX (rmL 6 200) sX mX aX bX tX cX HX oX 0 0 QX (F0 mX 20 lsX []) := by
    intro kk
    induction kk using Nat.strongRecOn with
    | ind kk ih_loop20 =>
      intro q flq hkk hq hfq hi lsX HX oX zl zP zD zS
      rcases Nat.lt_or_ge q 8 with h3 | h3
      · have hfqq := hfq q h3
        have e3 : 8 - q = (8 - (q + 1)) + 1 := by omega
        rw [e3] at hi
        have hi : crS sy (va_up flq q (if flq q < sy then flq q else sy)) (q + 1) (8 - (q + 1)) = crS sy fl 0 8 := hi
        refine lv_iload_n zx zb d_M_crash_20 rfl (lv_at zl 2 rfl) ?_
        refine lv_bipush (v := (nI 8)) zx zb d_M_crash_21 (by decide) ?_
        refine wn_cge_F (tgt := 64) zx zb d_M_crash_23 (by decide) (by omega) (by omega) (by omega) ?_
        rcases Nat.lt_or_ge (flq q) sy with hz | hz
        · rw [if_pos hz] at hi
          have hfq2 : ∀ j, j < 8 → va_up flq q (flq q) j ≤ 520 := up_le hfqq hfq
          refine lv_aload_n zx zb d_M_crash_26 rfl (lv_at zl 0 rfl) ?_
          refine wv_get zx zb zg hin_M rfl zo zK zP 0 rfl 6 (by decide) rfl fl_M_22 rfl d_M_crash_27 ?_
          refine lv_iload_n zx zb d_M_crash_30 rfl (lv_at zl 2 rfl) ?_
          refine lv_aload_n zx zb d_M_crash_31 rfl (lv_at zl 0 rfl) ?_
          refine wv_get zx zb zg hin_M rfl zo zK zP 0 rfl 6 (by decide) rfl fl_M_22 rfl d_M_crash_32 ?_
          refine lv_iload_n zx zb d_M_crash_35 rfl (lv_at zl 2 rfl) ?_
          refine wv_ialdN zx zb zK zP 5 rfl (by omega) (by decide) d_M_crash_36 ?_
          refine lv_aload_n zx zb d_M_crash_37 rfl (lv_at zl 0 rfl) ?_
          refine wv_get zx zb zg hin_M rfl zo zK zP 0 rfl 0 (by decide) rfl fl_M_41 rfl d_M_crash_38 ?_
          refine wn_cge_F (tgt := 53) zx zb d_M_crash_41 (by decide) (by omega) (by omega) (by omega) ?_
          refine lv_aload_n zx zb d_M_crash_44 rfl (lv_at zl 0 rfl) ?_
          refine wv_get zx zb zg hin_M rfl zo zK zP 0 rfl 6 (by decide) rfl fl_M_22 rfl d_M_crash_45 ?_
          refine lv_iload_n zx zb d_M_crash_48 rfl (lv_at zl 2 rfl) ?_
          refine wv_ialdN zx zb zK zP 5 rfl (by omega) (by decide) d_M_crash_49 ?_
          refine lv_goto (tgt := 57) zx zb d_M_crash_50 (by decide) ?_
          refine wv_iastN zx zb zK zP zD zS 5 rfl (by omega) (by decide) d_M_crash_57 (fun HX oX zP zD zS => ?_)
          have zP : va_P g.1 cls (wM g m0 m1 m2 m3 m4 m5 m6 m7 m8 m9 m10 sy sy k o ke va (va_up flq q (flq q)) sg cp fs la nx hd dn tg bh) HX := zP
          have zD : va_D AX (wM g m0 m1 m2 m3 m4 m5 m6 m7 m8 m9 m10 sy sy k o ke va (va_up flq q (flq q)) sg cp fs la nx hd dn tg bh) := zD
          refine lv_iinc (k := 2) (lv' := [(2, .int (nI (q + 1))), (0, .ref m0), (1, .int (nI (n - sy)))]) zx zb d_M_crash_58 zl rfl (ni_inc _) (by decide) rfl (fun lsX zl => ?_)
          refine lv_goto (tgt := 20) zx zb d_M_crash_61 (by decide) ?_
          exact ih_loop20 _ (by omega) (q + 1) (va_up flq q (flq q)) rfl (by omega) hfq2 hi lsX HX oX (lv_sub zl [1, 2, 0] rfl) zP zD zS
        · rw [if_neg (by omega)] at hi
          have hfq2 : ∀ j, j < 8 → va_up flq q sy j ≤ 520 := up_le (by omega) hfq
          refine lv_aload_n zx zb d_M_crash_26 rfl (lv_at zl 0 rfl) ?_
          refine wv_get zx zb zg hin_M rfl zo zK zP 0 rfl 6 (by decide) rfl fl_M_22 rfl d_M_crash_27 ?_
          refine lv_iload_n zx zb d_M_crash_30 rfl (lv_at zl 2 rfl) ?_
          refine lv_aload_n zx zb d_M_crash_31 rfl (lv_at zl 0 rfl) ?_
          refine wv_get zx zb zg hin_M rfl zo zK zP 0 rfl 6 (by decide) rfl fl_M_22 rfl d_M_crash_32 ?_
          refine lv_iload_n zx zb d_M_crash_35 rfl (lv_at zl 2 rfl) ?_
          refine wv_ialdN zx zb zK zP 5 rfl (by omega) (by decide) d_M_crash_36 ?_
          refine lv_aload_n zx zb d_M_crash_37 rfl (lv_at zl 0 rfl) ?_
          refine wv_get zx zb zg hin_M rfl zo zK zP 0 rfl 0 (by decide) rfl fl_M_41 rfl d_M_crash_38 ?_
          refine wn_cge_T (tgt := 53) zx zb d_M_crash_41 (by decide) (by omega) (by omega) (by omega) ?_
          refine lv_aload_n zx zb d_M_crash_53 rfl (lv_at zl 0 rfl) ?_
          refine wv_get zx zb zg hin_M rfl zo zK zP 0 rfl 0 (by decide) rfl fl_M_41 rfl d_M_crash_54 ?_
          refine wv_iastN zx zb zK zP zD zS 5 rfl (by omega) (by decide) d_M_crash_57 (fun HX oX zP zD zS => ?_)
          have zP : va_P g.1 cls (wM g m0 m1 m2 m3 m4 m5 m6 m7 m8 m9 m10 sy sy k o ke va (va_up flq q sy) sg cp fs la nx hd dn tg bh) HX := zP
          have zD : va_D AX (wM g m0 m1 m2 m3 m4 m5 m6 m7 m8 m9 m10 sy sy k o ke va (va_up flq q sy) sg cp fs la nx hd dn tg bh) := zD
          refine lv_iinc (k := 2) (lv' := [(2, .int (nI (q + 1))), (0, .ref m0), (1, .int (nI (n - sy)))]) zx zb d_M_crash_58 zl rfl (ni_inc _) (by decide) rfl (fun lsX zl => ?_)
          refine lv_goto (tgt := 20) zx zb d_M_crash_61 (by decide) ?_
          exact ih_loop20 _ (by omega) (q + 1) (va_up flq q sy) rfl (by omega) hfq2 hi lsX HX oX (lv_sub zl [1, 2, 0] rfl) zP zD zS
      · have e3 : q = 8 := by omega
        subst e3
        have hi : flq = crS sy fl 0 8 := hi
        rw [hi] at zP zD
        refine lv_iload_n zx zb d_M_crash_20 rfl (lv_at zl 2 rfl) ?_
        refine lv_bipush (v := (nI 8)) zx zb d_M_crash_21 (by decide) ?_
        refine wn_cge_T (tgt := 64) zx zb d_M_crash_23 (by decide) (by omega) (by omega) (by omega) ?_
        have zP : va_P g.1 cls (wM g m0 m1 m2 m3 m4 m5 m6 m7 m8 m9 m10 sy sy k o ke va (crS sy fl 0 8) sg cp fs la nx hd dn tg bh) HX := zP
        have zD : va_D AX (wM g m0 m1 m2 m3 m4 m5 m6 m7 m8 m9 m10 sy sy k o ke va (crS sy fl 0 8) sg cp fs la nx hd dn tg bh) := zD
        refine lv_iconst (v := (nI 0)) zx zb d_M_crash_64 (by decide) ?_
        refine lv_istore_n (lv' := [(2, .int (nI 0)), (0, .ref m0), (1, .int (nI (n - sy)))]) zx zb d_M_crash_65 rfl zl (by decide) rfl (fun lsX zl => ?_)
        have loop66 : ∀ (kk : Nat) (q : Nat) (sgq : Nat → Nat), kk = 3 - q → (q ≤ 3) → (∀ j, j < 3 → sgq j ≤ 2) → (sgS sgq q (3 - q) = sgS sg 0 3) → ∀ (lsX : Array Slot) (HX : Heap) (oX : List Loc), lv_has lsX 3 [(0, .ref m0), (1, .int (nI (n - sy))), (2, .int (nI q))] → va_P g.1 cls (wM g m0 m1 m2 m3 m4 m5 m6 m7 m8 m9 m10 sy sy k o ke va (crS sy fl 0 8) sgq cp fs la nx hd dn tg bh) HX → va_D AX (wM g m0 m1 m2 m3 m4 m5 m6 m7 m8 m9 m10 sy sy k o ke va (crS sy fl 0 8) sgq cp fs la nx hd dn tg bh) → va_S AX sX.heap HX oX → W pX lL eX (rmL 6 200) sX mX aX bX tX cX HX oX 0 0 QX (F0 mX 66 lsX []) := by
          intro kk
          induction kk using Nat.strongRecOn with
          | ind kk ih_loop66 =>
            intro q sgq hkk hq hsq hi2 lsX HX oX zl zP zD zS
            rcases Nat.lt_or_ge q 3 with h4 | h4
            · have hsqq := hsq q h4
              have e4 : 3 - q = (3 - (q + 1)) + 1 := by omega
              rw [e4] at hi2
              have hi2 : sgS (va_up sgq q (if sgq q = 1 then 0 else sgq q)) (q + 1) (3 - (q + 1)) = sgS sg 0 3 := hi2
              refine lv_iload_n zx zb d_M_crash_66 rfl (lv_at zl 2 rfl) ?_
              refine lv_iconst (v := (nI 3)) zx zb d_M_crash_67 (by decide) ?_
              refine wn_cge_F (tgt := 103) zx zb d_M_crash_68 (by decide) (by omega) (by omega) (by omega) ?_
              by_cases hz : sgq q = 1
              · rw [if_pos hz] at hi2
                have hsq2 : ∀ j, j < 3 → va_up sgq q 0 j ≤ 2 := up_le (by omega) hsq
                refine lv_aload_n zx zb d_M_crash_71 rfl (lv_at zl 0 rfl) ?_
                refine wv_get zx zb zg hin_M rfl zo zK zP 0 rfl 7 (by decide) rfl fl_M_25 rfl d_M_crash_72 ?_
                refine lv_iload_n zx zb d_M_crash_75 rfl (lv_at zl 2 rfl) ?_
                refine lv_aload_n zx zb d_M_crash_76 rfl (lv_at zl 0 rfl) ?_
                refine wv_get zx zb zg hin_M rfl zo zK zP 0 rfl 7 (by decide) rfl fl_M_25 rfl d_M_crash_77 ?_
                refine lv_iload_n zx zb d_M_crash_80 rfl (lv_at zl 2 rfl) ?_
                refine wv_ialdN zx zb zK zP 6 rfl (by omega) (by decide) d_M_crash_81 ?_
                refine lv_iconst (v := (nI 1)) zx zb d_M_crash_82 (by decide) ?_
                refine wn_cne_F (tgt := 90) zx zb d_M_crash_83 (by decide) (by omega) (by omega) (by omega) ?_
                refine lv_iconst (v := (nI 0)) zx zb d_M_crash_86 (by decide) ?_
                refine lv_goto (tgt := 96) zx zb d_M_crash_87 (by decide) ?_
                refine wv_iastN zx zb zK zP zD zS 6 rfl (by omega) (by decide) d_M_crash_96 (fun HX oX zP zD zS => ?_)
                have zP : va_P g.1 cls (wM g m0 m1 m2 m3 m4 m5 m6 m7 m8 m9 m10 sy sy k o ke va (crS sy fl 0 8) (va_up sgq q 0) cp fs la nx hd dn tg bh) HX := zP
                have zD : va_D AX (wM g m0 m1 m2 m3 m4 m5 m6 m7 m8 m9 m10 sy sy k o ke va (crS sy fl 0 8) (va_up sgq q 0) cp fs la nx hd dn tg bh) := zD
                refine lv_iinc (k := 2) (lv' := [(2, .int (nI (q + 1))), (0, .ref m0), (1, .int (nI (n - sy)))]) zx zb d_M_crash_97 zl rfl (ni_inc _) (by decide) rfl (fun lsX zl => ?_)
                refine lv_goto (tgt := 66) zx zb d_M_crash_100 (by decide) ?_
                exact ih_loop66 _ (by omega) (q + 1) (va_up sgq q 0) rfl (by omega) hsq2 hi2 lsX HX oX (lv_sub zl [1, 2, 0] rfl) zP zD zS
              · rw [if_neg hz] at hi2
                have hsq2 : ∀ j, j < 3 → va_up sgq q (sgq q) j ≤ 2 := up_le hsqq hsq
                refine lv_aload_n zx zb d_M_crash_71 rfl (lv_at zl 0 rfl) ?_
                refine wv_get zx zb zg hin_M rfl zo zK zP 0 rfl 7 (by decide) rfl fl_M_25 rfl d_M_crash_72 ?_
                refine lv_iload_n zx zb d_M_crash_75 rfl (lv_at zl 2 rfl) ?_
                refine lv_aload_n zx zb d_M_crash_76 rfl (lv_at zl 0 rfl) ?_
                refine wv_get zx zb zg hin_M rfl zo zK zP 0 rfl 7 (by decide) rfl fl_M_25 rfl d_M_crash_77 ?_
                refine lv_iload_n zx zb d_M_crash_80 rfl (lv_at zl 2 rfl) ?_
                refine wv_ialdN zx zb zK zP 6 rfl (by omega) (by decide) d_M_crash_81 ?_
                refine lv_iconst (v := (nI 1)) zx zb d_M_crash_82 (by decide) ?_
                refine wn_cne_T (tgt := 90) zx zb d_M_crash_83 (by decide) (by omega) (by omega) (by omega) ?_
                refine lv_aload_n zx zb d_M_crash_90 rfl (lv_at zl 0 rfl) ?_
                refine wv_get zx zb zg hin_M rfl zo zK zP 0 rfl 7 (by decide) rfl fl_M_25 rfl d_M_crash_91 ?_
                refine lv_iload_n zx zb d_M_crash_94 rfl (lv_at zl 2 rfl) ?_
                refine wv_ialdN zx zb zK zP 6 rfl (by omega) (by decide) d_M_crash_95 ?_
                refine wv_iastN zx zb zK zP zD zS 6 rfl (by omega) (by decide) d_M_crash_96 (fun HX oX zP zD zS => ?_)
                have zP : va_P g.1 cls (wM g m0 m1 m2 m3 m4 m5 m6 m7 m8 m9 m10 sy sy k o ke va (crS sy fl 0 8) (va_up sgq q (sgq q)) cp fs la nx hd dn tg bh) HX := zP
                have zD : va_D AX (wM g m0 m1 m2 m3 m4 m5 m6 m7 m8 m9 m10 sy sy k o ke va (crS sy fl 0 8) (va_up sgq q (sgq q)) cp fs la nx hd dn tg bh) := zD
                refine lv_iinc (k := 2) (lv' := [(2, .int (nI (q + 1))), (0, .ref m0), (1, .int (nI (n - sy)))]) zx zb d_M_crash_97 zl rfl (ni_inc _) (by decide) rfl (fun lsX zl => ?_)
                refine lv_goto (tgt := 66) zx zb d_M_crash_100 (by decide) ?_
                exact ih_loop66 _ (by omega) (q + 1) (va_up sgq q (sgq q)) rfl (by omega) hsq2 hi2 lsX HX oX (lv_sub zl [1, 2, 0] rfl) zP zD zS
            · have e4 : q = 3 := by omega
              subst e4
              have hi2 : sgq = sgS sg 0 3 := hi2
              rw [hi2] at zP zD
              refine lv_iload_n zx zb d_M_crash_66 rfl (lv_at zl 2 rfl) ?_
              refine lv_iconst (v := (nI 3)) zx zb d_M_crash_67 (by decide) ?_
              refine wn_cge_T (tgt := 103) zx zb d_M_crash_68 (by decide) (by omega) (by omega) (by omega) ?_
              have zP : va_P g.1 cls (wM g m0 m1 m2 m3 m4 m5 m6 m7 m8 m9 m10 sy sy k o ke va (crS sy fl 0 8) (sgS sg 0 3) cp fs la nx hd dn tg bh) HX := zP
              have zD : va_D AX (wM g m0 m1 m2 m3 m4 m5 m6 m7 m8 m9 m10 sy sy k o ke va (crS sy fl 0 8) (sgS sg 0 3) cp fs la nx hd dn tg bh) := zD
              refine lv_aload_n zx zb d_M_crash_103 rfl (lv_at zl 0 rfl) ?_
              refine lv_aload_n zx zb d_M_crash_104 rfl (lv_at zl 0 rfl) ?_
              refine lv_iconst (v := (nI 3)) zx zb d_M_crash_105 (by decide) ?_
              refine lv_iconst (v := (-1)) zx zb d_M_crash_106 (by decide) ?_
              refine lv_iconst (v := (nI 0)) zx zb d_M_crash_107 (by decide) ?_
              refine lv_iconst (v := (nI 0)) zx zb d_M_crash_108 (by decide) ?_
              refine ct_V (ws' := wM g m0 m1 m2 m3 m4 m5 m6 m7 m8 m9 m10 (sy + 1) sy (va_up k sy 3) (upd o sy (-1)) (va_up ke sy 0) (upd va sy (nI 0)) (crS sy fl 0 8) (sgS sg 0 3) cp fs la nx hd dn tg bh) (rest := [.ref m0]) (st1 := [.int (nI (sy + 1)), .ref m0]) zx zb zm zo zg zK zP zD zS zA zl.1 (c_M_add lL g m0 m1 m2 m3 m4 m5 m6 m7 m8 m9 m10 sy sy k o ke va (crS sy fl 0 8) (sgS sg 0 3) cp fs la nx hd dn tg bh 3 (-1) 0 (nI 0) (by omega)) ok_M_add ov_M_add ml_M_61 (by decide) 0 7 rfl rfl rfl [0, 1, 2, 3, 4, 5, 6, 7, 8, 9, 10] [] 11 (by decide) rfl rfl rfl rfl (by decide) rfl rfl rfl (Nat.le_of_ble_eq_true rfl) d_M_crash_109 (fun HX oX zP zD zS => ?_)
              refine wv_put zx zb zg hin_M rfl t_M t_M_ok n_M zo zK zP zD zS 0 rfl 1 (by decide) rfl fl_M_74 rfl rfl rfl (Nat.le_of_ble_eq_true rfl) d_M_crash_112 (fun HX oX zP zD zS => ?_)
              have zP : va_P g.1 cls (wM g m0 m1 m2 m3 m4 m5 m6 m7 m8 m9 m10 (sy + 1) (sy + 1) (va_up k sy 3) (upd o sy (-1)) (va_up ke sy 0) (upd va sy (nI 0)) (crS sy fl 0 8) (sgS sg 0 3) cp fs la nx hd dn tg bh) HX := zP
              have zD : va_D AX (wM g m0 m1 m2 m3 m4 m5 m6 m7 m8 m9 m10 (sy + 1) (sy + 1) (va_up k sy 3) (upd o sy (-1)) (va_up ke sy 0) (upd va sy (nI 0)) (crS sy fl 0 8) (sgS sg 0 3) cp fs la nx hd dn tg bh) := zD
              refine lv_iload_n zx zb d_M_crash_115 rfl (lv_at zl 1 rfl) ?_
              exact ct_iret zQ zx zb zr zk zP zD zS d_M_crash_116 rfl (⟨rfl, rfl⟩)
        exact loop66 _ 0 sg rfl (by omega) hsg rfl lsX HX oX (lv_sub zl [1, 2, 0] rfl) zP zD zS
  exact loop20 _ 0 fl rfl (by omega) hfl rfl lsX HX oX (lv_sub zl [2, 1, 0] rfl) zP zD zS
set_option maxRecDepth 20000 in
theorem c_M_copying_0 (lL : Launch) (g : Gt) (m0 : Nat) (m1 : Nat) (m2 : Nat) (m3 : Nat) (m4 : Nat) (m5 : Nat) (m6 : Nat) (m7 : Nat) (m8 : Nat) (m9 : Nat) (m10 : Nat) (n : Nat) (sy : Nat) (k : Nat → Nat) (o : Nat → Int32) (ke : Nat → Nat) (va : Nat → Int32) (fl : Nat → Nat) (sg : Nat → Nat) (cp : Nat → Nat) (fs : Nat → Nat) (la : Nat → Nat) (nx : Nat) (hd : Nat → Nat) (dn : Nat) (tg : Nat) (bh : Nat) (hsg : ∀ j, j < 3 → sg j ≤ 2) (h0 : sg 0 = 1) : Ct lL g y_M_copying (.code y_M_copying b_M_copying 2 (some .int)) 0 0 [.ref m0] (wM g m0 m1 m2 m3 m4 m5 m6 m7 m8 m9 m10 n sy k o ke va fl sg cp fs la nx hd dn tg bh) (exP (some (.int (nI 0))) (wM g m0 m1 m2 m3 m4 m5 m6 m7 m8 m9 m10 n sy k o ke va fl sg cp fs la nx hd dn tg bh)) := by
  refine Ct.ofW (by decide) (Nat.le_of_ble_eq_true rfl) ?_
  intro pX eX sX mX aX bX tX cX AX lsX HX oX QX zx zb zr zk zm zo zg zK zP zD zA zS zQ zl
  have zo : sX.vm.findClass R_M = some mX.cls := zo
  have zl : lv_has lsX 2 [(0, .ref m0)] := zl
  have hs0 := hsg 0 (by omega)
  have hs1 := hsg 1 (by omega)
  have hs2 := hsg 2 (by omega)
  refine lv_iconst (v := (nI 0)) zx zb d_M_copying_0 (by decide) ?_
  refine lv_istore_n (lv' := [(1, .int (nI 0)), (0, .ref m0)]) zx zb d_M_copying_1 rfl zl (by decide) rfl (fun lsX zl => ?_)
  refine lv_iload_n zx zb d_M_copying_2 rfl (lv_at zl 0 rfl) ?_
  refine lv_iconst (v := (nI 3)) zx zb d_M_copying_3 (by decide) ?_
  refine wn_cge_F (tgt := 25) zx zb d_M_copying_4 (by decide) (by omega) (by omega) (by omega) ?_
  refine lv_aload_n zx zb d_M_copying_7 rfl (lv_at zl 1 rfl) ?_
  refine wv_get zx zb zg hin_M rfl zo zK zP 0 rfl 7 (by decide) rfl fl_M_25 rfl d_M_copying_8 ?_
  refine lv_iload_n zx zb d_M_copying_11 rfl (lv_at zl 0 rfl) ?_
  refine wv_ialdN zx zb zK zP 6 rfl (by omega) (by decide) d_M_copying_12 ?_
  refine lv_iconst (v := (nI 1)) zx zb d_M_copying_13 (by decide) ?_
  refine wn_cne_F (tgt := 19) zx zb d_M_copying_14 (by decide) (by omega) (by omega) (by omega) ?_
  refine lv_iload_n zx zb d_M_copying_17 rfl (lv_at zl 0 rfl) ?_
  exact ct_iret zQ zx zb zr zk zP zD zS d_M_copying_18 rfl (⟨rfl, rfl⟩)
set_option maxRecDepth 20000 in
theorem c_M_copying_1 (lL : Launch) (g : Gt) (m0 : Nat) (m1 : Nat) (m2 : Nat) (m3 : Nat) (m4 : Nat) (m5 : Nat) (m6 : Nat) (m7 : Nat) (m8 : Nat) (m9 : Nat) (m10 : Nat) (n : Nat) (sy : Nat) (k : Nat → Nat) (o : Nat → Int32) (ke : Nat → Nat) (va : Nat → Int32) (fl : Nat → Nat) (sg : Nat → Nat) (cp : Nat → Nat) (fs : Nat → Nat) (la : Nat → Nat) (nx : Nat) (hd : Nat → Nat) (dn : Nat) (tg : Nat) (bh : Nat) (hsg : ∀ j, j < 3 → sg j ≤ 2) (h0 : sg 0 ≠ 1) (h1 : sg 1 = 1) : Ct lL g y_M_copying (.code y_M_copying b_M_copying 2 (some .int)) 0 0 [.ref m0] (wM g m0 m1 m2 m3 m4 m5 m6 m7 m8 m9 m10 n sy k o ke va fl sg cp fs la nx hd dn tg bh) (exP (some (.int (nI 1))) (wM g m0 m1 m2 m3 m4 m5 m6 m7 m8 m9 m10 n sy k o ke va fl sg cp fs la nx hd dn tg bh)) := by
  refine Ct.ofW (by decide) (Nat.le_of_ble_eq_true rfl) ?_
  intro pX eX sX mX aX bX tX cX AX lsX HX oX QX zx zb zr zk zm zo zg zK zP zD zA zS zQ zl
  have zo : sX.vm.findClass R_M = some mX.cls := zo
  have zl : lv_has lsX 2 [(0, .ref m0)] := zl
  have hs0 := hsg 0 (by omega)
  have hs1 := hsg 1 (by omega)
  have hs2 := hsg 2 (by omega)
  refine lv_iconst (v := (nI 0)) zx zb d_M_copying_0 (by decide) ?_
  refine lv_istore_n (lv' := [(1, .int (nI 0)), (0, .ref m0)]) zx zb d_M_copying_1 rfl zl (by decide) rfl (fun lsX zl => ?_)
  refine lv_iload_n zx zb d_M_copying_2 rfl (lv_at zl 0 rfl) ?_
  refine lv_iconst (v := (nI 3)) zx zb d_M_copying_3 (by decide) ?_
  refine wn_cge_F (tgt := 25) zx zb d_M_copying_4 (by decide) (by omega) (by omega) (by omega) ?_
  refine lv_aload_n zx zb d_M_copying_7 rfl (lv_at zl 1 rfl) ?_
  refine wv_get zx zb zg hin_M rfl zo zK zP 0 rfl 7 (by decide) rfl fl_M_25 rfl d_M_copying_8 ?_
  refine lv_iload_n zx zb d_M_copying_11 rfl (lv_at zl 0 rfl) ?_
  refine wv_ialdN zx zb zK zP 6 rfl (by omega) (by decide) d_M_copying_12 ?_
  refine lv_iconst (v := (nI 1)) zx zb d_M_copying_13 (by decide) ?_
  refine wn_cne_T (tgt := 19) zx zb d_M_copying_14 (by decide) (by omega) (by omega) (by omega) ?_
  refine lv_iinc (k := 0) (lv' := [(1, .int (nI 1)), (0, .ref m0)]) zx zb d_M_copying_19 zl rfl (ni_inc _) (by decide) rfl (fun lsX zl => ?_)
  refine lv_goto (tgt := 2) zx zb d_M_copying_22 (by decide) ?_
  refine lv_iload_n zx zb d_M_copying_2 rfl (lv_at zl 0 rfl) ?_
  refine lv_iconst (v := (nI 3)) zx zb d_M_copying_3 (by decide) ?_
  refine wn_cge_F (tgt := 25) zx zb d_M_copying_4 (by decide) (by omega) (by omega) (by omega) ?_
  refine lv_aload_n zx zb d_M_copying_7 rfl (lv_at zl 1 rfl) ?_
  refine wv_get zx zb zg hin_M rfl zo zK zP 0 rfl 7 (by decide) rfl fl_M_25 rfl d_M_copying_8 ?_
  refine lv_iload_n zx zb d_M_copying_11 rfl (lv_at zl 0 rfl) ?_
  refine wv_ialdN zx zb zK zP 6 rfl (by omega) (by decide) d_M_copying_12 ?_
  refine lv_iconst (v := (nI 1)) zx zb d_M_copying_13 (by decide) ?_
  refine wn_cne_F (tgt := 19) zx zb d_M_copying_14 (by decide) (by omega) (by omega) (by omega) ?_
  refine lv_iload_n zx zb d_M_copying_17 rfl (lv_at zl 0 rfl) ?_
  exact ct_iret zQ zx zb zr zk zP zD zS d_M_copying_18 rfl (⟨rfl, rfl⟩)
set_option maxRecDepth 20000 in
theorem c_M_copying_2 (lL : Launch) (g : Gt) (m0 : Nat) (m1 : Nat) (m2 : Nat) (m3 : Nat) (m4 : Nat) (m5 : Nat) (m6 : Nat) (m7 : Nat) (m8 : Nat) (m9 : Nat) (m10 : Nat) (n : Nat) (sy : Nat) (k : Nat → Nat) (o : Nat → Int32) (ke : Nat → Nat) (va : Nat → Int32) (fl : Nat → Nat) (sg : Nat → Nat) (cp : Nat → Nat) (fs : Nat → Nat) (la : Nat → Nat) (nx : Nat) (hd : Nat → Nat) (dn : Nat) (tg : Nat) (bh : Nat) (hsg : ∀ j, j < 3 → sg j ≤ 2) (h0 : sg 0 ≠ 1) (h1 : sg 1 ≠ 1) (h2 : sg 2 = 1) : Ct lL g y_M_copying (.code y_M_copying b_M_copying 2 (some .int)) 0 0 [.ref m0] (wM g m0 m1 m2 m3 m4 m5 m6 m7 m8 m9 m10 n sy k o ke va fl sg cp fs la nx hd dn tg bh) (exP (some (.int (nI 2))) (wM g m0 m1 m2 m3 m4 m5 m6 m7 m8 m9 m10 n sy k o ke va fl sg cp fs la nx hd dn tg bh)) := by
  refine Ct.ofW (by decide) (Nat.le_of_ble_eq_true rfl) ?_
  intro pX eX sX mX aX bX tX cX AX lsX HX oX QX zx zb zr zk zm zo zg zK zP zD zA zS zQ zl
  have zo : sX.vm.findClass R_M = some mX.cls := zo
  have zl : lv_has lsX 2 [(0, .ref m0)] := zl
  have hs0 := hsg 0 (by omega)
  have hs1 := hsg 1 (by omega)
  have hs2 := hsg 2 (by omega)
  refine lv_iconst (v := (nI 0)) zx zb d_M_copying_0 (by decide) ?_
  refine lv_istore_n (lv' := [(1, .int (nI 0)), (0, .ref m0)]) zx zb d_M_copying_1 rfl zl (by decide) rfl (fun lsX zl => ?_)
  refine lv_iload_n zx zb d_M_copying_2 rfl (lv_at zl 0 rfl) ?_
  refine lv_iconst (v := (nI 3)) zx zb d_M_copying_3 (by decide) ?_
  refine wn_cge_F (tgt := 25) zx zb d_M_copying_4 (by decide) (by omega) (by omega) (by omega) ?_
  refine lv_aload_n zx zb d_M_copying_7 rfl (lv_at zl 1 rfl) ?_
  refine wv_get zx zb zg hin_M rfl zo zK zP 0 rfl 7 (by decide) rfl fl_M_25 rfl d_M_copying_8 ?_
  refine lv_iload_n zx zb d_M_copying_11 rfl (lv_at zl 0 rfl) ?_
  refine wv_ialdN zx zb zK zP 6 rfl (by omega) (by decide) d_M_copying_12 ?_
  refine lv_iconst (v := (nI 1)) zx zb d_M_copying_13 (by decide) ?_
  refine wn_cne_T (tgt := 19) zx zb d_M_copying_14 (by decide) (by omega) (by omega) (by omega) ?_
  refine lv_iinc (k := 0) (lv' := [(1, .int (nI 1)), (0, .ref m0)]) zx zb d_M_copying_19 zl rfl (ni_inc _) (by decide) rfl (fun lsX zl => ?_)
  refine lv_goto (tgt := 2) zx zb d_M_copying_22 (by decide) ?_
  refine lv_iload_n zx zb d_M_copying_2 rfl (lv_at zl 0 rfl) ?_
  refine lv_iconst (v := (nI 3)) zx zb d_M_copying_3 (by decide) ?_
  refine wn_cge_F (tgt := 25) zx zb d_M_copying_4 (by decide) (by omega) (by omega) (by omega) ?_
  refine lv_aload_n zx zb d_M_copying_7 rfl (lv_at zl 1 rfl) ?_
  refine wv_get zx zb zg hin_M rfl zo zK zP 0 rfl 7 (by decide) rfl fl_M_25 rfl d_M_copying_8 ?_
  refine lv_iload_n zx zb d_M_copying_11 rfl (lv_at zl 0 rfl) ?_
  refine wv_ialdN zx zb zK zP 6 rfl (by omega) (by decide) d_M_copying_12 ?_
  refine lv_iconst (v := (nI 1)) zx zb d_M_copying_13 (by decide) ?_
  refine wn_cne_T (tgt := 19) zx zb d_M_copying_14 (by decide) (by omega) (by omega) (by omega) ?_
  refine lv_iinc (k := 0) (lv' := [(1, .int (nI 2)), (0, .ref m0)]) zx zb d_M_copying_19 zl rfl (ni_inc _) (by decide) rfl (fun lsX zl => ?_)
  refine lv_goto (tgt := 2) zx zb d_M_copying_22 (by decide) ?_
  refine lv_iload_n zx zb d_M_copying_2 rfl (lv_at zl 0 rfl) ?_
  refine lv_iconst (v := (nI 3)) zx zb d_M_copying_3 (by decide) ?_
  refine wn_cge_F (tgt := 25) zx zb d_M_copying_4 (by decide) (by omega) (by omega) (by omega) ?_
  refine lv_aload_n zx zb d_M_copying_7 rfl (lv_at zl 1 rfl) ?_
  refine wv_get zx zb zg hin_M rfl zo zK zP 0 rfl 7 (by decide) rfl fl_M_25 rfl d_M_copying_8 ?_
  refine lv_iload_n zx zb d_M_copying_11 rfl (lv_at zl 0 rfl) ?_
  refine wv_ialdN zx zb zK zP 6 rfl (by omega) (by decide) d_M_copying_12 ?_
  refine lv_iconst (v := (nI 1)) zx zb d_M_copying_13 (by decide) ?_
  refine wn_cne_F (tgt := 19) zx zb d_M_copying_14 (by decide) (by omega) (by omega) (by omega) ?_
  refine lv_iload_n zx zb d_M_copying_17 rfl (lv_at zl 0 rfl) ?_
  exact ct_iret zQ zx zb zr zk zP zD zS d_M_copying_18 rfl (⟨rfl, rfl⟩)
