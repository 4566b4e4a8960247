/-- what a restore answers at a position, for a finished backup; G: the first segment from its start on that is not held -/
def anR (k : Nat → Nat) (f l G ps : Nat) : Int32 := if ps < l then (-4) else if f < ps then (if 8 * G < ps then (-6) else if k (ps - 1) = 1 then nI 0 else (-5)) else nI 0
def reS (k : Nat → Nat) (f l G : Nat) : Nat → Int32
  | 0 => (-1)
  | c + 1 => if anR k f l G c = 0 then nI c else reS k f l G c
theorem c_M_ans_fin (lL : Launch) (g : Gt) (m0 : Nat) (m1 : Nat) (m2 : Nat) (m3 : Nat) (m4 : Nat) (m5 : Nat) (m6 : Nat) (m7 : Nat) (m8 : Nat) (m9 : Nat) (m10 : Nat) (n : Nat) (sy : Nat) (k : Nat → Nat) (o : Nat → Int32) (ke : Nat → Nat) (va : Nat → Int32) (fl : Nat → Nat) (sg : Nat → Nat) (cp : Nat → Nat) (fs : Nat → Nat) (la : Nat → Nat) (nx : Nat) (hd : Nat → Nat) (dn : Nat) (tg : Nat) (bh : Nat) (j : Nat) (ps : Nat) (G : Nat) (hj : j < 3) (hfj : sg j = 2) (hps : ps < 2147483648) (hla : la j ≤ 520) (hfs : fs j ≤ 512) (hfa : fs j ≤ la j) (hG0 : fs j / 8 ≤ G) (hG5 : G < 65) (hG1 : ∀ s, fs j / 8 ≤ s → s < G → hd s = 1) (hG2 : hd G = 0) (hk4 : ∀ i, i < 8 * G → k i < 4) : Ct lL g y_M_answer (.code y_M_answer b_M_answer 4 (some .int)) 1 21 [.ref m0, .int (nI j), .int (nI ps)] (wM g m0 m1 m2 m3 m4 m5 m6 m7 m8 m9 m10 n sy k o ke va fl sg cp fs la nx hd dn tg bh) (exP (some (.int (anR k (fs j) (la j) G ps))) (wM g m0 m1 m2 m3 m4 m5 m6 m7 m8 m9 m10 n sy k o ke va fl sg cp fs la nx hd dn tg bh)) := by
  unfold anR
  by_cases h1 : ps < la j
  · rw [if_pos h1]
    exact c_M_ans_e lL g m0 m1 m2 m3 m4 m5 m6 m7 m8 m9 m10 n sy k o ke va fl sg cp fs la nx hd dn tg bh j ps hj hfj hps hla (by omega) (by omega)
  · rw [if_neg h1]
    by_cases h2 : fs j < ps
    · rw [if_pos h2]
      by_cases h3 : 8 * G < ps
      · rw [if_pos h3]
        exact c_M_ans_m lL g m0 m1 m2 m3 m4 m5 m6 m7 m8 m9 m10 n sy k o ke va fl sg cp fs la nx hd dn tg bh j ps G hj hfj hps hla (by omega) (by omega) (by omega) hG0 (by omega) hG1 hG2 (by omega)
      · rw [if_neg h3]
        by_cases hkc : k (ps - 1) = 1
        · rw [if_pos hkc]
          exact c_M_ans_c lL g m0 m1 m2 m3 m4 m5 m6 m7 m8 m9 m10 n sy k o ke va fl sg cp fs la nx hd dn tg bh j ps G hj hfj hps hla (by omega) (by omega) (by omega) hG0 (by omega) hG1 (by omega) (hk4 _ (by omega)) hkc
        · rw [if_neg hkc]
          exact c_M_ans_b lL g m0 m1 m2 m3 m4 m5 m6 m7 m8 m9 m10 n sy k o ke va fl sg cp fs la nx hd dn tg bh j ps G hj hfj hps hla (by omega) (by omega) (by omega) hG0 (by omega) hG1 (by omega) (hk4 _ (by omega)) hkc
    · rw [if_neg h2]
      exact c_M_ans_s lL g m0 m1 m2 m3 m4 m5 m6 m7 m8 m9 m10 n sy k o ke va fl sg cp fs la nx hd dn tg bh j ps hj hfj hps hla (by omega) (by omega) (by omega) (by omega)
set_option maxRecDepth 20000 in
theorem c_M_reach_n (lL : Launch) (g : Gt) (m0 : Nat) (m1 : Nat) (m2 : Nat) (m3 : Nat) (m4 : Nat) (m5 : Nat) (m6 : Nat) (m7 : Nat) (m8 : Nat) (m9 : Nat) (m10 : Nat) (n : Nat) (sy : Nat) (k : Nat → Nat) (o : Nat → Int32) (ke : Nat → Nat) (va : Nat → Int32) (fl : Nat → Nat) (sg : Nat → Nat) (cp : Nat → Nat) (fs : Nat → Nat) (la : Nat → Nat) (nx : Nat) (hd : Nat → Nat) (dn : Nat) (tg : Nat) (bh : Nat) (j : Int32) (hj : j < 0) : Ct lL g y_M_reach (.code y_M_reach b_M_reach 3 (some .int)) 6 200 [.ref m0, .int j] (wM g m0 m1 m2 m3 m4 m5 m6 m7 m8 m9 m10 n sy k o ke va fl sg cp fs la nx hd dn tg bh) (exP (some (.int (-1))) (wM g m0 m1 m2 m3 m4 m5 m6 m7 m8 m9 m10 n sy k o ke va fl sg cp fs la nx hd dn tg bh)) := by
  refine Ct.ofW (by decide) (Nat.le_of_ble_eq_true rfl) ?_
  intro pX eX sX mX aX bX tX cX AX lsX HX oX QX zx zb zr zk zm zo zg zK zP zD zA zS zQ zl
  have zo : sX.vm.findClass R_M = some mX.cls := zo
  have zl : lv_has lsX 3 [(0, .ref m0), (1, .int j)] := zl
  refine lv_sipush (v := (nI 528)) zx zb d_M_reach_0 (by decide) ?_
  refine lv_istore_n (lv' := [(2, .int (nI 528)), (0, .ref m0), (1, .int j)]) zx zb d_M_reach_3 rfl zl (by decide) rfl (fun lsX zl => ?_)
  have zl : lv_has lsX 3 [(2, .int (nP 529)), (0, .ref m0), (1, .int j)] := by rw [nP_s]; exact zl
  have loop4 : ∀ (kk : Nat) (c : Nat), kk = c → (c ≤ 529) → ∀ (lsX : Array Slot) (HX : Heap) (oX : List Loc), lv_has lsX 3 [(0, .ref m0), (1, .int j), (2, .int (nP c))] → va_P g.1 cls (wM g m0 m1 m2 m3 m4 m5 m6 m7 m8 m9 m10 n sy k o ke va fl sg cp fs la nx hd dn tg bh) HX → va_D AX (wM g m0 m1 m2 m3 m4 m5 m6 m7 m8 m9 m10 n sy k o ke va fl sg cp fs la nx hd dn tg bh) → va_S AX sX.heap HX oX → W pX lL eX (rmL 6 200) sX mX aX bX tX cX HX oX 0 0 QX (F0 mX 4 lsX []) := by
    intro kk
    induction kk using Nat.strongRecOn with
    | ind kk ih_loop4 =>
      intro c hkk hc5 lsX HX oX zl zP zD zS
      rcases nat_cs c with rfl | ⟨c, rfl⟩
      · have hc6 := hc5
        refine lv_iload_n zx zb d_M_reach_4 rfl (lv_at zl 2 rfl) ?_
        refine lv_if_lt (tgt := 25) zx zb d_M_reach_5 (by decide) (fun _ => ?_) (fun h => absurd h (fun h => h nP_0))
        refine lv_iconst (v := (-1)) zx zb d_M_reach_25 (by decide) ?_
        exact ct_iret zQ zx zb zr zk zP zD zS d_M_reach_26 rfl (⟨rfl, rfl⟩)
      · have hc6 := hc5
        have zl : lv_has lsX 3 [(0, .ref m0), (1, .int j), (2, .int (nI c))] := by rw [nP_s] at zl; exact zl
        refine lv_iload_n zx zb d_M_reach_4 rfl (lv_at zl 2 rfl) ?_
        refine wn_ilt_F (tgt := 25) zx zb d_M_reach_5 (by decide) (by omega) (trivial) ?_
        refine lv_aload_n zx zb d_M_reach_8 rfl (lv_at zl 0 rfl) ?_
        refine lv_iload_n zx zb d_M_reach_9 rfl (lv_at zl 1 rfl) ?_
        refine lv_iload_n zx zb d_M_reach_10 rfl (lv_at zl 2 rfl) ?_
        refine ct_V (ws' := wM g m0 m1 m2 m3 m4 m5 m6 m7 m8 m9 m10 n sy k o ke va fl sg cp fs la nx hd dn tg bh) (rest := []) (st1 := [.int (-1)]) zx zb zm zo zg zK zP zD zS zA zl.1 (c_M_ans_n lL g m0 m1 m2 m3 m4 m5 m6 m7 m8 m9 m10 n sy k o ke va fl sg cp fs la nx hd dn tg bh j (nI c) hj) ok_M_answer ov_M_answer ml_M_96 (by decide) 0 7 rfl rfl rfl [0, 1, 2, 3, 4, 5, 6, 7, 8, 9, 10] [] 11 (by decide) rfl rfl rfl rfl (by decide) rfl rfl rfl (Nat.le_of_ble_eq_true rfl) d_M_reach_11 (fun HX oX zP zD zS => ?_)
        refine lv_if_ne (tgt := 19) zx zb d_M_reach_14 (by decide) (fun _ => ?_) (fun h => absurd h (by decide))
        refine lv_iinc (k := 2) (lv' := [(2, .int (nP c)), (0, .ref m0), (1, .int j)]) zx zb d_M_reach_19 zl rfl (nP_dec _) (by decide) rfl (fun lsX zl => ?_)
        refine lv_goto (tgt := 4) zx zb d_M_reach_22 (by decide) ?_
        exact ih_loop4 _ (by omega) c rfl (by omega) lsX HX oX (lv_sub zl [1, 2, 0] rfl) zP zD zS
  exact loop4 _ 529 rfl (Nat.le_refl _) lsX HX oX (lv_sub zl [1, 2, 0] rfl) zP zD zS
set_option maxRecDepth 20000 in
theorem c_M_reach_g (lL : Launch) (g : Gt) (m0 : Nat) (m1 : Nat) (m2 : Nat) (m3 : Nat) (m4 : Nat) (m5 : Nat) (m6 : Nat) (m7 : Nat) (m8 : Nat) (m9 : Nat) (m10 : Nat) (n : Nat) (sy : Nat) (k : Nat → Nat) (o : Nat → Int32) (ke : Nat → Nat) (va : Nat → Int32) (fl : Nat → Nat) (sg : Nat → Nat) (cp : Nat → Nat) (fs : Nat → Nat) (la : Nat → Nat) (nx : Nat) (hd : Nat → Nat) (dn : Nat) (tg : Nat) (bh : Nat) (j : Nat) (hj : 3 ≤ j) (hj2 : j < 2147483648) : Ct lL g y_M_reach (.code y_M_reach b_M_reach 3 (some .int)) 6 200 [.ref m0, .int (nI j)] (wM g m0 m1 m2 m3 m4 m5 m6 m7 m8 m9 m10 n sy k o ke va fl sg cp fs la nx hd dn tg bh) (exP (some (.int (-1))) (wM g m0 m1 m2 m3 m4 m5 m6 m7 m8 m9 m10 n sy k o ke va fl sg cp fs la nx hd dn tg bh)) := by
  refine Ct.ofW (by decide) (Nat.le_of_ble_eq_true rfl) ?_
  intro pX eX sX mX aX bX tX cX AX lsX HX oX QX zx zb zr zk zm zo zg zK zP zD zA zS zQ zl
  have zo : sX.vm.findClass R_M = some mX.cls := zo
  have zl : lv_has lsX 3 [(0, .ref m0), (1, .int (nI j))] := zl
  refine lv_sipush (v := (nI 528)) zx zb d_M_reach_0 (by decide) ?_
  refine lv_istore_n (lv' := [(2, .int (nI 528)), (0, .ref m0), (1, .int (nI j))]) zx zb d_M_reach_3 rfl zl (by decide) rfl (fun lsX zl => ?_)
  have zl : lv_has lsX 3 [(2, .int (nP 529)), (0, .ref m0), (1, .int (nI j))] := by rw [nP_s]; exact zl
  have loop4 : ∀ (kk : Nat) (c : Nat), kk = c → (c ≤ 529) → ∀ (lsX : Array Slot) (HX : Heap) (oX : List Loc), lv_has lsX 3 [(0, .ref m0), (1, .int (nI j)), (2, .int (nP c))] → va_P g.1 cls (wM g m0 m1 m2 m3 m4 m5 m6 m7 m8 m9 m10 n sy k o ke va fl sg cp fs la nx hd dn tg bh) HX → va_D AX (wM g m0 m1 m2 m3 m4 m5 m6 m7 m8 m9 m10 n sy k o ke va fl sg cp fs la nx hd dn tg bh) → va_S AX sX.heap HX oX → W pX lL eX (rmL 6 200) sX mX aX bX tX cX HX oX 0 0 QX (F0 mX 4 lsX []) := by
    intro kk
    induction kk using Nat.strongRecOn with
    | ind kk ih_loop4 =>
      intro c hkk hc5 lsX HX oX zl zP zD zS
      rcases nat_cs c with rfl | ⟨c, rfl⟩
      · have hc6 := hc5
        refine lv_iload_n zx zb d_M_reach_4 rfl (lv_at zl 2 rfl) ?_
        refine lv_if_lt (tgt := 25) zx zb d_M_reach_5 (by decide) (fun _ => ?_) (fun h => absurd h (fun h => h nP_0))
        refine lv_iconst (v := (-1)) zx zb d_M_reach_25 (by decide) ?_
        exact ct_iret zQ zx zb zr zk zP zD zS d_M_reach_26 rfl (⟨rfl, rfl⟩)
      · have hc6 := hc5
        have zl : lv_has lsX 3 [(0, .ref m0), (1, .int (nI j)), (2, .int (nI c))] := by rw [nP_s] at zl; exact zl
        refine lv_iload_n zx zb d_M_reach_4 rfl (lv_at zl 2 rfl) ?_
        refine wn_ilt_F (tgt := 25) zx zb d_M_reach_5 (by decide) (by omega) (trivial) ?_
        refine lv_aload_n zx zb d_M_reach_8 rfl (lv_at zl 0 rfl) ?_
        refine lv_iload_n zx zb d_M_reach_9 rfl (lv_at zl 1 rfl) ?_
        refine lv_iload_n zx zb d_M_reach_10 rfl (lv_at zl 2 rfl) ?_
        refine ct_V (ws' := wM g m0 m1 m2 m3 m4 m5 m6 m7 m8 m9 m10 n sy k o ke va fl sg cp fs la nx hd dn tg bh) (rest := []) (st1 := [.int (-1)]) zx zb zm zo zg zK zP zD zS zA zl.1 (c_M_ans_g lL g m0 m1 m2 m3 m4 m5 m6 m7 m8 m9 m10 n sy k o ke va fl sg cp fs la nx hd dn tg bh j (nI c) hj hj2) ok_M_answer ov_M_answer ml_M_96 (by decide) 0 7 rfl rfl rfl [0, 1, 2, 3, 4, 5, 6, 7, 8, 9, 10] [] 11 (by decide) rfl rfl rfl rfl (by decide) rfl rfl rfl (Nat.le_of_ble_eq_true rfl) d_M_reach_11 (fun HX oX zP zD zS => ?_)
        refine lv_if_ne (tgt := 19) zx zb d_M_reach_14 (by decide) (fun _ => ?_) (fun h => absurd h (by decide))
        refine lv_iinc (k := 2) (lv' := [(2, .int (nP c)), (0, .ref m0), (1, .int (nI j))]) zx zb d_M_reach_19 zl rfl (nP_dec _) (by decide) rfl (fun lsX zl => ?_)
        refine lv_goto (tgt := 4) zx zb d_M_reach_22 (by decide) ?_
        exact ih_loop4 _ (by omega) c rfl (by omega) lsX HX oX (lv_sub zl [1, 2, 0] rfl) zP zD zS
  exact loop4 _ 529 rfl (Nat.le_refl _) lsX HX oX (lv_sub zl [1, 2, 0] rfl) zP zD zS
set_option maxRecDepth 20000 in
theorem c_M_reach_f (lL : Launch) (g : Gt) (m0 : Nat) (m1 : Nat) (m2 : Nat) (m3 : Nat) (m4 : Nat) (m5 : Nat) (m6 : Nat) (m7 : Nat) (m8 : Nat) (m9 : Nat) (m10 : Nat) (n : Nat) (sy : Nat) (k : Nat → Nat) (o : Nat → Int32) (ke : Nat → Nat) (va : Nat → Int32) (fl : Nat → Nat) (sg : Nat → Nat) (cp : Nat → Nat) (fs : Nat → Nat) (la : Nat → Nat) (nx : Nat) (hd : Nat → Nat) (dn : Nat) (tg : Nat) (bh : Nat) (j : Nat) (hj : j < 3) (hfj : sg j ≠ 2) (hfj2 : sg j ≤ 2) : Ct lL g y_M_reach (.code y_M_reach b_M_reach 3 (some .int)) 6 200 [.ref m0, .int (nI j)] (wM g m0 m1 m2 m3 m4 m5 m6 m7 m8 m9 m10 n sy k o ke va fl sg cp fs la nx hd dn tg bh) (exP (some (.int (-1))) (wM g m0 m1 m2 m3 m4 m5 m6 m7 m8 m9 m10 n sy k o ke va fl sg cp fs la nx hd dn tg bh)) := by
  refine Ct.ofW (by decide) (Nat.le_of_ble_eq_true rfl) ?_
  intro pX eX sX mX aX bX tX cX AX lsX HX oX QX zx zb zr zk zm zo zg zK zP zD zA zS zQ zl
  have zo : sX.vm.findClass R_M = some mX.cls := zo
  have zl : lv_has lsX 3 [(0, .ref m0), (1, .int (nI j))] := zl
  refine lv_sipush (v := (nI 528)) zx zb d_M_reach_0 (by decide) ?_
  refine lv_istore_n (lv' := [(2, .int (nI 528)), (0, .ref m0), (1, .int (nI j))]) zx zb d_M_reach_3 rfl zl (by decide) rfl (fun lsX zl => ?_)
  have zl : lv_has lsX 3 [(2, .int (nP 529)), (0, .ref m0), (1, .int (nI j))] := by rw [nP_s]; exact zl
  have loop4 : ∀ (kk : Nat) (c : Nat), kk = c → (c ≤ 529) → ∀ (lsX : Array Slot) (HX : Heap) (oX : List Loc), lv_has lsX 3 [(0, .ref m0), (1, .int (nI j)), (2, .int (nP c))] → va_P g.1 cls (wM g m0 m1 m2 m3 m4 m5 m6 m7 m8 m9 m10 n sy k o ke va fl sg cp fs la nx hd dn tg bh) HX → va_D AX (wM g m0 m1 m2 m3 m4 m5 m6 m7 m8 m9 m10 n sy k o ke va fl sg cp fs la nx hd dn tg bh) → va_S AX sX.heap HX oX → W pX lL eX (rmL 6 200) sX mX aX bX tX cX HX oX 0 0 QX (F0 mX 4 lsX []) := by
    intro kk
    induction kk using Nat.strongRecOn with
    | ind kk ih_loop4 =>
      intro c hkk hc5 lsX HX oX zl zP zD zS
      rcases nat_cs c with rfl | ⟨c, rfl⟩
      · have hc6 := hc5
        refine lv_iload_n zx zb d_M_reach_4 rfl (lv_at zl 2 rfl) ?_
        refine lv_if_lt (tgt := 25) zx zb d_M_reach_5 (by decide) (fun _ => ?_) (fun h => absurd h (fun h => h nP_0))
        refine lv_iconst (v := (-1)) zx zb d_M_reach_25 (by decide) ?_
        exact ct_iret zQ zx zb zr zk zP zD zS d_M_reach_26 rfl (⟨rfl, rfl⟩)
      · have hc6 := hc5
        have zl : lv_has lsX 3 [(0, .ref m0), (1, .int (nI j)), (2, .int (nI c))] := by rw [nP_s] at zl; exact zl
        refine lv_iload_n zx zb d_M_reach_4 rfl (lv_at zl 2 rfl) ?_
        refine wn_ilt_F (tgt := 25) zx zb d_M_reach_5 (by decide) (by omega) (trivial) ?_
        refine lv_aload_n zx zb d_M_reach_8 rfl (lv_at zl 0 rfl) ?_
        refine lv_iload_n zx zb d_M_reach_9 rfl (lv_at zl 1 rfl) ?_
        refine lv_iload_n zx zb d_M_reach_10 rfl (lv_at zl 2 rfl) ?_
        refine ct_V (ws' := wM g m0 m1 m2 m3 m4 m5 m6 m7 m8 m9 m10 n sy k o ke va fl sg cp fs la nx hd dn tg bh) (rest := []) (st1 := [.int (-1)]) zx zb zm zo zg zK zP zD zS zA zl.1 (c_M_ans_f lL g m0 m1 m2 m3 m4 m5 m6 m7 m8 m9 m10 n sy k o ke va fl sg cp fs la nx hd dn tg bh j (nI c) hj hfj hfj2) ok_M_answer ov_M_answer ml_M_96 (by decide) 0 7 rfl rfl rfl [0, 1, 2, 3, 4, 5, 6, 7, 8, 9, 10] [] 11 (by decide) rfl rfl rfl rfl (by decide) rfl rfl rfl (Nat.le_of_ble_eq_true rfl) d_M_reach_11 (fun HX oX zP zD zS => ?_)
        refine lv_if_ne (tgt := 19) zx zb d_M_reach_14 (by decide) (fun _ => ?_) (fun h => absurd h (by decide))
        refine lv_iinc (k := 2) (lv' := [(2, .int (nP c)), (0, .ref m0), (1, .int (nI j))]) zx zb d_M_reach_19 zl rfl (nP_dec _) (by decide) rfl (fun lsX zl => ?_)
        refine lv_goto (tgt := 4) zx zb d_M_reach_22 (by decide) ?_
        exact ih_loop4 _ (by omega) c rfl (by omega) lsX HX oX (lv_sub zl [1, 2, 0] rfl) zP zD zS
  exact loop4 _ 529 rfl (Nat.le_refl _) lsX HX oX (lv_sub zl [1, 2, 0] rfl) zP zD zS
set_option maxRecDepth 20000 in
theorem c_M_reach_t (lL : Launch) (g : Gt) (m0 : Nat) (m1 : Nat) (m2 : Nat) (m3 : Nat) (m4 : Nat) (m5 : Nat) (m6 : Nat) (m7 : Nat) (m8 : Nat) (m9 : Nat) (m10 : Nat) (n : Nat) (sy : Nat) (k : Nat → Nat) (o : Nat → Int32) (ke : Nat → Nat) (va : Nat → Int32) (fl : Nat → Nat) (sg : Nat → Nat) (cp : Nat → Nat) (fs : Nat → Nat) (la : Nat → Nat) (nx : Nat) (hd : Nat → Nat) (dn : Nat) (tg : Nat) (bh : Nat) (j : Nat) (G : Nat) (hj : j < 3) (hfj : sg j = 2) (hla : la j ≤ 520) (hfs : fs j ≤ 512) (hfa : fs j ≤ la j) (hG0 : fs j / 8 ≤ G) (hG5 : G < 65) (hG1 : ∀ s, fs j / 8 ≤ s → s < G → hd s = 1) (hG2 : hd G = 0) (hk4 : ∀ i, i < 8 * G → k i < 4) : Ct lL g y_M_reach (.code y_M_reach b_M_reach 3 (some .int)) 6 200 [.ref m0, .int (nI j)] (wM g m0 m1 m2 m3 m4 m5 m6 m7 m8 m9 m10 n sy k o ke va fl sg cp fs la nx hd dn tg bh) (exP (some (.int (reS k (fs j) (la j) G 529))) (wM g m0 m1 m2 m3 m4 m5 m6 m7 m8 m9 m10 n sy k o ke va fl sg cp fs la nx hd dn tg bh)) := by
  refine Ct.ofW (by decide) (Nat.le_of_ble_eq_true rfl) ?_
  intro pX eX sX mX aX bX tX cX AX lsX HX oX QX zx zb zr zk zm zo zg zK zP zD zA zS zQ zl
  have zo : sX.vm.findClass R_M = some mX.cls := zo
  have zl : lv_has lsX 3 [(0, .ref m0), (1, .int (nI j))] := zl
  refine lv_sipush (v := (nI 528)) zx zb d_M_reach_0 (by decide) ?_
  refine lv_istore_n (lv' := [(2, .int (nI 528)), (0, .ref m0), (1, .int (nI j))]) zx zb d_M_reach_3 rfl zl (by decide) rfl (fun lsX zl => ?_)
  have zl : lv_has lsX 3 [(2, .int (nP 529)), (0, .ref m0), (1, .int (nI j))] := by rw [nP_s]; exact zl
  have loop4 : ∀ (kk : Nat) (c : Nat), kk = c → (c ≤ 529) → (reS k (fs j) (la j) G c = reS k (fs j) (la j) G 529) → ∀ (lsX : Array Slot) (HX : Heap) (oX : List Loc), lv_has lsX 3 [(0, .ref m0), (1, .int (nI j)), (2, .int (nP c))] → va_P g.1 cls (wM g m0 m1 m2 m3 m4 m5 m6 m7 m8 m9 m10 n sy k o ke va fl sg cp fs la nx hd dn tg bh) HX → va_D AX (wM g m0 m1 m2 m3 m4 m5 m6 m7 m8 m9 m10 n sy k o ke va fl sg cp fs la nx hd dn tg bh) → va_S AX sX.heap HX oX → W pX lL eX (rmL 6 200) sX mX aX bX tX cX HX oX 0 0 QX (F0 mX 4 lsX []) := by
    intro kk
    induction kk using Nat.strongRecOn with
    | ind kk ih_loop4 =>
      intro c hkk hc5 hi lsX HX oX zl zP zD zS
      rcases nat_cs c with rfl | ⟨c, rfl⟩
      · have hi : (-1) = reS k (fs j) (la j) G 529 := hi
        refine lv_iload_n zx zb d_M_reach_4 rfl (lv_at zl 2 rfl) ?_
        refine lv_if_lt (tgt := 25) zx zb d_M_reach_5 (by decide) (fun _ => ?_) (fun h => absurd h (fun h => h nP_0))
        refine lv_iconst (v := (-1)) zx zb d_M_reach_25 (by decide) ?_
        exact ct_iret zQ zx zb zr zk zP zD zS d_M_reach_26 rfl (⟨by rw [hi], rfl⟩)
      · have hc6 := hc5
        have zl : lv_has lsX 3 [(0, .ref m0), (1, .int (nI j)), (2, .int (nI c))] := by rw [nP_s] at zl; exact zl
        refine lv_iload_n zx zb d_M_reach_4 rfl (lv_at zl 2 rfl) ?_
        refine wn_ilt_F (tgt := 25) zx zb d_M_reach_5 (by decide) (by omega) (trivial) ?_
        by_cases hz : anR k (fs j) (la j) G c = 0
        · have hi : nI c = reS k (fs j) (la j) G 529 := (if_pos hz).symm.trans hi
          refine lv_aload_n zx zb d_M_reach_8 rfl (lv_at zl 0 rfl) ?_
          refine lv_iload_n zx zb d_M_reach_9 rfl (lv_at zl 1 rfl) ?_
          refine lv_iload_n zx zb d_M_reach_10 rfl (lv_at zl 2 rfl) ?_
          refine ct_V (ws' := wM g m0 m1 m2 m3 m4 m5 m6 m7 m8 m9 m10 n sy k o ke va fl sg cp fs la nx hd dn tg bh) (rest := []) (st1 := [.int (anR k (fs j) (la j) G c)]) zx zb zm zo zg zK zP zD zS zA zl.1 (c_M_ans_fin lL g m0 m1 m2 m3 m4 m5 m6 m7 m8 m9 m10 n sy k o ke va fl sg cp fs la nx hd dn tg bh j c G hj hfj (by omega) hla hfs hfa hG0 hG5 hG1 hG2 hk4) ok_M_answer ov_M_answer ml_M_96 (by decide) 0 7 rfl rfl rfl [0, 1, 2, 3, 4, 5, 6, 7, 8, 9, 10] [] 11 (by decide) rfl rfl rfl rfl (by decide) rfl rfl rfl (Nat.le_of_ble_eq_true rfl) d_M_reach_11 (fun HX oX zP zD zS => ?_)
          refine lv_if_ne (tgt := 19) zx zb d_M_reach_14 (by decide) (fun h => absurd h (fun h => h hz)) (fun _ => ?_)
          refine lv_iload_n zx zb d_M_reach_17 rfl (lv_at zl 2 rfl) ?_
          exact ct_iret zQ zx zb zr zk zP zD zS d_M_reach_18 rfl (⟨by rw [hi], rfl⟩)
        · have hi : reS k (fs j) (la j) G c = reS k (fs j) (la j) G 529 := (if_neg hz).symm.trans hi
          refine lv_aload_n zx zb d_M_reach_8 rfl (lv_at zl 0 rfl) ?_
          refine lv_iload_n zx zb d_M_reach_9 rfl (lv_at zl 1 rfl) ?_
          refine lv_iload_n zx zb d_M_reach_10 rfl (lv_at zl 2 rfl) ?_
          refine ct_V (ws' := wM g m0 m1 m2 m3 m4 m5 m6 m7 m8 m9 m10 n sy k o ke va fl sg cp fs la nx hd dn tg bh) (rest := []) (st1 := [.int (anR k (fs j) (la j) G c)]) zx zb zm zo zg zK zP zD zS zA zl.1 (c_M_ans_fin lL g m0 m1 m2 m3 m4 m5 m6 m7 m8 m9 m10 n sy k o ke va fl sg cp fs la nx hd dn tg bh j c G hj hfj (by omega) hla hfs hfa hG0 hG5 hG1 hG2 hk4) ok_M_answer ov_M_answer ml_M_96 (by decide) 0 7 rfl rfl rfl [0, 1, 2, 3, 4, 5, 6, 7, 8, 9, 10] [] 11 (by decide) rfl rfl rfl rfl (by decide) rfl rfl rfl (Nat.le_of_ble_eq_true rfl) d_M_reach_11 (fun HX oX zP zD zS => ?_)
          refine lv_if_ne (tgt := 19) zx zb d_M_reach_14 (by decide) (fun _ => ?_) (fun h => absurd h (hz))
          refine lv_iinc (k := 2) (lv' := [(2, .int (nP c)), (0, .ref m0), (1, .int (nI j))]) zx zb d_M_reach_19 zl rfl (nP_dec _) (by decide) rfl (fun lsX zl => ?_)
          refine lv_goto (tgt := 4) zx zb d_M_reach_22 (by decide) ?_
          exact ih_loop4 _ (by omega) c rfl (by omega) hi lsX HX oX (lv_sub zl [1, 2, 0] rfl) zP zD zS
  exact loop4 _ 529 rfl (Nat.le_refl _) rfl lsX HX oX (lv_sub zl [1, 2, 0] rfl) zP zD zS
