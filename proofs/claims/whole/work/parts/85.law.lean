set_option maxRecDepth 20000 in
theorem law_set {p : Program} {l : Launch} {e : Env} {s : State} {m : MethodId} {args : Array Value} {below : List Frame} {meth : Method} {c : Code} {Q : State → Prop} {g : Gt} {A0 : Nat → Prop} {A B : Nat → Nat} {sb L : Nat} {xs : Nat → Int32} {cells slots : Nat} (zx : p.tables.exec = Jvm.exec) (zb : c.code = code) (zm : c.maxLocals = 4) (zo : s.vm.findClass "TornBackupsLaw" = some m.cls) (zg : ∀ w ∈ GW, w.before args s = true) (zK : KK g s) (zA : ∀ q, s.heap.size ≤ q → A0 q) (zX : va_X sb L xs s s.heap) (zbl : sb < s.heap.size) (zbA : ¬ A0 sb) (hL : L ≤ 2048) (hcs : cells ≤ room_1.cells ∧ slots ≤ room_1.slots) {x : SX} {w : SM} {t : Nat} (hI : INV t x w) (ht : 4 * t + 4 ≤ L)
    (kk : ∀ (x1 : SX) (w1 : SM) (H : Heap) (locs : List Loc), INV (t + 1) x1 w1 → va_P g.1 cls (wS g A x1 ++ wT g B w1) H → va_D A0 (wS g A x1 ++ wT g B w1) → va_S A0 s.heap H locs → ∀ ls : Array Slot, lv_has ls 4 [(0, .ref sb), (1, .ref (A 0)), (2, .ref (B 0)), (3, .int (nI (4 * t)))] → W p l e room_1 s m args below meth c H locs cells slots Q (F0 m 538 ls []))
    (HX : Heap) (oX : List Loc) (lsX : Array Slot) (zl : lv_has lsX 4 [(0, .ref sb), (1, .ref (A 0)), (2, .ref (B 0)), (3, .int (nI (4 * t)))]) (zP : va_P g.1 cls (wS g A x ++ wT g B w) HX) (zD : va_D A0 (wS g A x ++ wT g B w)) (zS : va_S A0 s.heap HX oX) : W p l e room_1 s m args below meth c HX oX cells slots Q (F0 m 128 lsX []) := by
  obtain ⟨r, x1, w1, hX1, ⟨d1, z1, hd1, hz1, hM1⟩, hI1⟩ := S_set l g A B (by omega) hI (xs (4 * t + 1)) (xs (4 * t + 2)) (xs (4 * t + 3))
  refine lv_aload_n zx zb d_Law_128 rfl (lv_at zl 1 rfl) ?_
  refine lv_aload_n zx zb d_Law_129 rfl (lv_at zl 0 rfl) ?_
  refine lv_iload_n zx zb d_Law_130 rfl (lv_at zl 3 rfl) ?_
  refine lv_iconst (v := nI 1) zx zb d_Law_131 (by decide) ?_
  refine wv_iadd zx zb d_Law_132 (nI_add _ _) ?_
  refine wv_sld zx zb zX zbl zbA zS (by omega) hL d_Law_133 ?_
  refine lv_aload_n zx zb d_Law_134 rfl (lv_at zl 0 rfl) ?_
  refine lv_iload_n zx zb d_Law_135 rfl (lv_at zl 3 rfl) ?_
  refine lv_iconst (v := nI 2) zx zb d_Law_136 (by decide) ?_
  refine wv_iadd zx zb d_Law_137 (nI_add _ _) ?_
  refine wv_sld zx zb zX zbl zbA zS (by omega) hL d_Law_138 ?_
  refine lv_aload_n zx zb d_Law_139 rfl (lv_at zl 0 rfl) ?_
  refine lv_iload_n zx zb d_Law_140 rfl (lv_at zl 3 rfl) ?_
  refine lv_iconst (v := nI 3) zx zb d_Law_141 (by decide) ?_
  refine wv_iadd zx zb d_Law_142 (nI_add _ _) ?_
  refine wv_sld zx zb zX zbl zbA zS (by omega) hL d_Law_143 ?_
  refine lw_call (x' := x1) (w' := w) (rest := []) zx zb zm zo zg zK zP zD zS zA zl.1 (frL x x1 w hX1) ok_X_set ov_X_set ml_Law_13 (by decide) (by decide) (by decide) hcs 0 0 (wL_X g A B x w) rfl rfl rfl rfl (Nat.le_of_ble_eq_true rfl) d_Law_144 (fun HX oX zP zD zS => ?_)
  refine lv_aload_n zx zb d_Law_147 rfl (lv_at zl 2 rfl) ?_
  refine lv_aload_n zx zb d_Law_148 rfl (lv_at zl 0 rfl) ?_
  refine lv_iload_n zx zb d_Law_149 rfl (lv_at zl 3 rfl) ?_
  refine lv_iconst (v := nI 1) zx zb d_Law_150 (by decide) ?_
  refine wv_iadd zx zb d_Law_151 (nI_add _ _) ?_
  refine wv_sld zx zb zX zbl zbA zS (by omega) hL d_Law_152 ?_
  refine lv_aload_n zx zb d_Law_153 rfl (lv_at zl 0 rfl) ?_
  refine lv_iload_n zx zb d_Law_154 rfl (lv_at zl 3 rfl) ?_
  refine lv_iconst (v := nI 2) zx zb d_Law_155 (by decide) ?_
  refine wv_iadd zx zb d_Law_156 (nI_add _ _) ?_
  refine wv_sld zx zb zX zbl zbA zS (by omega) hL d_Law_157 ?_
  refine lv_aload_n zx zb d_Law_158 rfl (lv_at zl 0 rfl) ?_
  refine lv_iload_n zx zb d_Law_159 rfl (lv_at zl 3 rfl) ?_
  refine lv_iconst (v := nI 3) zx zb d_Law_160 (by decide) ?_
  refine wv_iadd zx zb d_Law_161 (nI_add _ _) ?_
  refine wv_sld zx zb zX zbl zbA zS (by omega) hL d_Law_162 ?_
  refine lw_call (x' := x1) (w' := w1) (rest := [.int r]) zx zb zm zo zg zK zP zD zS zA zl.1 (frR x1 w w1 hM1) ok_M_set ov_M_set ml_Law_17 hd1 hz1 (by decide) hcs 33 7 (wL_M g A B x1 w) rfl rfl rfl rfl (Nat.le_of_ble_eq_true rfl) d_Law_163 (fun HX oX zP zD zS => ?_)
  refine lv_icmp_eq (tgt := 538) zx zb d_Law_166 (by decide) (fun _ => ?_) (fun h => absurd rfl h)
  exact kk x1 w1 HX oX hI1 zP zD zS lsX zl
set_option maxRecDepth 20000 in
theorem law_commit {p : Program} {l : Launch} {e : Env} {s : State} {m : MethodId} {args : Array Value} {below : List Frame} {meth : Method} {c : Code} {Q : State → Prop} {g : Gt} {A0 : Nat → Prop} {A B : Nat → Nat} {sb L : Nat} {xs : Nat → Int32} {cells slots : Nat} (zx : p.tables.exec = Jvm.exec) (zb : c.code = code) (zm : c.maxLocals = 4) (zo : s.vm.findClass "TornBackupsLaw" = some m.cls) (zg : ∀ w ∈ GW, w.before args s = true) (zK : KK g s) (zA : ∀ q, s.heap.size ≤ q → A0 q) (zX : va_X sb L xs s s.heap) (zbl : sb < s.heap.size) (zbA : ¬ A0 sb) (hL : L ≤ 2048) (hcs : cells ≤ room_1.cells ∧ slots ≤ room_1.slots) {x : SX} {w : SM} {t : Nat} (hI : INV t x w) (ht : 4 * t + 4 ≤ L)
    (kk : ∀ (x1 : SX) (w1 : SM) (H : Heap) (locs : List Loc), INV (t + 1) x1 w1 → va_P g.1 cls (wS g A x1 ++ wT g B w1) H → va_D A0 (wS g A x1 ++ wT g B w1) → va_S A0 s.heap H locs → ∀ ls : Array Slot, lv_has ls 4 [(0, .ref sb), (1, .ref (A 0)), (2, .ref (B 0)), (3, .int (nI (4 * t)))] → W p l e room_1 s m args below meth c H locs cells slots Q (F0 m 538 ls []))
    (HX : Heap) (oX : List Loc) (lsX : Array Slot) (zl : lv_has lsX 4 [(0, .ref sb), (1, .ref (A 0)), (2, .ref (B 0)), (3, .int (nI (4 * t)))]) (zP : va_P g.1 cls (wS g A x ++ wT g B w) HX) (zD : va_D A0 (wS g A x ++ wT g B w)) (zS : va_S A0 s.heap HX oX) : W p l e room_1 s m args below meth c HX oX cells slots Q (F0 m 171 lsX []) := by
  obtain ⟨r, x1, w1, hX1, ⟨d1, z1, hd1, hz1, hM1⟩, hI1⟩ := S_commit l g A B (by omega) hI (xs (4 * t + 1))
  refine lv_aload_n zx zb d_Law_171 rfl (lv_at zl 1 rfl) ?_
  refine lv_aload_n zx zb d_Law_172 rfl (lv_at zl 0 rfl) ?_
  refine lv_iload_n zx zb d_Law_173 rfl (lv_at zl 3 rfl) ?_
  refine lv_iconst (v := nI 1) zx zb d_Law_174 (by decide) ?_
  refine wv_iadd zx zb d_Law_175 (nI_add _ _) ?_
  refine wv_sld zx zb zX zbl zbA zS (by omega) hL d_Law_176 ?_
  refine lw_call (x' := x1) (w' := w) (rest := []) zx zb zm zo zg zK zP zD zS zA zl.1 (frL x x1 w hX1) ok_X_commit ov_X_commit ml_Law_18 (by decide) (by decide) (by decide) hcs 0 0 (wL_X g A B x w) rfl rfl rfl rfl (Nat.le_of_ble_eq_true rfl) d_Law_177 (fun HX oX zP zD zS => ?_)
  refine lv_aload_n zx zb d_Law_180 rfl (lv_at zl 2 rfl) ?_
  refine lv_aload_n zx zb d_Law_181 rfl (lv_at zl 0 rfl) ?_
  refine lv_iload_n zx zb d_Law_182 rfl (lv_at zl 3 rfl) ?_
  refine lv_iconst (v := nI 1) zx zb d_Law_183 (by decide) ?_
  refine wv_iadd zx zb d_Law_184 (nI_add _ _) ?_
  refine wv_sld zx zb zX zbl zbA zS (by omega) hL d_Law_185 ?_
  refine lw_call (x' := x1) (w' := w1) (rest := [.int r]) zx zb zm zo zg zK zP zD zS zA zl.1 (frR x1 w w1 hM1) ok_M_commit ov_M_commit ml_Law_22 hd1 hz1 (by decide) hcs 33 7 (wL_M g A B x1 w) rfl rfl rfl rfl (Nat.le_of_ble_eq_true rfl) d_Law_186 (fun HX oX zP zD zS => ?_)
  refine lv_icmp_eq (tgt := 538) zx zb d_Law_189 (by decide) (fun _ => ?_) (fun h => absurd rfl h)
  exact kk x1 w1 HX oX hI1 zP zD zS lsX zl
set_option maxRecDepth 20000 in
theorem law_abort {p : Program} {l : Launch} {e : Env} {s : State} {m : MethodId} {args : Array Value} {below : List Frame} {meth : Method} {c : Code} {Q : State → Prop} {g : Gt} {A0 : Nat → Prop} {A B : Nat → Nat} {sb L : Nat} {xs : Nat → Int32} {cells slots : Nat} (zx : p.tables.exec = Jvm.exec) (zb : c.code = code) (zm : c.maxLocals = 4) (zo : s.vm.findClass "TornBackupsLaw" = some m.cls) (zg : ∀ w ∈ GW, w.before args s = true) (zK : KK g s) (zA : ∀ q, s.heap.size ≤ q → A0 q) (zX : va_X sb L xs s s.heap) (zbl : sb < s.heap.size) (zbA : ¬ A0 sb) (hL : L ≤ 2048) (hcs : cells ≤ room_1.cells ∧ slots ≤ room_1.slots) {x : SX} {w : SM} {t : Nat} (hI : INV t x w) (ht : 4 * t + 4 ≤ L)
    (kk : ∀ (x1 : SX) (w1 : SM) (H : Heap) (locs : List Loc), INV (t + 1) x1 w1 → va_P g.1 cls (wS g A x1 ++ wT g B w1) H → va_D A0 (wS g A x1 ++ wT g B w1) → va_S A0 s.heap H locs → ∀ ls : Array Slot, lv_has ls 4 [(0, .ref sb), (1, .ref (A 0)), (2, .ref (B 0)), (3, .int (nI (4 * t)))] → W p l e room_1 s m args below meth c H locs cells slots Q (F0 m 538 ls []))
    (HX : Heap) (oX : List Loc) (lsX : Array Slot) (zl : lv_has lsX 4 [(0, .ref sb), (1, .ref (A 0)), (2, .ref (B 0)), (3, .int (nI (4 * t)))]) (zP : va_P g.1 cls (wS g A x ++ wT g B w) HX) (zD : va_D A0 (wS g A x ++ wT g B w)) (zS : va_S A0 s.heap HX oX) : W p l e room_1 s m args below meth c HX oX cells slots Q (F0 m 194 lsX []) := by
  obtain ⟨r, x1, w1, hX1, ⟨d1, z1, hd1, hz1, hM1⟩, hI1⟩ := S_abort l g A B (by omega) hI (xs (4 * t + 1))
  refine lv_aload_n zx zb d_Law_194 rfl (lv_at zl 1 rfl) ?_
  refine lv_aload_n zx zb d_Law_195 rfl (lv_at zl 0 rfl) ?_
  refine lv_iload_n zx zb d_Law_196 rfl (lv_at zl 3 rfl) ?_
  refine lv_iconst (v := nI 1) zx zb d_Law_197 (by decide) ?_
  refine wv_iadd zx zb d_Law_198 (nI_add _ _) ?_
  refine wv_sld zx zb zX zbl zbA zS (by omega) hL d_Law_199 ?_
  refine lw_call (x' := x1) (w' := w) (rest := []) zx zb zm zo zg zK zP zD zS zA zl.1 (frL x x1 w hX1) ok_X_abort ov_X_abort ml_Law_23 (by decide) (by decide) (by decide) hcs 0 0 (wL_X g A B x w) rfl rfl rfl rfl (Nat.le_of_ble_eq_true rfl) d_Law_200 (fun HX oX zP zD zS => ?_)
  refine lv_aload_n zx zb d_Law_203 rfl (lv_at zl 2 rfl) ?_
  refine lv_aload_n zx zb d_Law_204 rfl (lv_at zl 0 rfl) ?_
  refine lv_iload_n zx zb d_Law_205 rfl (lv_at zl 3 rfl) ?_
  refine lv_iconst (v := nI 1) zx zb d_Law_206 (by decide) ?_
  refine wv_iadd zx zb d_Law_207 (nI_add _ _) ?_
  refine wv_sld zx zb zX zbl zbA zS (by omega) hL d_Law_208 ?_
  refine lw_call (x' := x1) (w' := w1) (rest := [.int r]) zx zb zm zo zg zK zP zD zS zA zl.1 (frR x1 w w1 hM1) ok_M_abort ov_M_abort ml_Law_26 hd1 hz1 (by decide) hcs 33 7 (wL_M g A B x1 w) rfl rfl rfl rfl (Nat.le_of_ble_eq_true rfl) d_Law_209 (fun HX oX zP zD zS => ?_)
  refine lv_icmp_eq (tgt := 538) zx zb d_Law_212 (by decide) (fun _ => ?_) (fun h => absurd rfl h)
  exact kk x1 w1 HX oX hI1 zP zD zS lsX zl
set_option maxRecDepth 20000 in
theorem law_get {p : Program} {l : Launch} {e : Env} {s : State} {m : MethodId} {args : Array Value} {below : List Frame} {meth : Method} {c : Code} {Q : State → Prop} {g : Gt} {A0 : Nat → Prop} {A B : Nat → Nat} {sb L : Nat} {xs : Nat → Int32} {cells slots : Nat} (zx : p.tables.exec = Jvm.exec) (zb : c.code = code) (zm : c.maxLocals = 4) (zo : s.vm.findClass "TornBackupsLaw" = some m.cls) (zg : ∀ w ∈ GW, w.before args s = true) (zK : KK g s) (zA : ∀ q, s.heap.size ≤ q → A0 q) (zX : va_X sb L xs s s.heap) (zbl : sb < s.heap.size) (zbA : ¬ A0 sb) (hL : L ≤ 2048) (hcs : cells ≤ room_1.cells ∧ slots ≤ room_1.slots) {x : SX} {w : SM} {t : Nat} (hI : INV t x w) (ht : 4 * t + 4 ≤ L)
    (kk : ∀ (x1 : SX) (w1 : SM) (H : Heap) (locs : List Loc), INV (t + 1) x1 w1 → va_P g.1 cls (wS g A x1 ++ wT g B w1) H → va_D A0 (wS g A x1 ++ wT g B w1) → va_S A0 s.heap H locs → ∀ ls : Array Slot, lv_has ls 4 [(0, .ref sb), (1, .ref (A 0)), (2, .ref (B 0)), (3, .int (nI (4 * t)))] → W p l e room_1 s m args below meth c H locs cells slots Q (F0 m 538 ls []))
    (HX : Heap) (oX : List Loc) (lsX : Array Slot) (zl : lv_has lsX 4 [(0, .ref sb), (1, .ref (A 0)), (2, .ref (B 0)), (3, .int (nI (4 * t)))]) (zP : va_P g.1 cls (wS g A x ++ wT g B w) HX) (zD : va_D A0 (wS g A x ++ wT g B w)) (zS : va_S A0 s.heap HX oX) : W p l e room_1 s m args below meth c HX oX cells slots Q (F0 m 217 lsX []) := by
  obtain ⟨r, x1, w1, hX1, ⟨d1, z1, hd1, hz1, hM1⟩, hI1⟩ := S_get l g A B (by omega) hI (xs (4 * t + 1))
  refine lv_aload_n zx zb d_Law_217 rfl (lv_at zl 1 rfl) ?_
  refine lv_aload_n zx zb d_Law_218 rfl (lv_at zl 0 rfl) ?_
  refine lv_iload_n zx zb d_Law_219 rfl (lv_at zl 3 rfl) ?_
  refine lv_iconst (v := nI 1) zx zb d_Law_220 (by decide) ?_
  refine wv_iadd zx zb d_Law_221 (nI_add _ _) ?_
  refine wv_sld zx zb zX zbl zbA zS (by omega) hL d_Law_222 ?_
  refine lw_call (x' := x1) (w' := w) (rest := []) zx zb zm zo zg zK zP zD zS zA zl.1 (frL x x1 w hX1) ok_X_get ov_X_get ml_Law_27 (by decide) (by decide) (by decide) hcs 0 0 (wL_X g A B x w) rfl rfl rfl rfl (Nat.le_of_ble_eq_true rfl) d_Law_223 (fun HX oX zP zD zS => ?_)
  refine lv_aload_n zx zb d_Law_226 rfl (lv_at zl 2 rfl) ?_
  refine lv_aload_n zx zb d_Law_227 rfl (lv_at zl 0 rfl) ?_
  refine lv_iload_n zx zb d_Law_228 rfl (lv_at zl 3 rfl) ?_
  refine lv_iconst (v := nI 1) zx zb d_Law_229 (by decide) ?_
  refine wv_iadd zx zb d_Law_230 (nI_add _ _) ?_
  refine wv_sld zx zb zX zbl zbA zS (by omega) hL d_Law_231 ?_
  refine lw_call (x' := x1) (w' := w1) (rest := [.int r]) zx zb zm zo zg zK zP zD zS zA zl.1 (frR x1 w w1 hM1) ok_M_get ov_M_get ml_Law_30 hd1 hz1 (by decide) hcs 33 7 (wL_M g A B x1 w) rfl rfl rfl rfl (Nat.le_of_ble_eq_true rfl) d_Law_232 (fun HX oX zP zD zS => ?_)
  refine lv_icmp_eq (tgt := 538) zx zb d_Law_235 (by decide) (fun _ => ?_) (fun h => absurd rfl h)
  exact kk x1 w1 HX oX hI1 zP zD zS lsX zl
set_option maxRecDepth 20000 in
theorem law_sync {p : Program} {l : Launch} {e : Env} {s : State} {m : MethodId} {args : Array Value} {below : List Frame} {meth : Method} {c : Code} {Q : State → Prop} {g : Gt} {A0 : Nat → Prop} {A B : Nat → Nat} {sb L : Nat} {xs : Nat → Int32} {cells slots : Nat} (zx : p.tables.exec = Jvm.exec) (zb : c.code = code) (zm : c.maxLocals = 4) (zo : s.vm.findClass "TornBackupsLaw" = some m.cls) (zg : ∀ w ∈ GW, w.before args s = true) (zK : KK g s) (zA : ∀ q, s.heap.size ≤ q → A0 q) (zX : va_X sb L xs s s.heap) (zbl : sb < s.heap.size) (zbA : ¬ A0 sb) (hL : L ≤ 2048) (hcs : cells ≤ room_1.cells ∧ slots ≤ room_1.slots) {x : SX} {w : SM} {t : Nat} (hI : INV t x w) (ht : 4 * t + 4 ≤ L)
    (kk : ∀ (x1 : SX) (w1 : SM) (H : Heap) (locs : List Loc), INV (t + 1) x1 w1 → va_P g.1 cls (wS g A x1 ++ wT g B w1) H → va_D A0 (wS g A x1 ++ wT g B w1) → va_S A0 s.heap H locs → ∀ ls : Array Slot, lv_has ls 4 [(0, .ref sb), (1, .ref (A 0)), (2, .ref (B 0)), (3, .int (nI (4 * t)))] → W p l e room_1 s m args below meth c H locs cells slots Q (F0 m 538 ls []))
    (HX : Heap) (oX : List Loc) (lsX : Array Slot) (zl : lv_has lsX 4 [(0, .ref sb), (1, .ref (A 0)), (2, .ref (B 0)), (3, .int (nI (4 * t)))]) (zP : va_P g.1 cls (wS g A x ++ wT g B w) HX) (zD : va_D A0 (wS g A x ++ wT g B w)) (zS : va_S A0 s.heap HX oX) : W p l e room_1 s m args below meth c HX oX cells slots Q (F0 m 240 lsX []) := by
  obtain ⟨r, x1, w1, hX1, ⟨d1, z1, hd1, hz1, hM1⟩, hI1⟩ := S_sync l g A B (by omega) hI
  refine lv_aload_n zx zb d_Law_240 rfl (lv_at zl 1 rfl) ?_
  refine lw_call (x' := x1) (w' := w) (rest := []) zx zb zm zo zg zK zP zD zS zA zl.1 (frL x x1 w hX1) ok_X_sync ov_X_sync ml_Law_31 (by decide) (by decide) (by decide) hcs 0 0 (wL_X g A B x w) rfl rfl rfl rfl (Nat.le_of_ble_eq_true rfl) d_Law_241 (fun HX oX zP zD zS => ?_)
  refine lv_aload_n zx zb d_Law_244 rfl (lv_at zl 2 rfl) ?_
  refine lw_call (x' := x1) (w' := w1) (rest := [.int r]) zx zb zm zo zg zK zP zD zS zA zl.1 (frR x1 w w1 hM1) ok_M_sync ov_M_sync ml_Law_35 hd1 hz1 (by decide) hcs 33 7 (wL_M g A B x1 w) rfl rfl rfl rfl (Nat.le_of_ble_eq_true rfl) d_Law_245 (fun HX oX zP zD zS => ?_)
  refine lv_icmp_eq (tgt := 538) zx zb d_Law_248 (by decide) (fun _ => ?_) (fun h => absurd rfl h)
  exact kk x1 w1 HX oX hI1 zP zD zS lsX zl
set_option maxRecDepth 20000 in
theorem law_flush {p : Program} {l : Launch} {e : Env} {s : State} {m : MethodId} {args : Array Value} {below : List Frame} {meth : Method} {c : Code} {Q : State → Prop} {g : Gt} {A0 : Nat → Prop} {A B : Nat → Nat} {sb L : Nat} {xs : Nat → Int32} {cells slots : Nat} (zx : p.tables.exec = Jvm.exec) (zb : c.code = code) (zm : c.maxLocals = 4) (zo : s.vm.findClass "TornBackupsLaw" = some m.cls) (zg : ∀ w ∈ GW, w.before args s = true) (zK : KK g s) (zA : ∀ q, s.heap.size ≤ q → A0 q) (zX : va_X sb L xs s s.heap) (zbl : sb < s.heap.size) (zbA : ¬ A0 sb) (hL : L ≤ 2048) (hcs : cells ≤ room_1.cells ∧ slots ≤ room_1.slots) {x : SX} {w : SM} {t : Nat} (hI : INV t x w) (ht : 4 * t + 4 ≤ L)
    (kk : ∀ (x1 : SX) (w1 : SM) (H : Heap) (locs : List Loc), INV (t + 1) x1 w1 → va_P g.1 cls (wS g A x1 ++ wT g B w1) H → va_D A0 (wS g A x1 ++ wT g B w1) → va_S A0 s.heap H locs → ∀ ls : Array Slot, lv_has ls 4 [(0, .ref sb), (1, .ref (A 0)), (2, .ref (B 0)), (3, .int (nI (4 * t)))] → W p l e room_1 s m args below meth c H locs cells slots Q (F0 m 538 ls []))
    (HX : Heap) (oX : List Loc) (lsX : Array Slot) (zl : lv_has lsX 4 [(0, .ref sb), (1, .ref (A 0)), (2, .ref (B 0)), (3, .int (nI (4 * t)))]) (zP : va_P g.1 cls (wS g A x ++ wT g B w) HX) (zD : va_D A0 (wS g A x ++ wT g B w)) (zS : va_S A0 s.heap HX oX) : W p l e room_1 s m args below meth c HX oX cells slots Q (F0 m 253 lsX []) := by
  obtain ⟨r, x1, w1, hX1, ⟨d1, z1, hd1, hz1, hM1⟩, hI1⟩ := S_flush l g A B (by omega) hI (xs (4 * t + 1))
  refine lv_aload_n zx zb d_Law_253 rfl (lv_at zl 1 rfl) ?_
  refine lv_aload_n zx zb d_Law_254 rfl (lv_at zl 0 rfl) ?_
  refine lv_iload_n zx zb d_Law_255 rfl (lv_at zl 3 rfl) ?_
  refine lv_iconst (v := nI 1) zx zb d_Law_256 (by decide) ?_
  refine wv_iadd zx zb d_Law_257 (nI_add _ _) ?_
  refine wv_sld zx zb zX zbl zbA zS (by omega) hL d_Law_258 ?_
  refine lw_call (x' := x1) (w' := w) (rest := []) zx zb zm zo zg zK zP zD zS zA zl.1 (frL x x1 w hX1) ok_X_flush ov_X_flush ml_Law_36 (by decide) (by decide) (by decide) hcs 0 0 (wL_X g A B x w) rfl rfl rfl rfl (Nat.le_of_ble_eq_true rfl) d_Law_259 (fun HX oX zP zD zS => ?_)
  refine lv_aload_n zx zb d_Law_262 rfl (lv_at zl 2 rfl) ?_
  refine lv_aload_n zx zb d_Law_263 rfl (lv_at zl 0 rfl) ?_
  refine lv_iload_n zx zb d_Law_264 rfl (lv_at zl 3 rfl) ?_
  refine lv_iconst (v := nI 1) zx zb d_Law_265 (by decide) ?_
  refine wv_iadd zx zb d_Law_266 (nI_add _ _) ?_
  refine wv_sld zx zb zX zbl zbA zS (by omega) hL d_Law_267 ?_
  refine lw_call (x' := x1) (w' := w1) (rest := [.int r]) zx zb zm zo zg zK zP zD zS zA zl.1 (frR x1 w w1 hM1) ok_M_flush ov_M_flush ml_Law_39 hd1 hz1 (by decide) hcs 33 7 (wL_M g A B x1 w) rfl rfl rfl rfl (Nat.le_of_ble_eq_true rfl) d_Law_268 (fun HX oX zP zD zS => ?_)
  refine lv_icmp_eq (tgt := 538) zx zb d_Law_271 (by decide) (fun _ => ?_) (fun h => absurd rfl h)
  exact kk x1 w1 HX oX hI1 zP zD zS lsX zl
set_option maxRecDepth 20000 in
theorem law_checkpoint {p : Program} {l : Launch} {e : Env} {s : State} {m : MethodId} {args : Array Value} {below : List Frame} {meth : Method} {c : Code} {Q : State → Prop} {g : Gt} {A0 : Nat → Prop} {A B : Nat → Nat} {sb L : Nat} {xs : Nat → Int32} {cells slots : Nat} (zx : p.tables.exec = Jvm.exec) (zb : c.code = code) (zm : c.maxLocals = 4) (zo : s.vm.findClass "TornBackupsLaw" = some m.cls) (zg : ∀ w ∈ GW, w.before args s = true) (zK : KK g s) (zA : ∀ q, s.heap.size ≤ q → A0 q) (zX : va_X sb L xs s s.heap) (zbl : sb < s.heap.size) (zbA : ¬ A0 sb) (hL : L ≤ 2048) (hcs : cells ≤ room_1.cells ∧ slots ≤ room_1.slots) {x : SX} {w : SM} {t : Nat} (hI : INV t x w) (ht : 4 * t + 4 ≤ L)
    (kk : ∀ (x1 : SX) (w1 : SM) (H : Heap) (locs : List Loc), INV (t + 1) x1 w1 → va_P g.1 cls (wS g A x1 ++ wT g B w1) H → va_D A0 (wS g A x1 ++ wT g B w1) → va_S A0 s.heap H locs → ∀ ls : Array Slot, lv_has ls 4 [(0, .ref sb), (1, .ref (A 0)), (2, .ref (B 0)), (3, .int (nI (4 * t)))] → W p l e room_1 s m args below meth c H locs cells slots Q (F0 m 538 ls []))
    (HX : Heap) (oX : List Loc) (lsX : Array Slot) (zl : lv_has lsX 4 [(0, .ref sb), (1, .ref (A 0)), (2, .ref (B 0)), (3, .int (nI (4 * t)))]) (zP : va_P g.1 cls (wS g A x ++ wT g B w) HX) (zD : va_D A0 (wS g A x ++ wT g B w)) (zS : va_S A0 s.heap HX oX) : W p l e room_1 s m args below meth c HX oX cells slots Q (F0 m 276 lsX []) := by
  obtain ⟨r, x1, w1, hX1, ⟨d1, z1, hd1, hz1, hM1⟩, hI1⟩ := S_checkpoint l g A B (by omega) hI
  refine lv_aload_n zx zb d_Law_276 rfl (lv_at zl 1 rfl) ?_
  refine lw_call (x' := x1) (w' := w) (rest := []) zx zb zm zo zg zK zP zD zS zA zl.1 (frL x x1 w hX1) ok_X_checkpoint ov_X_checkpoint ml_Law_40 (by decide) (by decide) (by decide) hcs 0 0 (wL_X g A B x w) rfl rfl rfl rfl (Nat.le_of_ble_eq_true rfl) d_Law_277 (fun HX oX zP zD zS => ?_)
  refine lv_aload_n zx zb d_Law_280 rfl (lv_at zl 2 rfl) ?_
  refine lw_call (x' := x1) (w' := w1) (rest := [.int r]) zx zb zm zo zg zK zP zD zS zA zl.1 (frR x1 w w1 hM1) ok_M_checkpoint ov_M_checkpoint ml_Law_43 hd1 hz1 (by decide) hcs 33 7 (wL_M g A B x1 w) rfl rfl rfl rfl (Nat.le_of_ble_eq_true rfl) d_Law_281 (fun HX oX zP zD zS => ?_)
  refine lv_icmp_eq (tgt := 538) zx zb d_Law_284 (by decide) (fun _ => ?_) (fun h => absurd rfl h)
  exact kk x1 w1 HX oX hI1 zP zD zS lsX zl
set_option maxRecDepth 20000 in
theorem law_crash {p : Program} {l : Launch} {e : Env} {s : State} {m : MethodId} {args : Array Value} {below : List Frame} {meth : Method} {c : Code} {Q : State → Prop} {g : Gt} {A0 : Nat → Prop} {A B : Nat → Nat} {sb L : Nat} {xs : Nat → Int32} {cells slots : Nat} (zx : p.tables.exec = Jvm.exec) (zb : c.code = code) (zm : c.maxLocals = 4) (zo : s.vm.findClass "TornBackupsLaw" = some m.cls) (zg : ∀ w ∈ GW, w.before args s = true) (zK : KK g s) (zA : ∀ q, s.heap.size ≤ q → A0 q) (zX : va_X sb L xs s s.heap) (zbl : sb < s.heap.size) (zbA : ¬ A0 sb) (hL : L ≤ 2048) (hcs : cells ≤ room_1.cells ∧ slots ≤ room_1.slots) {x : SX} {w : SM} {t : Nat} (hI : INV t x w) (ht : 4 * t + 4 ≤ L)
    (kk : ∀ (x1 : SX) (w1 : SM) (H : Heap) (locs : List Loc), INV (t + 1) x1 w1 → va_P g.1 cls (wS g A x1 ++ wT g B w1) H → va_D A0 (wS g A x1 ++ wT g B w1) → va_S A0 s.heap H locs → ∀ ls : Array Slot, lv_has ls 4 [(0, .ref sb), (1, .ref (A 0)), (2, .ref (B 0)), (3, .int (nI (4 * t)))] → W p l e room_1 s m args below meth c H locs cells slots Q (F0 m 538 ls []))
    (HX : Heap) (oX : List Loc) (lsX : Array Slot) (zl : lv_has lsX 4 [(0, .ref sb), (1, .ref (A 0)), (2, .ref (B 0)), (3, .int (nI (4 * t)))]) (zP : va_P g.1 cls (wS g A x ++ wT g B w) HX) (zD : va_D A0 (wS g A x ++ wT g B w)) (zS : va_S A0 s.heap HX oX) : W p l e room_1 s m args below meth c HX oX cells slots Q (F0 m 289 lsX []) := by
  obtain ⟨r, x1, w1, hX1, ⟨d1, z1, hd1, hz1, hM1⟩, hI1⟩ := S_crash l g A B (by omega) hI
  refine lv_aload_n zx zb d_Law_289 rfl (lv_at zl 1 rfl) ?_
  refine lw_call (x' := x1) (w' := w) (rest := []) zx zb zm zo zg zK zP zD zS zA zl.1 (frL x x1 w hX1) ok_X_crash ov_X_crash ml_Law_44 (by decide) (by decide) (by decide) hcs 0 0 (wL_X g A B x w) rfl rfl rfl rfl (Nat.le_of_ble_eq_true rfl) d_Law_290 (fun HX oX zP zD zS => ?_)
  refine lv_aload_n zx zb d_Law_293 rfl (lv_at zl 2 rfl) ?_
  refine lw_call (x' := x1) (w' := w1) (rest := [.int r]) zx zb zm zo zg zK zP zD zS zA zl.1 (frR x1 w w1 hM1) ok_M_crash ov_M_crash ml_Law_47 hd1 hz1 (by decide) hcs 33 7 (wL_M g A B x1 w) rfl rfl rfl rfl (Nat.le_of_ble_eq_true rfl) d_Law_294 (fun HX oX zP zD zS => ?_)
  refine lv_icmp_eq (tgt := 538) zx zb d_Law_297 (by decide) (fun _ => ?_) (fun h => absurd rfl h)
  exact kk x1 w1 HX oX hI1 zP zD zS lsX zl
set_option maxRecDepth 20000 in
theorem law_backup {p : Program} {l : Launch} {e : Env} {s : State} {m : MethodId} {args : Array Value} {below : List Frame} {meth : Method} {c : Code} {Q : State → Prop} {g : Gt} {A0 : Nat → Prop} {A B : Nat → Nat} {sb L : Nat} {xs : Nat → Int32} {cells slots : Nat} (zx : p.tables.exec = Jvm.exec) (zb : c.code = code) (zm : c.maxLocals = 4) (zo : s.vm.findClass "TornBackupsLaw" = some m.cls) (zg : ∀ w ∈ GW, w.before args s = true) (zK : KK g s) (zA : ∀ q, s.heap.size ≤ q → A0 q) (zX : va_X sb L xs s s.heap) (zbl : sb < s.heap.size) (zbA : ¬ A0 sb) (hL : L ≤ 2048) (hcs : cells ≤ room_1.cells ∧ slots ≤ room_1.slots) {x : SX} {w : SM} {t : Nat} (hI : INV t x w) (ht : 4 * t + 4 ≤ L)
    (kk : ∀ (x1 : SX) (w1 : SM) (H : Heap) (locs : List Loc), INV (t + 1) x1 w1 → va_P g.1 cls (wS g A x1 ++ wT g B w1) H → va_D A0 (wS g A x1 ++ wT g B w1) → va_S A0 s.heap H locs → ∀ ls : Array Slot, lv_has ls 4 [(0, .ref sb), (1, .ref (A 0)), (2, .ref (B 0)), (3, .int (nI (4 * t)))] → W p l e room_1 s m args below meth c H locs cells slots Q (F0 m 538 ls []))
    (HX : Heap) (oX : List Loc) (lsX : Array Slot) (zl : lv_has lsX 4 [(0, .ref sb), (1, .ref (A 0)), (2, .ref (B 0)), (3, .int (nI (4 * t)))]) (zP : va_P g.1 cls (wS g A x ++ wT g B w) HX) (zD : va_D A0 (wS g A x ++ wT g B w)) (zS : va_S A0 s.heap HX oX) : W p l e room_1 s m args below meth c HX oX cells slots Q (F0 m 302 lsX []) := by
  obtain ⟨r, x1, w1, hX1, ⟨d1, z1, hd1, hz1, hM1⟩, hI1⟩ := S_backup l g A B (by omega) hI
  refine lv_aload_n zx zb d_Law_302 rfl (lv_at zl 1 rfl) ?_
  refine lw_call (x' := x1) (w' := w) (rest := []) zx zb zm zo zg zK zP zD zS zA zl.1 (frL x x1 w hX1) ok_X_backup ov_X_backup ml_Law_48 (by decide) (by decide) (by decide) hcs 0 0 (wL_X g A B x w) rfl rfl rfl rfl (Nat.le_of_ble_eq_true rfl) d_Law_303 (fun HX oX zP zD zS => ?_)
  refine lv_aload_n zx zb d_Law_306 rfl (lv_at zl 2 rfl) ?_
  refine lw_call (x' := x1) (w' := w1) (rest := [.int r]) zx zb zm zo zg zK zP zD zS zA zl.1 (frR x1 w w1 hM1) ok_M_backup ov_M_backup ml_Law_51 hd1 hz1 (by decide) hcs 33 7 (wL_M g A B x1 w) rfl rfl rfl rfl (Nat.le_of_ble_eq_true rfl) d_Law_307 (fun HX oX zP zD zS => ?_)
  refine lv_icmp_eq (tgt := 538) zx zb d_Law_310 (by decide) (fun _ => ?_) (fun h => absurd rfl h)
  exact kk x1 w1 HX oX hI1 zP zD zS lsX zl
set_option maxRecDepth 20000 in
theorem law_copy {p : Program} {l : Launch} {e : Env} {s : State} {m : MethodId} {args : Array Value} {below : List Frame} {meth : Method} {c : Code} {Q : State → Prop} {g : Gt} {A0 : Nat → Prop} {A B : Nat → Nat} {sb L : Nat} {xs : Nat → Int32} {cells slots : Nat} (zx : p.tables.exec = Jvm.exec) (zb : c.code = code) (zm : c.maxLocals = 4) (zo : s.vm.findClass "TornBackupsLaw" = some m.cls) (zg : ∀ w ∈ GW, w.before args s = true) (zK : KK g s) (zA : ∀ q, s.heap.size ≤ q → A0 q) (zX : va_X sb L xs s s.heap) (zbl : sb < s.heap.size) (zbA : ¬ A0 sb) (hL : L ≤ 2048) (hcs : cells ≤ room_1.cells ∧ slots ≤ room_1.slots) {x : SX} {w : SM} {t : Nat} (hI : INV t x w) (ht : 4 * t + 4 ≤ L)
    (kk : ∀ (x1 : SX) (w1 : SM) (H : Heap) (locs : List Loc), INV (t + 1) x1 w1 → va_P g.1 cls (wS g A x1 ++ wT g B w1) H → va_D A0 (wS g A x1 ++ wT g B w1) → va_S A0 s.heap H locs → ∀ ls : Array Slot, lv_has ls 4 [(0, .ref sb), (1, .ref (A 0)), (2, .ref (B 0)), (3, .int (nI (4 * t)))] → W p l e room_1 s m args below meth c H locs cells slots Q (F0 m 538 ls []))
    (HX : Heap) (oX : List Loc) (lsX : Array Slot) (zl : lv_has lsX 4 [(0, .ref sb), (1, .ref (A 0)), (2, .ref (B 0)), (3, .int (nI (4 * t)))]) (zP : va_P g.1 cls (wS g A x ++ wT g B w) HX) (zD : va_D A0 (wS g A x ++ wT g B w)) (zS : va_S A0 s.heap HX oX) : W p l e room_1 s m args below meth c HX oX cells slots Q (F0 m 315 lsX []) := by
  obtain ⟨r, x1, w1, hX1, ⟨d1, z1, hd1, hz1, hM1⟩, hI1⟩ := S_copy l g A B (by omega) hI
  refine lv_aload_n zx zb d_Law_315 rfl (lv_at zl 1 rfl) ?_
  refine lw_call (x' := x1) (w' := w) (rest := []) zx zb zm zo zg zK zP zD zS zA zl.1 (frL x x1 w hX1) ok_X_copy ov_X_copy ml_Law_52 (by decide) (by decide) (by decide) hcs 0 0 (wL_X g A B x w) rfl rfl rfl rfl (Nat.le_of_ble_eq_true rfl) d_Law_316 (fun HX oX zP zD zS => ?_)
  refine lv_aload_n zx zb d_Law_319 rfl (lv_at zl 2 rfl) ?_
  refine lw_call (x' := x1) (w' := w1) (rest := [.int r]) zx zb zm zo zg zK zP zD zS zA zl.1 (frR x1 w w1 hM1) ok_M_copy ov_M_copy ml_Law_55 hd1 hz1 (by decide) hcs 33 7 (wL_M g A B x1 w) rfl rfl rfl rfl (Nat.le_of_ble_eq_true rfl) d_Law_320 (fun HX oX zP zD zS => ?_)
  refine lv_icmp_eq (tgt := 538) zx zb d_Law_323 (by decide) (fun _ => ?_) (fun h => absurd rfl h)
  exact kk x1 w1 HX oX hI1 zP zD zS lsX zl
set_option maxRecDepth 20000 in
theorem law_forget {p : Program} {l : Launch} {e : Env} {s : State} {m : MethodId} {args : Array Value} {below : List Frame} {meth : Method} {c : Code} {Q : State → Prop} {g : Gt} {A0 : Nat → Prop} {A B : Nat → Nat} {sb L : Nat} {xs : Nat → Int32} {cells slots : Nat} (zx : p.tables.exec = Jvm.exec) (zb : c.code = code) (zm : c.maxLocals = 4) (zo : s.vm.findClass "TornBackupsLaw" = some m.cls) (zg : ∀ w ∈ GW, w.before args s = true) (zK : KK g s) (zA : ∀ q, s.heap.size ≤ q → A0 q) (zX : va_X sb L xs s s.heap) (zbl : sb < s.heap.size) (zbA : ¬ A0 sb) (hL : L ≤ 2048) (hcs : cells ≤ room_1.cells ∧ slots ≤ room_1.slots) {x : SX} {w : SM} {t : Nat} (hI : INV t x w) (ht : 4 * t + 4 ≤ L)
    (kk : ∀ (x1 : SX) (w1 : SM) (H : Heap) (locs : List Loc), INV (t + 1) x1 w1 → va_P g.1 cls (wS g A x1 ++ wT g B w1) H → va_D A0 (wS g A x1 ++ wT g B w1) → va_S A0 s.heap H locs → ∀ ls : Array Slot, lv_has ls 4 [(0, .ref sb), (1, .ref (A 0)), (2, .ref (B 0)), (3, .int (nI (4 * t)))] → W p l e room_1 s m args below meth c H locs cells slots Q (F0 m 538 ls []))
    (HX : Heap) (oX : List Loc) (lsX : Array Slot) (zl : lv_has lsX 4 [(0, .ref sb), (1, .ref (A 0)), (2, .ref (B 0)), (3, .int (nI (4 * t)))]) (zP : va_P g.1 cls (wS g A x ++ wT g B w) HX) (zD : va_D A0 (wS g A x ++ wT g B w)) (zS : va_S A0 s.heap HX oX) : W p l e room_1 s m args below meth c HX oX cells slots Q (F0 m 328 lsX []) := by
  obtain ⟨r, x1, w1, hX1, ⟨d1, z1, hd1, hz1, hM1⟩, hI1⟩ := S_forget l g A B (by omega) hI (xs (4 * t + 1))
  refine lv_aload_n zx zb d_Law_328 rfl (lv_at zl 1 rfl) ?_
  refine lv_aload_n zx zb d_Law_329 rfl (lv_at zl 0 rfl) ?_
  refine lv_iload_n zx zb d_Law_330 rfl (lv_at zl 3 rfl) ?_
  refine lv_iconst (v := nI 1) zx zb d_Law_331 (by decide) ?_
  refine wv_iadd zx zb d_Law_332 (nI_add _ _) ?_
  refine wv_sld zx zb zX zbl zbA zS (by omega) hL d_Law_333 ?_
  refine lw_call (x' := x1) (w' := w) (rest := []) zx zb zm zo zg zK zP zD zS zA zl.1 (frL x x1 w hX1) ok_X_forget ov_X_forget ml_Law_56 (by decide) (by decide) (by decide) hcs 0 0 (wL_X g A B x w) rfl rfl rfl rfl (Nat.le_of_ble_eq_true rfl) d_Law_334 (fun HX oX zP zD zS => ?_)
  refine lv_aload_n zx zb d_Law_337 rfl (lv_at zl 2 rfl) ?_
  refine lv_aload_n zx zb d_Law_338 rfl (lv_at zl 0 rfl) ?_
  refine lv_iload_n zx zb d_Law_339 rfl (lv_at zl 3 rfl) ?_
  refine lv_iconst (v := nI 1) zx zb d_Law_340 (by decide) ?_
  refine wv_iadd zx zb d_Law_341 (nI_add _ _) ?_
  refine wv_sld zx zb zX zbl zbA zS (by omega) hL d_Law_342 ?_
  refine lw_call (x' := x1) (w' := w1) (rest := [.int r]) zx zb zm zo zg zK zP zD zS zA zl.1 (frR x1 w w1 hM1) ok_M_forget ov_M_forget ml_Law_60 hd1 hz1 (by decide) hcs 33 7 (wL_M g A B x1 w) rfl rfl rfl rfl (Nat.le_of_ble_eq_true rfl) d_Law_343 (fun HX oX zP zD zS => ?_)
  refine lv_icmp_eq (tgt := 538) zx zb d_Law_346 (by decide) (fun _ => ?_) (fun h => absurd rfl h)
  exact kk x1 w1 HX oX hI1 zP zD zS lsX zl
set_option maxRecDepth 20000 in
theorem law_bound {p : Program} {l : Launch} {e : Env} {s : State} {m : MethodId} {args : Array Value} {below : List Frame} {meth : Method} {c : Code} {Q : State → Prop} {g : Gt} {A0 : Nat → Prop} {A B : Nat → Nat} {sb L : Nat} {xs : Nat → Int32} {cells slots : Nat} (zx : p.tables.exec = Jvm.exec) (zb : c.code = code) (zm : c.maxLocals = 4) (zo : s.vm.findClass "TornBackupsLaw" = some m.cls) (zg : ∀ w ∈ GW, w.before args s = true) (zK : KK g s) (zA : ∀ q, s.heap.size ≤ q → A0 q) (zX : va_X sb L xs s s.heap) (zbl : sb < s.heap.size) (zbA : ¬ A0 sb) (hL : L ≤ 2048) (hcs : cells ≤ room_1.cells ∧ slots ≤ room_1.slots) {x : SX} {w : SM} {t : Nat} (hI : INV t x w) (ht : 4 * t + 4 ≤ L)
    (kk : ∀ (x1 : SX) (w1 : SM) (H : Heap) (locs : List Loc), INV (t + 1) x1 w1 → va_P g.1 cls (wS g A x1 ++ wT g B w1) H → va_D A0 (wS g A x1 ++ wT g B w1) → va_S A0 s.heap H locs → ∀ ls : Array Slot, lv_has ls 4 [(0, .ref sb), (1, .ref (A 0)), (2, .ref (B 0)), (3, .int (nI (4 * t)))] → W p l e room_1 s m args below meth c H locs cells slots Q (F0 m 538 ls []))
    (HX : Heap) (oX : List Loc) (lsX : Array Slot) (zl : lv_has lsX 4 [(0, .ref sb), (1, .ref (A 0)), (2, .ref (B 0)), (3, .int (nI (4 * t)))]) (zP : va_P g.1 cls (wS g A x ++ wT g B w) HX) (zD : va_D A0 (wS g A x ++ wT g B w)) (zS : va_S A0 s.heap HX oX) : W p l e room_1 s m args below meth c HX oX cells slots Q (F0 m 351 lsX []) := by
  obtain ⟨r, x1, w1, hX1, ⟨d1, z1, hd1, hz1, hM1⟩, hI1⟩ := S_bound l g A B (by omega) hI (xs (4 * t + 1)) (xs (4 * t + 2))
  refine lv_aload_n zx zb d_Law_351 rfl (lv_at zl 1 rfl) ?_
  refine lv_aload_n zx zb d_Law_352 rfl (lv_at zl 0 rfl) ?_
  refine lv_iload_n zx zb d_Law_353 rfl (lv_at zl 3 rfl) ?_
  refine lv_iconst (v := nI 1) zx zb d_Law_354 (by decide) ?_
  refine wv_iadd zx zb d_Law_355 (nI_add _ _) ?_
  refine wv_sld zx zb zX zbl zbA zS (by omega) hL d_Law_356 ?_
  refine lv_aload_n zx zb d_Law_357 rfl (lv_at zl 0 rfl) ?_
  refine lv_iload_n zx zb d_Law_358 rfl (lv_at zl 3 rfl) ?_
  refine lv_iconst (v := nI 2) zx zb d_Law_359 (by decide) ?_
  refine wv_iadd zx zb d_Law_360 (nI_add _ _) ?_
  refine wv_sld zx zb zX zbl zbA zS (by omega) hL d_Law_361 ?_
  refine lw_call (x' := x1) (w' := w) (rest := []) zx zb zm zo zg zK zP zD zS zA zl.1 (frL x x1 w hX1) ok_X_bound ov_X_bound ml_Law_61 (by decide) (by decide) (by decide) hcs 0 0 (wL_X g A B x w) rfl rfl rfl rfl (Nat.le_of_ble_eq_true rfl) d_Law_362 (fun HX oX zP zD zS => ?_)
  refine lv_aload_n zx zb d_Law_365 rfl (lv_at zl 2 rfl) ?_
  refine lv_aload_n zx zb d_Law_366 rfl (lv_at zl 0 rfl) ?_
  refine lv_iload_n zx zb d_Law_367 rfl (lv_at zl 3 rfl) ?_
  refine lv_iconst (v := nI 1) zx zb d_Law_368 (by decide) ?_
  refine wv_iadd zx zb d_Law_369 (nI_add _ _) ?_
  refine wv_sld zx zb zX zbl zbA zS (by omega) hL d_Law_370 ?_
  refine lv_aload_n zx zb d_Law_371 rfl (lv_at zl 0 rfl) ?_
  refine lv_iload_n zx zb d_Law_372 rfl (lv_at zl 3 rfl) ?_
  refine lv_iconst (v := nI 2) zx zb d_Law_373 (by decide) ?_
  refine wv_iadd zx zb d_Law_374 (nI_add _ _) ?_
  refine wv_sld zx zb zX zbl zbA zS (by omega) hL d_Law_375 ?_
  refine lw_call (x' := x1) (w' := w1) (rest := [.int r]) zx zb zm zo zg zK zP zD zS zA zl.1 (frR x1 w w1 hM1) ok_M_bound ov_M_bound ml_Law_65 hd1 hz1 (by decide) hcs 33 7 (wL_M g A B x1 w) rfl rfl rfl rfl (Nat.le_of_ble_eq_true rfl) d_Law_376 (fun HX oX zP zD zS => ?_)
  refine lv_icmp_eq (tgt := 538) zx zb d_Law_379 (by decide) (fun _ => ?_) (fun h => absurd rfl h)
  exact kk x1 w1 HX oX hI1 zP zD zS lsX zl
set_option maxRecDepth 20000 in
theorem law_archive {p : Program} {l : Launch} {e : Env} {s : State} {m : MethodId} {args : Array Value} {below : List Frame} {meth : Method} {c : Code} {Q : State → Prop} {g : Gt} {A0 : Nat → Prop} {A B : Nat → Nat} {sb L : Nat} {xs : Nat → Int32} {cells slots : Nat} (zx : p.tables.exec = Jvm.exec) (zb : c.code = code) (zm : c.maxLocals = 4) (zo : s.vm.findClass "TornBackupsLaw" = some m.cls) (zg : ∀ w ∈ GW, w.before args s = true) (zK : KK g s) (zA : ∀ q, s.heap.size ≤ q → A0 q) (zX : va_X sb L xs s s.heap) (zbl : sb < s.heap.size) (zbA : ¬ A0 sb) (hL : L ≤ 2048) (hcs : cells ≤ room_1.cells ∧ slots ≤ room_1.slots) {x : SX} {w : SM} {t : Nat} (hI : INV t x w) (ht : 4 * t + 4 ≤ L)
    (kk : ∀ (x1 : SX) (w1 : SM) (H : Heap) (locs : List Loc), INV (t + 1) x1 w1 → va_P g.1 cls (wS g A x1 ++ wT g B w1) H → va_D A0 (wS g A x1 ++ wT g B w1) → va_S A0 s.heap H locs → ∀ ls : Array Slot, lv_has ls 4 [(0, .ref sb), (1, .ref (A 0)), (2, .ref (B 0)), (3, .int (nI (4 * t)))] → W p l e room_1 s m args below meth c H locs cells slots Q (F0 m 538 ls []))
    (HX : Heap) (oX : List Loc) (lsX : Array Slot) (zl : lv_has lsX 4 [(0, .ref sb), (1, .ref (A 0)), (2, .ref (B 0)), (3, .int (nI (4 * t)))]) (zP : va_P g.1 cls (wS g A x ++ wT g B w) HX) (zD : va_D A0 (wS g A x ++ wT g B w)) (zS : va_S A0 s.heap HX oX) : W p l e room_1 s m args below meth c HX oX cells slots Q (F0 m 384 lsX []) := by
  obtain ⟨r, x1, w1, hX1, ⟨d1, z1, hd1, hz1, hM1⟩, hI1⟩ := S_archive l g A B (by omega) hI
  refine lv_aload_n zx zb d_Law_384 rfl (lv_at zl 1 rfl) ?_
  refine lw_call (x' := x1) (w' := w) (rest := []) zx zb zm zo zg zK zP zD zS zA zl.1 (frL x x1 w hX1) ok_X_archive ov_X_archive ml_Law_66 (by decide) (by decide) (by decide) hcs 0 0 (wL_X g A B x w) rfl rfl rfl rfl (Nat.le_of_ble_eq_true rfl) d_Law_385 (fun HX oX zP zD zS => ?_)
  refine lv_aload_n zx zb d_Law_388 rfl (lv_at zl 2 rfl) ?_
  refine lw_call (x' := x1) (w' := w1) (rest := [.int r]) zx zb zm zo zg zK zP zD zS zA zl.1 (frR x1 w w1 hM1) ok_M_archive ov_M_archive ml_Law_69 hd1 hz1 (by decide) hcs 33 7 (wL_M g A B x1 w) rfl rfl rfl rfl (Nat.le_of_ble_eq_true rfl) d_Law_389 (fun HX oX zP zD zS => ?_)
  refine lv_icmp_eq (tgt := 538) zx zb d_Law_392 (by decide) (fun _ => ?_) (fun h => absurd rfl h)
  exact kk x1 w1 HX oX hI1 zP zD zS lsX zl
set_option maxRecDepth 20000 in
theorem law_drop {p : Program} {l : Launch} {e : Env} {s : State} {m : MethodId} {args : Array Value} {below : List Frame} {meth : Method} {c : Code} {Q : State → Prop} {g : Gt} {A0 : Nat → Prop} {A B : Nat → Nat} {sb L : Nat} {xs : Nat → Int32} {cells slots : Nat} (zx : p.tables.exec = Jvm.exec) (zb : c.code = code) (zm : c.maxLocals = 4) (zo : s.vm.findClass "TornBackupsLaw" = some m.cls) (zg : ∀ w ∈ GW, w.before args s = true) (zK : KK g s) (zA : ∀ q, s.heap.size ≤ q → A0 q) (zX : va_X sb L xs s s.heap) (zbl : sb < s.heap.size) (zbA : ¬ A0 sb) (hL : L ≤ 2048) (hcs : cells ≤ room_1.cells ∧ slots ≤ room_1.slots) {x : SX} {w : SM} {t : Nat} (hI : INV t x w) (ht : 4 * t + 4 ≤ L)
    (kk : ∀ (x1 : SX) (w1 : SM) (H : Heap) (locs : List Loc), INV (t + 1) x1 w1 → va_P g.1 cls (wS g A x1 ++ wT g B w1) H → va_D A0 (wS g A x1 ++ wT g B w1) → va_S A0 s.heap H locs → ∀ ls : Array Slot, lv_has ls 4 [(0, .ref sb), (1, .ref (A 0)), (2, .ref (B 0)), (3, .int (nI (4 * t)))] → W p l e room_1 s m args below meth c H locs cells slots Q (F0 m 538 ls []))
    (HX : Heap) (oX : List Loc) (lsX : Array Slot) (zl : lv_has lsX 4 [(0, .ref sb), (1, .ref (A 0)), (2, .ref (B 0)), (3, .int (nI (4 * t)))]) (zP : va_P g.1 cls (wS g A x ++ wT g B w) HX) (zD : va_D A0 (wS g A x ++ wT g B w)) (zS : va_S A0 s.heap HX oX) : W p l e room_1 s m args below meth c HX oX cells slots Q (F0 m 397 lsX []) := by
  obtain ⟨r, x1, w1, hX1, ⟨d1, z1, hd1, hz1, hM1⟩, hI1⟩ := S_drop l g A B (by omega) hI (xs (4 * t + 1))
  refine lv_aload_n zx zb d_Law_397 rfl (lv_at zl 1 rfl) ?_
  refine lv_aload_n zx zb d_Law_398 rfl (lv_at zl 0 rfl) ?_
  refine lv_iload_n zx zb d_Law_399 rfl (lv_at zl 3 rfl) ?_
  refine lv_iconst (v := nI 1) zx zb d_Law_400 (by decide) ?_
  refine wv_iadd zx zb d_Law_401 (nI_add _ _) ?_
  refine wv_sld zx zb zX zbl zbA zS (by omega) hL d_Law_402 ?_
  refine lw_call (x' := x1) (w' := w) (rest := []) zx zb zm zo zg zK zP zD zS zA zl.1 (frL x x1 w hX1) ok_X_drop ov_X_drop ml_Law_70 (by decide) (by decide) (by decide) hcs 0 0 (wL_X g A B x w) rfl rfl rfl rfl (Nat.le_of_ble_eq_true rfl) d_Law_403 (fun HX oX zP zD zS => ?_)
  refine lv_aload_n zx zb d_Law_406 rfl (lv_at zl 2 rfl) ?_
  refine lv_aload_n zx zb d_Law_407 rfl (lv_at zl 0 rfl) ?_
  refine lv_iload_n zx zb d_Law_408 rfl (lv_at zl 3 rfl) ?_
  refine lv_iconst (v := nI 1) zx zb d_Law_409 (by decide) ?_
  refine wv_iadd zx zb d_Law_410 (nI_add _ _) ?_
  refine wv_sld zx zb zX zbl zbA zS (by omega) hL d_Law_411 ?_
  refine lw_call (x' := x1) (w' := w1) (rest := [.int r]) zx zb zm zo zg zK zP zD zS zA zl.1 (frR x1 w w1 hM1) ok_M_drop ov_M_drop ml_Law_73 hd1 hz1 (by decide) hcs 33 7 (wL_M g A B x1 w) rfl rfl rfl rfl (Nat.le_of_ble_eq_true rfl) d_Law_412 (fun HX oX zP zD zS => ?_)
  refine lv_icmp_eq (tgt := 538) zx zb d_Law_415 (by decide) (fun _ => ?_) (fun h => absurd rfl h)
  exact kk x1 w1 HX oX hI1 zP zD zS lsX zl
set_option maxRecDepth 20000 in
theorem law_restore {p : Program} {l : Launch} {e : Env} {s : State} {m : MethodId} {args : Array Value} {below : List Frame} {meth : Method} {c : Code} {Q : State → Prop} {g : Gt} {A0 : Nat → Prop} {A B : Nat → Nat} {sb L : Nat} {xs : Nat → Int32} {cells slots : Nat} (zx : p.tables.exec = Jvm.exec) (zb : c.code = code) (zm : c.maxLocals = 4) (zo : s.vm.findClass "TornBackupsLaw" = some m.cls) (zg : ∀ w ∈ GW, w.before args s = true) (zK : KK g s) (zA : ∀ q, s.heap.size ≤ q → A0 q) (zX : va_X sb L xs s s.heap) (zbl : sb < s.heap.size) (zbA : ¬ A0 sb) (hL : L ≤ 2048) (hcs : cells ≤ room_1.cells ∧ slots ≤ room_1.slots) {x : SX} {w : SM} {t : Nat} (hI : INV t x w) (ht : 4 * t + 4 ≤ L)
    (kk : ∀ (x1 : SX) (w1 : SM) (H : Heap) (locs : List Loc), INV (t + 1) x1 w1 → va_P g.1 cls (wS g A x1 ++ wT g B w1) H → va_D A0 (wS g A x1 ++ wT g B w1) → va_S A0 s.heap H locs → ∀ ls : Array Slot, lv_has ls 4 [(0, .ref sb), (1, .ref (A 0)), (2, .ref (B 0)), (3, .int (nI (4 * t)))] → W p l e room_1 s m args below meth c H locs cells slots Q (F0 m 538 ls []))
    (HX : Heap) (oX : List Loc) (lsX : Array Slot) (zl : lv_has lsX 4 [(0, .ref sb), (1, .ref (A 0)), (2, .ref (B 0)), (3, .int (nI (4 * t)))]) (zP : va_P g.1 cls (wS g A x ++ wT g B w) HX) (zD : va_D A0 (wS g A x ++ wT g B w)) (zS : va_S A0 s.heap HX oX) : W p l e room_1 s m args below meth c HX oX cells slots Q (F0 m 420 lsX []) := by
  obtain ⟨r, x1, w1, hX1, ⟨d1, z1, hd1, hz1, hM1⟩, hI1⟩ := S_restore l g A B (by omega) hI (xs (4 * t + 1)) (xs (4 * t + 2))
  refine lv_aload_n zx zb d_Law_420 rfl (lv_at zl 1 rfl) ?_
  refine lv_aload_n zx zb d_Law_421 rfl (lv_at zl 0 rfl) ?_
  refine lv_iload_n zx zb d_Law_422 rfl (lv_at zl 3 rfl) ?_
  refine lv_iconst (v := nI 1) zx zb d_Law_423 (by decide) ?_
  refine wv_iadd zx zb d_Law_424 (nI_add _ _) ?_
  refine wv_sld zx zb zX zbl zbA zS (by omega) hL d_Law_425 ?_
  refine lv_aload_n zx zb d_Law_426 rfl (lv_at zl 0 rfl) ?_
  refine lv_iload_n zx zb d_Law_427 rfl (lv_at zl 3 rfl) ?_
  refine lv_iconst (v := nI 2) zx zb d_Law_428 (by decide) ?_
  refine wv_iadd zx zb d_Law_429 (nI_add _ _) ?_
  refine wv_sld zx zb zX zbl zbA zS (by omega) hL d_Law_430 ?_
  refine lw_call (x' := x1) (w' := w) (rest := []) zx zb zm zo zg zK zP zD zS zA zl.1 (frL x x1 w hX1) ok_X_restore ov_X_restore ml_Law_74 (by decide) (by decide) (by decide) hcs 0 0 (wL_X g A B x w) rfl rfl rfl rfl (Nat.le_of_ble_eq_true rfl) d_Law_431 (fun HX oX zP zD zS => ?_)
  refine lv_aload_n zx zb d_Law_434 rfl (lv_at zl 2 rfl) ?_
  refine lv_aload_n zx zb d_Law_435 rfl (lv_at zl 0 rfl) ?_
  refine lv_iload_n zx zb d_Law_436 rfl (lv_at zl 3 rfl) ?_
  refine lv_iconst (v := nI 1) zx zb d_Law_437 (by decide) ?_
  refine wv_iadd zx zb d_Law_438 (nI_add _ _) ?_
  refine wv_sld zx zb zX zbl zbA zS (by omega) hL d_Law_439 ?_
  refine lv_aload_n zx zb d_Law_440 rfl (lv_at zl 0 rfl) ?_
  refine lv_iload_n zx zb d_Law_441 rfl (lv_at zl 3 rfl) ?_
  refine lv_iconst (v := nI 2) zx zb d_Law_442 (by decide) ?_
  refine wv_iadd zx zb d_Law_443 (nI_add _ _) ?_
  refine wv_sld zx zb zX zbl zbA zS (by omega) hL d_Law_444 ?_
  refine lw_call (x' := x1) (w' := w1) (rest := [.int r]) zx zb zm zo zg zK zP zD zS zA zl.1 (frR x1 w w1 hM1) ok_M_restore ov_M_restore ml_Law_77 hd1 hz1 (by decide) hcs 33 7 (wL_M g A B x1 w) rfl rfl rfl rfl (Nat.le_of_ble_eq_true rfl) d_Law_445 (fun HX oX zP zD zS => ?_)
  refine lv_icmp_eq (tgt := 538) zx zb d_Law_448 (by decide) (fun _ => ?_) (fun h => absurd rfl h)
  exact kk x1 w1 HX oX hI1 zP zD zS lsX zl
set_option maxRecDepth 20000 in
theorem law_restored {p : Program} {l : Launch} {e : Env} {s : State} {m : MethodId} {args : Array Value} {below : List Frame} {meth : Method} {c : Code} {Q : State → Prop} {g : Gt} {A0 : Nat → Prop} {A B : Nat → Nat} {sb L : Nat} {xs : Nat → Int32} {cells slots : Nat} (zx : p.tables.exec = Jvm.exec) (zb : c.code = code) (zm : c.maxLocals = 4) (zo : s.vm.findClass "TornBackupsLaw" = some m.cls) (zg : ∀ w ∈ GW, w.before args s = true) (zK : KK g s) (zA : ∀ q, s.heap.size ≤ q → A0 q) (zX : va_X sb L xs s s.heap) (zbl : sb < s.heap.size) (zbA : ¬ A0 sb) (hL : L ≤ 2048) (hcs : cells ≤ room_1.cells ∧ slots ≤ room_1.slots) {x : SX} {w : SM} {t : Nat} (hI : INV t x w) (ht : 4 * t + 4 ≤ L)
    (kk : ∀ (x1 : SX) (w1 : SM) (H : Heap) (locs : List Loc), INV (t + 1) x1 w1 → va_P g.1 cls (wS g A x1 ++ wT g B w1) H → va_D A0 (wS g A x1 ++ wT g B w1) → va_S A0 s.heap H locs → ∀ ls : Array Slot, lv_has ls 4 [(0, .ref sb), (1, .ref (A 0)), (2, .ref (B 0)), (3, .int (nI (4 * t)))] → W p l e room_1 s m args below meth c H locs cells slots Q (F0 m 538 ls []))
    (HX : Heap) (oX : List Loc) (lsX : Array Slot) (zl : lv_has lsX 4 [(0, .ref sb), (1, .ref (A 0)), (2, .ref (B 0)), (3, .int (nI (4 * t)))]) (zP : va_P g.1 cls (wS g A x ++ wT g B w) HX) (zD : va_D A0 (wS g A x ++ wT g B w)) (zS : va_S A0 s.heap HX oX) : W p l e room_1 s m args below meth c HX oX cells slots Q (F0 m 453 lsX []) := by
  obtain ⟨r, x1, w1, hX1, ⟨d1, z1, hd1, hz1, hM1⟩, hI1⟩ := S_restored l g A B (by omega) hI (xs (4 * t + 1))
  refine lv_aload_n zx zb d_Law_453 rfl (lv_at zl 1 rfl) ?_
  refine lv_aload_n zx zb d_Law_454 rfl (lv_at zl 0 rfl) ?_
  refine lv_iload_n zx zb d_Law_455 rfl (lv_at zl 3 rfl) ?_
  refine lv_iconst (v := nI 1) zx zb d_Law_456 (by decide) ?_
  refine wv_iadd zx zb d_Law_457 (nI_add _ _) ?_
  refine wv_sld zx zb zX zbl zbA zS (by omega) hL d_Law_458 ?_
  refine lw_call (x' := x1) (w' := w) (rest := []) zx zb zm zo zg zK zP zD zS zA zl.1 (frL x x1 w hX1) ok_X_restored ov_X_restored ml_Law_78 (by decide) (by decide) (by decide) hcs 0 0 (wL_X g A B x w) rfl rfl rfl rfl (Nat.le_of_ble_eq_true rfl) d_Law_459 (fun HX oX zP zD zS => ?_)
  refine lv_aload_n zx zb d_Law_462 rfl (lv_at zl 2 rfl) ?_
  refine lv_aload_n zx zb d_Law_463 rfl (lv_at zl 0 rfl) ?_
  refine lv_iload_n zx zb d_Law_464 rfl (lv_at zl 3 rfl) ?_
  refine lv_iconst (v := nI 1) zx zb d_Law_465 (by decide) ?_
  refine wv_iadd zx zb d_Law_466 (nI_add _ _) ?_
  refine wv_sld zx zb zX zbl zbA zS (by omega) hL d_Law_467 ?_
  refine lw_call (x' := x1) (w' := w1) (rest := [.int r]) zx zb zm zo zg zK zP zD zS zA zl.1 (frR x1 w w1 hM1) ok_M_restored ov_M_restored ml_Law_81 hd1 hz1 (by decide) hcs 33 7 (wL_M g A B x1 w) rfl rfl rfl rfl (Nat.le_of_ble_eq_true rfl) d_Law_468 (fun HX oX zP zD zS => ?_)
  refine lv_icmp_eq (tgt := 538) zx zb d_Law_471 (by decide) (fun _ => ?_) (fun h => absurd rfl h)
  exact kk x1 w1 HX oX hI1 zP zD zS lsX zl
set_option maxRecDepth 20000 in
theorem law_replayed {p : Program} {l : Launch} {e : Env} {s : State} {m : MethodId} {args : Array Value} {below : List Frame} {meth : Method} {c : Code} {Q : State → Prop} {g : Gt} {A0 : Nat → Prop} {A B : Nat → Nat} {sb L : Nat} {xs : Nat → Int32} {cells slots : Nat} (zx : p.tables.exec = Jvm.exec) (zb : c.code = code) (zm : c.maxLocals = 4) (zo : s.vm.findClass "TornBackupsLaw" = some m.cls) (zg : ∀ w ∈ GW, w.before args s = true) (zK : KK g s) (zA : ∀ q, s.heap.size ≤ q → A0 q) (zX : va_X sb L xs s s.heap) (zbl : sb < s.heap.size) (zbA : ¬ A0 sb) (hL : L ≤ 2048) (hcs : cells ≤ room_1.cells ∧ slots ≤ room_1.slots) {x : SX} {w : SM} {t : Nat} (hI : INV t x w) (ht : 4 * t + 4 ≤ L)
    (kk : ∀ (x1 : SX) (w1 : SM) (H : Heap) (locs : List Loc), INV (t + 1) x1 w1 → va_P g.1 cls (wS g A x1 ++ wT g B w1) H → va_D A0 (wS g A x1 ++ wT g B w1) → va_S A0 s.heap H locs → ∀ ls : Array Slot, lv_has ls 4 [(0, .ref sb), (1, .ref (A 0)), (2, .ref (B 0)), (3, .int (nI (4 * t)))] → W p l e room_1 s m args below meth c H locs cells slots Q (F0 m 538 ls []))
    (HX : Heap) (oX : List Loc) (lsX : Array Slot) (zl : lv_has lsX 4 [(0, .ref sb), (1, .ref (A 0)), (2, .ref (B 0)), (3, .int (nI (4 * t)))]) (zP : va_P g.1 cls (wS g A x ++ wT g B w) HX) (zD : va_D A0 (wS g A x ++ wT g B w)) (zS : va_S A0 s.heap HX oX) : W p l e room_1 s m args below meth c HX oX cells slots Q (F0 m 476 lsX []) := by
  obtain ⟨r, x1, w1, hX1, ⟨d1, z1, hd1, hz1, hM1⟩, hI1⟩ := S_replayed l g A B (by omega) hI
  refine lv_aload_n zx zb d_Law_476 rfl (lv_at zl 1 rfl) ?_
  refine lw_call (x' := x1) (w' := w) (rest := []) zx zb zm zo zg zK zP zD zS zA zl.1 (frL x x1 w hX1) ok_X_replayed ov_X_replayed ml_Law_82 (by decide) (by decide) (by decide) hcs 0 0 (wL_X g A B x w) rfl rfl rfl rfl (Nat.le_of_ble_eq_true rfl) d_Law_477 (fun HX oX zP zD zS => ?_)
  refine lv_aload_n zx zb d_Law_480 rfl (lv_at zl 2 rfl) ?_
  refine lw_call (x' := x1) (w' := w1) (rest := [.int r]) zx zb zm zo zg zK zP zD zS zA zl.1 (frR x1 w w1 hM1) ok_M_replayed ov_M_replayed ml_Law_85 hd1 hz1 (by decide) hcs 33 7 (wL_M g A B x1 w) rfl rfl rfl rfl (Nat.le_of_ble_eq_true rfl) d_Law_481 (fun HX oX zP zD zS => ?_)
  refine lv_icmp_eq (tgt := 538) zx zb d_Law_484 (by decide) (fun _ => ?_) (fun h => absurd rfl h)
  exact kk x1 w1 HX oX hI1 zP zD zS lsX zl
set_option maxRecDepth 20000 in
theorem law_reach {p : Program} {l : Launch} {e : Env} {s : State} {m : MethodId} {args : Array Value} {below : List Frame} {meth : Method} {c : Code} {Q : State → Prop} {g : Gt} {A0 : Nat → Prop} {A B : Nat → Nat} {sb L : Nat} {xs : Nat → Int32} {cells slots : Nat} (zx : p.tables.exec = Jvm.exec) (zb : c.code = code) (zm : c.maxLocals = 4) (zo : s.vm.findClass "TornBackupsLaw" = some m.cls) (zg : ∀ w ∈ GW, w.before args s = true) (zK : KK g s) (zA : ∀ q, s.heap.size ≤ q → A0 q) (zX : va_X sb L xs s s.heap) (zbl : sb < s.heap.size) (zbA : ¬ A0 sb) (hL : L ≤ 2048) (hcs : cells ≤ room_1.cells ∧ slots ≤ room_1.slots) {x : SX} {w : SM} {t : Nat} (hI : INV t x w) (ht : 4 * t + 4 ≤ L)
    (kk : ∀ (x1 : SX) (w1 : SM) (H : Heap) (locs : List Loc), INV (t + 1) x1 w1 → va_P g.1 cls (wS g A x1 ++ wT g B w1) H → va_D A0 (wS g A x1 ++ wT g B w1) → va_S A0 s.heap H locs → ∀ ls : Array Slot, lv_has ls 4 [(0, .ref sb), (1, .ref (A 0)), (2, .ref (B 0)), (3, .int (nI (4 * t)))] → W p l e room_1 s m args below meth c H locs cells slots Q (F0 m 538 ls []))
    (HX : Heap) (oX : List Loc) (lsX : Array Slot) (zl : lv_has lsX 4 [(0, .ref sb), (1, .ref (A 0)), (2, .ref (B 0)), (3, .int (nI (4 * t)))]) (zP : va_P g.1 cls (wS g A x ++ wT g B w) HX) (zD : va_D A0 (wS g A x ++ wT g B w)) (zS : va_S A0 s.heap HX oX) : W p l e room_1 s m args below meth c HX oX cells slots Q (F0 m 489 lsX []) := by
  obtain ⟨r, x1, w1, hX1, ⟨d1, z1, hd1, hz1, hM1⟩, hI1⟩ := S_reach l g A B (by omega) hI (xs (4 * t + 1))
  refine lv_aload_n zx zb d_Law_489 rfl (lv_at zl 1 rfl) ?_
  refine lv_aload_n zx zb d_Law_490 rfl (lv_at zl 0 rfl) ?_
  refine lv_iload_n zx zb d_Law_491 rfl (lv_at zl 3 rfl) ?_
  refine lv_iconst (v := nI 1) zx zb d_Law_492 (by decide) ?_
  refine wv_iadd zx zb d_Law_493 (nI_add _ _) ?_
  refine wv_sld zx zb zX zbl zbA zS (by omega) hL d_Law_494 ?_
  refine lw_call (x' := x1) (w' := w) (rest := []) zx zb zm zo zg zK zP zD zS zA zl.1 (frL x x1 w hX1) ok_X_reach ov_X_reach ml_Law_86 (by decide) (by decide) (by decide) hcs 0 0 (wL_X g A B x w) rfl rfl rfl rfl (Nat.le_of_ble_eq_true rfl) d_Law_495 (fun HX oX zP zD zS => ?_)
  refine lv_aload_n zx zb d_Law_498 rfl (lv_at zl 2 rfl) ?_
  refine lv_aload_n zx zb d_Law_499 rfl (lv_at zl 0 rfl) ?_
  refine lv_iload_n zx zb d_Law_500 rfl (lv_at zl 3 rfl) ?_
  refine lv_iconst (v := nI 1) zx zb d_Law_501 (by decide) ?_
  refine wv_iadd zx zb d_Law_502 (nI_add _ _) ?_
  refine wv_sld zx zb zX zbl zbA zS (by omega) hL d_Law_503 ?_
  refine lw_call (x' := x1) (w' := w1) (rest := [.int r]) zx zb zm zo zg zK zP zD zS zA zl.1 (frR x1 w w1 hM1) ok_M_reach ov_M_reach ml_Law_89 hd1 hz1 (by decide) hcs 33 7 (wL_M g A B x1 w) rfl rfl rfl rfl (Nat.le_of_ble_eq_true rfl) d_Law_504 (fun HX oX zP zD zS => ?_)
  refine lv_icmp_eq (tgt := 538) zx zb d_Law_507 (by decide) (fun _ => ?_) (fun h => absurd rfl h)
  exact kk x1 w1 HX oX hI1 zP zD zS lsX zl
set_option maxRecDepth 20000 in
theorem law_position {p : Program} {l : Launch} {e : Env} {s : State} {m : MethodId} {args : Array Value} {below : List Frame} {meth : Method} {c : Code} {Q : State → Prop} {g : Gt} {A0 : Nat → Prop} {A B : Nat → Nat} {sb L : Nat} {xs : Nat → Int32} {cells slots : Nat} (zx : p.tables.exec = Jvm.exec) (zb : c.code = code) (zm : c.maxLocals = 4) (zo : s.vm.findClass "TornBackupsLaw" = some m.cls) (zg : ∀ w ∈ GW, w.before args s = true) (zK : KK g s) (zA : ∀ q, s.heap.size ≤ q → A0 q) (zX : va_X sb L xs s s.heap) (zbl : sb < s.heap.size) (zbA : ¬ A0 sb) (hL : L ≤ 2048) (hcs : cells ≤ room_1.cells ∧ slots ≤ room_1.slots) {x : SX} {w : SM} {t : Nat} (hI : INV t x w) (ht : 4 * t + 4 ≤ L)
    (kk : ∀ (x1 : SX) (w1 : SM) (H : Heap) (locs : List Loc), INV (t + 1) x1 w1 → va_P g.1 cls (wS g A x1 ++ wT g B w1) H → va_D A0 (wS g A x1 ++ wT g B w1) → va_S A0 s.heap H locs → ∀ ls : Array Slot, lv_has ls 4 [(0, .ref sb), (1, .ref (A 0)), (2, .ref (B 0)), (3, .int (nI (4 * t)))] → W p l e room_1 s m args below meth c H locs cells slots Q (F0 m 538 ls []))
    (HX : Heap) (oX : List Loc) (lsX : Array Slot) (zl : lv_has lsX 4 [(0, .ref sb), (1, .ref (A 0)), (2, .ref (B 0)), (3, .int (nI (4 * t)))]) (zP : va_P g.1 cls (wS g A x ++ wT g B w) HX) (zD : va_D A0 (wS g A x ++ wT g B w)) (zS : va_S A0 s.heap HX oX) : W p l e room_1 s m args below meth c HX oX cells slots Q (F0 m 512 lsX []) := by
  obtain ⟨r, x1, w1, hX1, ⟨d1, z1, hd1, hz1, hM1⟩, hI1⟩ := S_position l g A B (by omega) hI
  refine lv_aload_n zx zb d_Law_512 rfl (lv_at zl 1 rfl) ?_
  refine lw_call (x' := x1) (w' := w) (rest := []) zx zb zm zo zg zK zP zD zS zA zl.1 (frL x x1 w hX1) ok_X_position ov_X_position ml_Law_90 (by decide) (by decide) (by decide) hcs 0 0 (wL_X g A B x w) rfl rfl rfl rfl (Nat.le_of_ble_eq_true rfl) d_Law_513 (fun HX oX zP zD zS => ?_)
  refine lv_aload_n zx zb d_Law_516 rfl (lv_at zl 2 rfl) ?_
  refine lw_call (x' := x1) (w' := w1) (rest := [.int r]) zx zb zm zo zg zK zP zD zS zA zl.1 (frR x1 w w1 hM1) ok_M_position ov_M_position ml_Law_93 hd1 hz1 (by decide) hcs 33 7 (wL_M g A B x1 w) rfl rfl rfl rfl (Nat.le_of_ble_eq_true rfl) d_Law_517 (fun HX oX zP zD zS => ?_)
  refine lv_icmp_eq (tgt := 538) zx zb d_Law_520 (by decide) (fun _ => ?_) (fun h => absurd rfl h)
  exact kk x1 w1 HX oX hI1 zP zD zS lsX zl
set_option maxRecDepth 20000 in
theorem law_dirty {p : Program} {l : Launch} {e : Env} {s : State} {m : MethodId} {args : Array Value} {below : List Frame} {meth : Method} {c : Code} {Q : State → Prop} {g : Gt} {A0 : Nat → Prop} {A B : Nat → Nat} {sb L : Nat} {xs : Nat → Int32} {cells slots : Nat} (zx : p.tables.exec = Jvm.exec) (zb : c.code = code) (zm : c.maxLocals = 4) (zo : s.vm.findClass "TornBackupsLaw" = some m.cls) (zg : ∀ w ∈ GW, w.before args s = true) (zK : KK g s) (zA : ∀ q, s.heap.size ≤ q → A0 q) (zX : va_X sb L xs s s.heap) (zbl : sb < s.heap.size) (zbA : ¬ A0 sb) (hL : L ≤ 2048) (hcs : cells ≤ room_1.cells ∧ slots ≤ room_1.slots) {x : SX} {w : SM} {t : Nat} (hI : INV t x w) (ht : 4 * t + 4 ≤ L)
    (kk : ∀ (x1 : SX) (w1 : SM) (H : Heap) (locs : List Loc), INV (t + 1) x1 w1 → va_P g.1 cls (wS g A x1 ++ wT g B w1) H → va_D A0 (wS g A x1 ++ wT g B w1) → va_S A0 s.heap H locs → ∀ ls : Array Slot, lv_has ls 4 [(0, .ref sb), (1, .ref (A 0)), (2, .ref (B 0)), (3, .int (nI (4 * t)))] → W p l e room_1 s m args below meth c H locs cells slots Q (F0 m 538 ls []))
    (HX : Heap) (oX : List Loc) (lsX : Array Slot) (zl : lv_has lsX 4 [(0, .ref sb), (1, .ref (A 0)), (2, .ref (B 0)), (3, .int (nI (4 * t)))]) (zP : va_P g.1 cls (wS g A x ++ wT g B w) HX) (zD : va_D A0 (wS g A x ++ wT g B w)) (zS : va_S A0 s.heap HX oX) : W p l e room_1 s m args below meth c HX oX cells slots Q (F0 m 525 lsX []) := by
  obtain ⟨r, x1, w1, hX1, ⟨d1, z1, hd1, hz1, hM1⟩, hI1⟩ := S_dirty l g A B (by omega) hI
  refine lv_aload_n zx zb d_Law_525 rfl (lv_at zl 1 rfl) ?_
  refine lw_call (x' := x1) (w' := w) (rest := []) zx zb zm zo zg zK zP zD zS zA zl.1 (frL x x1 w hX1) ok_X_dirty ov_X_dirty ml_Law_94 (by decide) (by decide) (by decide) hcs 0 0 (wL_X g A B x w) rfl rfl rfl rfl (Nat.le_of_ble_eq_true rfl) d_Law_526 (fun HX oX zP zD zS => ?_)
  refine lv_aload_n zx zb d_Law_529 rfl (lv_at zl 2 rfl) ?_
  refine lw_call (x' := x1) (w' := w1) (rest := [.int r]) zx zb zm zo zg zK zP zD zS zA zl.1 (frR x1 w w1 hM1) ok_M_dirty ov_M_dirty ml_Law_97 hd1 hz1 (by decide) hcs 33 7 (wL_M g A B x1 w) rfl rfl rfl rfl (Nat.le_of_ble_eq_true rfl) d_Law_530 (fun HX oX zP zD zS => ?_)
  refine lv_icmp_eq (tgt := 538) zx zb d_Law_533 (by decide) (fun _ => ?_) (fun h => absurd rfl h)
  exact kk x1 w1 HX oX hI1 zP zD zS lsX zl
