/-! a contract beside other cells; a call from any room -/
theorem pt_adr {ws wc u ws' : va_W} {is rs : List Nat} {N : Nat} (hC : is.map (fun i => ws[i]?) = wc.map some) (hu : u.map Prod.fst = wc.map Prod.fst) (hC' : is.map (fun i => ws'[i]?) = u.map some) (hR : lkA ws' rs = lkB ws rs) (hN : ws'.length = N) (hN2 : ws.length = N) (hc : ptC N is rs = true) : ws'.map Prod.fst = ws.map Prod.fst := by
  apply List.ext_getElem?
  intro k
  rw [List.getElem?_map, List.getElem?_map]
  cases hk : ws'[k]? with
  | none =>
    have h1 := List.getElem?_eq_none_iff.mp hk
    rw [List.getElem?_eq_none_iff.mpr (show ws.length ≤ k by omega)]
  | some q =>
    rcases pt_key hC hu hC' hR hN hc hk with ⟨j, -, q0, h1, h2⟩ | ⟨-, h1⟩
    · rw [h1]; exact congrArg some h2.symm
    · rw [h1]
/-- a contract beside other cells -/
theorem Ct.frame {l : Launch} {g : Gt} {y : MethodName} {cy : Cond} {d z : Nat} {av : List Value} {wc ws wc' ws' : va_W} {r : Option Value} (hM : Ct l g y cy d z av wc (exP r wc')) (is rs : List Nat) (N : Nat) (hnd : va_nd is = true) (hC : is.map (fun i => ws[i]?) = wc.map some) (hC' : is.map (fun i => ws'[i]?) = wc'.map some) (hR : lkA ws' rs = lkB ws rs) (hN : ws'.length = N) (hN2 : ws.length = N) (hc : ptC N is rs = true) : Ct l g y cy d z av ws (exP r ws') := by
  intro sz
  refine MetFree.mono (hM sz) ?_ (fun _ _ _ _ _ h => h) ?_
  · rintro a s ⟨q0, q1, qP, qK, qD⟩
    refine ⟨q0, q1, fun k q hk => ?_, qK, (qD.sub is hnd hC).weaken (fun _ _ _ _ => trivial)⟩
    obtain ⟨i, -, h2⟩ := pl_at (β := Nat) hC hk
    exact qP i q h2
  · rintro a s oc s' ⟨-, q1, qP, qK, qD⟩ ⟨⟨⟨r1, u, e1, ⟨e2, e3⟩, hu, hPu, hDu⟩, hz, hk⟩, L, hF, hL⟩
    have hsub : ∀ q, va_A wc sz q → va_A ws sz q := by
      rintro q (⟨k, e, h⟩ | h)
      · obtain ⟨i, -, h2⟩ := pl_at (β := Nat) hC h
        exact Or.inl ⟨i, e, h2⟩
      · exact Or.inr h
    subst e3
    obtain ⟨g1, g2⟩ := pt_ok (A := va_A ws sz) qP qD.self is rs N hC hu hC' hR hN hc (fun q h1 h2 => hk q h1 (by rw [q1] at h2; exact h2)) hPu
    exact ⟨⟨⟨r1, ws', e1, ⟨e2, rfl⟩, pt_adr hC hu hC' hR hN hN2 hc, g1, g2⟩, hz, fun q h1 h2 => hk q h1 (fun z => h2 (hsub q z))⟩, L, hF, fun q hq => hsub _ (hL q hq)⟩
section CG
variable {p : Program} {l : Launch} {e : Env} {R : Room} {s : State} {m : MethodId} {args : Array Value} {below : List Frame} {meth : Method} {c : Code} {H H0 : Heap} {locs : List Loc} {cells slots : Nat} {Q : State → Prop} {g : Gt} {ws wc : va_W} {A : Nat → Prop} {Pst : Option Value → va_W → Prop} {cc : ByteArray} {pc : Nat} {ls : Array Slot} {rest st0 : List Value} {own : String} {index maxL n d z nL : Nat} {y : MethodName} {bytes : ByteArray} {ret : Option FieldType} {b : Nat}
/-- obj.m(..) from any room -/
theorem ct_G (hx : p.tables.exec = Jvm.exec) (hb : c.code = cc) (hml : c.maxLocals = nL) (hown : s.vm.findClass own = some m.cls) (hg : ∀ w ∈ GW, w.before args s = true) (hK : KK g s) (hP : va_P g.1 cls ws H) (hD : va_D A ws) (hS : va_S A H0 H locs) (hA : ∀ q, H0.size ≤ q → A q) (hls : ls.size = nL)
    {As : List Value} {r0 : Option Value} {wc' ws' : va_W} {st1 : List Value} (hM : Ct l g y (.code y bytes maxL ret) d z (.ref b :: As) wc (exP r0 wc')) (ok : okC y bytes maxL ret n) (okv : okV y) (hl : Cond.methodLink own index y ∈ GW) (hR : d + 1 ≤ R.frames ∧ 8 + (maxL + 11) + z ≤ R.locals) (hcs : cells ≤ R.cells ∧ slots ≤ R.slots)
    (q0 ci : Nat) {fs : List Value} {cq : vw_C} (he : ws[q0]? = some (b, .inr (ci, fs))) (hc : cls[ci]? = some cq) (hcn : cq.1 = y.cls) (is rs : List Nat) (N : Nat) (hnd : va_nd is = true) (hC : is.map (fun i => ws[i]?) = wc.map some) (hC' : is.map (fun i => ws'[i]?) = wc'.map some) (hRr : lkA ws' rs = lkB ws rs) (hN : ws'.length = N) (hcv : ptC N is rs = true) (hst1 : st1 = r0.toList ++ rest) (hn : As.length = n) (hst : st0 = As.reverse ++ .ref b :: rest) (hW : (rest.map fun v => v.category).sum ≤ 8) (hdg : decode cc pc = .ok (.invokevirtual index, 3))
    (kk : ∀ (H1 : Heap) (locs1 : List Loc), va_P g.1 cls ws' H1 → va_D A ws' → va_S A H0 H1 locs1 → W p l e R s m args below meth c H1 locs1 cells slots Q (F0 m (pc + 3) ls st1)) :
    W p l e R s m args below meth c H locs cells slots Q (F0 m pc ls st0) :=
  ct_call (va_runV (C := y.cls) (As := As) (rest := rest) (b := b) ⟨hx, hb, hml, hown, hg⟩ (hM H.size) ⟨callB_of n hg (gw_good (fun _ h => h) ok.1) rfl rfl rfl (hg _ ok.2.1) (hg _ hl) ok.2.2 hR, hg _ okv.1, hg _ okv.2⟩ ⟨PcT.blind, hcn ▸ va_recv hK.1 hP hc he, ct_pre hK hP hD is hC hnd⟩ rfl hn hls hst (lv_room hW) hdg hcs) hP hD hS hA is rs N hC hC' hRr hN hcv hst1 kk
end CG
