section KCALLS
variable {p : Program} {l : Launch} {e : Env} {R : Room} {s : State} {m : MethodId} {args : Array Value} {below : List Frame} {meth : Method} {c : Code} {H : Heap} {locs : List Loc} {Q : State → Prop} {g : GG}
  {y : MethodName} {bytes cc : ByteArray} {maxL nL n index pc b : Nat} {ret : Option FieldType} {ws ws' Ts : List Cond} {rm : Room} {own C : String} {As rest st0 : List Value} {ls : Array Slot} {w W0 : va_W} {A0 : Nat → Prop} {H0 : Heap} {kc ks : Nat}
theorem ro_callVK {post : Int32 → Prop} (hkc : kc ≤ R.cells ∧ ks ≤ R.slots) (ctx : CallFix p m c cc nL s args Ts own) (hKK : KK g s) (hP : va_P g.1 vwCl W0 H) (hM : Met l y ws rm (ro g (.ref b :: As) w) (vp_Si post) 0 0 (fun _ => False)) (hG : GoodIn Ts (wsV own index C y ws)) (hw : ws = Cond.code y bytes maxL ret :: ws') (hrc : rm.cells = 0) (hrs : rm.slots = 0)
    (hd : y.cls = C ∧ y.cls ≠ "java/lang/invoke/MethodHandle" ∧ y.cls ≠ "java/lang/invoke/VarHandle" ∧ (parseMethodDescriptor y.desc).map (fun d => d.parameters.length) = some n) (hR : rm.frames + 1 ≤ R.frames ∧ 8 + (maxL + 11) + rm.locals ≤ R.locals) (pl : List Nat) (hs : pl.filterMap (fun i => W0[i]?) = w)
    {ci q0 : Nat} {fs : List Value} {T : u_T} {N : Nat} (hc : vwCl[ci]? = some (C, T, N)) (he : w[q0]? = some (b, .inr (ci, fs))) (hsz : ls.size = nL) (hst : st0 = As.reverse ++ .ref b :: rest) (hn : As.length = n) (hrm : (rest.map fun v => v.category).sum ≤ 8) (hdg : decode cc pc = .ok (.invokevirtual index, 3))
    (kk : ∀ r : Int32, post r → W p l e R s m args below meth c H locs kc ks Q (F0 m (pc + 3) ls (.int r :: rest))) : W p l e R s m args below meth c H locs kc ks Q (F0 m pc ls st0) := by
  have hPc := hP.sub pl hs
  exact vp_callSi (va_Run.run (va_runV (g := F0 m pc ls st0) (rest := rest) ctx hM (cwV n ctx.2.2.2.2 hG hw hrc hrs hd hR) ⟨ro_blind, va_recv hKK.1 hPc hc he, fun U hU hW => ⟨rfl, by rw [hU]; exact hPc, hKK.warm hW⟩⟩ rfl hn hsz hst (lv_room hrm) hdg ⟨hkc.1, hkc.2⟩)) kk
theorem ro_callSK {post : Int32 → Prop} (hkc : kc ≤ R.cells ∧ ks ≤ R.slots) (ctx : CallFix p m c cc nL s args Ts own) (hKK : KK g s) (hP : va_P g.1 vwCl W0 H) (hM : Met l y ws rm (ro g As w) (vp_Si post) 0 0 (fun _ => False)) (hG : GoodIn Ts (va_wsS own index y ws)) (hw : ws = Cond.code y bytes maxL ret :: ws') (hrc : rm.cells = 0) (hrs : rm.slots = 0)
    (hd : y.cls ≠ "java/lang/invoke/MethodHandle" ∧ y.cls ≠ "java/lang/invoke/VarHandle" ∧ (parseMethodDescriptor y.desc).map (fun d => d.parameters.length) = some n) (hR : rm.frames + 1 ≤ R.frames ∧ 8 + (maxL + 11) + rm.locals ≤ R.locals) (pl : List Nat) (hs : pl.filterMap (fun i => W0[i]?) = w)
    (hsz : ls.size = nL) (hst : st0 = As.reverse ++ rest) (hn : As.length = n) (hrm : (rest.map fun v => v.category).sum ≤ 8) (hdg : decode cc pc = .ok (.invokestatic index, 3))
    (kk : ∀ r : Int32, post r → W p l e R s m args below meth c H locs kc ks Q (F0 m (pc + 3) ls (.int r :: rest))) : W p l e R s m args below meth c H locs kc ks Q (F0 m pc ls st0) := by
  have hPc := hP.sub pl hs
  exact vp_callSi (va_Run.run (va_runS (g := F0 m pc ls st0) (rest := rest) ctx hM (va_cwS n ctx.2.2.2.2 hG hw hrc hrs hd hR) ⟨ro_blind, fun U hU hW => ⟨rfl, by rw [hU]; exact hPc, hKK.warm hW⟩⟩ rfl hn hsz hst (lv_room hrm) hdg ⟨hkc.1, hkc.2⟩)) kk
theorem wr_callViK {S : Type} {w' : S → va_W} {post : Int32 → S → Prop} (hkc : kc ≤ R.cells ∧ ks ≤ R.slots) (ctx : CallFix p m c cc nL s args Ts own) (hKK : KK g s) (hP : va_P g.1 vwCl W0 H) (hD : va_D A0 W0) (hS : va_S A0 H0 H locs) (hM : Met l y ws rm (wr g (.ref b :: As) w) (wQi g w w' post) 0 0 (cA w)) (hG : GoodIn Ts (wsV own index C y ws)) (hw : ws = Cond.code y bytes maxL ret :: ws') (hrc : rm.cells = 0) (hrs : rm.slots = 0)
    (hd : y.cls = C ∧ y.cls ≠ "java/lang/invoke/MethodHandle" ∧ y.cls ≠ "java/lang/invoke/VarHandle" ∧ (parseMethodDescriptor y.desc).map (fun d => d.parameters.length) = some n) (hR : rm.frames + 1 ≤ R.frames ∧ 8 + (maxL + 11) + rm.locals ≤ R.locals) (pl : List Nat) (hnd : va_nd pl = true) (hs : pl.map (fun i => W0[i]?) = w.map some) (hlen : ∀ r u, post r u → (w' u).length = pl.length)
    {ci q0 : Nat} {fs : List Value} {T : u_T} {N : Nat} (hc : vwCl[ci]? = some (C, T, N)) (he : w[q0]? = some (b, .inr (ci, fs))) (hsz : ls.size = nL) (hst : st0 = As.reverse ++ .ref b :: rest) (hn : As.length = n) (hrm : (rest.map fun v => v.category).sum ≤ 8) (hdg : decode cc pc = .ok (.invokevirtual index, 3))
    (kk : ∀ (r : Int32) (u : S) (H1 : Heap) (locs1 : List Loc), post r u → va_P g.1 vwCl (setAll W0 pl (w' u)) H1 → va_D A0 (setAll W0 pl (w' u)) → va_S A0 H0 H1 locs1 → W p l e R s m args below meth c H1 locs1 kc ks Q (F0 m (pc + 3) ls (.int r :: rest))) : W p l e R s m args below meth c H locs kc ks Q (F0 m pc ls st0) := by
  have hPc := P_of_map hP hs
  have hDc := hD.sub pl hnd hs
  refine va_calli (A0 := A0) (H0 := H0) (va_runV (g := F0 m pc ls st0) (rest := rest) ctx hM (cwV n ctx.2.2.2.2 hG hw hrc hrs hd hR) ⟨wr_blind, va_recv hKK.1 hPc hc he, fun U hU hW => ⟨rfl, by rw [hU]; exact hPc, hDc.weaken (fun _ _ _ _ => trivial), hKK.warm hW⟩⟩ rfl hn hsz hst (lv_room hrm) hdg ⟨hkc.1, hkc.2⟩) hS (fun q _ h => cA_in hD hs h) (fun q h => cA_in hD hs h) (fun r u t H1 locs1 ht hvm hw hB hz1 hk1 hS1 => ?_)
  obtain ⟨hP1, hD1⟩ := jn hP hD pl hs (hlen r u hw) hk1 (by rw [← ht]; exact hB.1) hB.2
  exact kk r u H1 locs1 hw hP1 hD1 hS1
theorem wr_callVvK {S : Type} {w' : S → va_W} {post : S → Prop} (hkc : kc ≤ R.cells ∧ ks ≤ R.slots) (ctx : CallFix p m c cc nL s args Ts own) (hKK : KK g s) (hP : va_P g.1 vwCl W0 H) (hD : va_D A0 W0) (hS : va_S A0 H0 H locs) (hM : Met l y ws rm (wr g (.ref b :: As) w) (wQv g w w' post) 0 0 (cA w)) (hG : GoodIn Ts (wsV own index C y ws)) (hw : ws = Cond.code y bytes maxL ret :: ws') (hrc : rm.cells = 0) (hrs : rm.slots = 0)
    (hd : y.cls = C ∧ y.cls ≠ "java/lang/invoke/MethodHandle" ∧ y.cls ≠ "java/lang/invoke/VarHandle" ∧ (parseMethodDescriptor y.desc).map (fun d => d.parameters.length) = some n) (hR : rm.frames + 1 ≤ R.frames ∧ 8 + (maxL + 11) + rm.locals ≤ R.locals) (pl : List Nat) (hnd : va_nd pl = true) (hs : pl.map (fun i => W0[i]?) = w.map some) (hlen : ∀ u, post u → (w' u).length = pl.length)
    {ci q0 : Nat} {fs : List Value} {T : u_T} {N : Nat} (hc : vwCl[ci]? = some (C, T, N)) (he : w[q0]? = some (b, .inr (ci, fs))) (hsz : ls.size = nL) (hst : st0 = As.reverse ++ .ref b :: rest) (hn : As.length = n) (hrm : (rest.map fun v => v.category).sum ≤ 8) (hdg : decode cc pc = .ok (.invokevirtual index, 3))
    (kk : ∀ (u : S) (H1 : Heap) (locs1 : List Loc), post u → va_P g.1 vwCl (setAll W0 pl (w' u)) H1 → va_D A0 (setAll W0 pl (w' u)) → va_S A0 H0 H1 locs1 → W p l e R s m args below meth c H1 locs1 kc ks Q (F0 m (pc + 3) ls rest)) : W p l e R s m args below meth c H locs kc ks Q (F0 m pc ls st0) := by
  have hPc := P_of_map hP hs
  have hDc := hD.sub pl hnd hs
  refine va_callv (A0 := A0) (H0 := H0) (va_runV (g := F0 m pc ls st0) (rest := rest) ctx hM (cwV n ctx.2.2.2.2 hG hw hrc hrs hd hR) ⟨wr_blind, va_recv hKK.1 hPc hc he, fun U hU hW => ⟨rfl, by rw [hU]; exact hPc, hDc.weaken (fun _ _ _ _ => trivial), hKK.warm hW⟩⟩ rfl hn hsz hst (lv_room hrm) hdg ⟨hkc.1, hkc.2⟩) hS (fun q _ h => cA_in hD hs h) (fun q h => cA_in hD hs h) (fun u t H1 locs1 ht hvm hw hB hz1 hk1 hS1 => ?_)
  obtain ⟨hP1, hD1⟩ := jn hP hD pl hs (hlen u hw) hk1 (by rw [← ht]; exact hB.1) hB.2
  exact kk u H1 locs1 hw hP1 hD1 hS1
theorem wr_callSvK {S : Type} {w' : S → va_W} {post : S → Prop} (hkc : kc ≤ R.cells ∧ ks ≤ R.slots) (ctx : CallFix p m c cc nL s args Ts own) (hKK : KK g s) (hP : va_P g.1 vwCl W0 H) (hD : va_D A0 W0) (hS : va_S A0 H0 H locs) (hM : Met l y ws rm (wr g As w) (wQv g w w' post) 0 0 (cA w)) (hG : GoodIn Ts (va_wsS own index y ws)) (hw : ws = Cond.code y bytes maxL ret :: ws') (hrc : rm.cells = 0) (hrs : rm.slots = 0)
    (hd : y.cls ≠ "java/lang/invoke/MethodHandle" ∧ y.cls ≠ "java/lang/invoke/VarHandle" ∧ (parseMethodDescriptor y.desc).map (fun d => d.parameters.length) = some n) (hR : rm.frames + 1 ≤ R.frames ∧ 8 + (maxL + 11) + rm.locals ≤ R.locals) (pl : List Nat) (hnd : va_nd pl = true) (hs : pl.map (fun i => W0[i]?) = w.map some) (hlen : ∀ u, post u → (w' u).length = pl.length)
    (hsz : ls.size = nL) (hst : st0 = As.reverse ++ rest) (hn : As.length = n) (hrm : (rest.map fun v => v.category).sum ≤ 8) (hdg : decode cc pc = .ok (.invokestatic index, 3))
    (kk : ∀ (u : S) (H1 : Heap) (locs1 : List Loc), post u → va_P g.1 vwCl (setAll W0 pl (w' u)) H1 → va_D A0 (setAll W0 pl (w' u)) → va_S A0 H0 H1 locs1 → W p l e R s m args below meth c H1 locs1 kc ks Q (F0 m (pc + 3) ls rest)) : W p l e R s m args below meth c H locs kc ks Q (F0 m pc ls st0) := by
  have hPc := P_of_map hP hs
  have hDc := hD.sub pl hnd hs
  refine va_callv (A0 := A0) (H0 := H0) (va_runS (g := F0 m pc ls st0) (rest := rest) ctx hM (va_cwS n ctx.2.2.2.2 hG hw hrc hrs hd hR) ⟨wr_blind, fun U hU hW => ⟨rfl, by rw [hU]; exact hPc, hDc.weaken (fun _ _ _ _ => trivial), hKK.warm hW⟩⟩ rfl hn hsz hst (lv_room hrm) hdg ⟨hkc.1, hkc.2⟩) hS (fun q _ h => cA_in hD hs h) (fun q h => cA_in hD hs h) (fun u t H1 locs1 ht hvm hw hB hz1 hk1 hS1 => ?_)
  obtain ⟨hP1, hD1⟩ := jn hP hD pl hs (hlen u hw) hk1 (by rw [← ht]; exact hB.1) hB.2
  exact kk u H1 locs1 hw hP1 hD1 hS1
theorem wr_callVi0K {S : Type} {w' : S → va_W} {post : Int32 → S → Prop} (hkc : kc ≤ R.cells ∧ ks ≤ R.slots) (ctx : CallFix p m c cc nL s args Ts own) (hKK : KK g s) (hP : va_P g.1 vwCl w H) (hD : va_D A0 w) (hS : va_S A0 H0 H locs) (hM : Met l y ws rm (wr g (.ref b :: As) w) (wQi g w w' post) 0 0 (cA w)) (hG : GoodIn Ts (wsV own index C y ws)) (hw : ws = Cond.code y bytes maxL ret :: ws') (hrc : rm.cells = 0) (hrs : rm.slots = 0)
    (hd : y.cls = C ∧ y.cls ≠ "java/lang/invoke/MethodHandle" ∧ y.cls ≠ "java/lang/invoke/VarHandle" ∧ (parseMethodDescriptor y.desc).map (fun d => d.parameters.length) = some n) (hR : rm.frames + 1 ≤ R.frames ∧ 8 + (maxL + 11) + rm.locals ≤ R.locals)
    {ci q0 : Nat} {fs : List Value} {T : u_T} {N : Nat} (hc : vwCl[ci]? = some (C, T, N)) (he : w[q0]? = some (b, .inr (ci, fs))) (hsz : ls.size = nL) (hst : st0 = As.reverse ++ .ref b :: rest) (hn : As.length = n) (hrm : (rest.map fun v => v.category).sum ≤ 8) (hdg : decode cc pc = .ok (.invokevirtual index, 3))
    (kk : ∀ (r : Int32) (u : S) (H1 : Heap) (locs1 : List Loc), post r u → va_P g.1 vwCl (w' u) H1 → va_D A0 (w' u) → va_S A0 H0 H1 locs1 → W p l e R s m args below meth c H1 locs1 kc ks Q (F0 m (pc + 3) ls (.int r :: rest))) : W p l e R s m args below meth c H locs kc ks Q (F0 m pc ls st0) := by
  have hin : ∀ q, cA w q → A0 q := fun q h => by obtain ⟨k, e, hke⟩ := h; exact hD.2 k _ hke
  refine va_calli (A0 := A0) (H0 := H0) (va_runV (g := F0 m pc ls st0) (rest := rest) ctx hM (cwV n ctx.2.2.2.2 hG hw hrc hrs hd hR) ⟨wr_blind, va_recv hKK.1 hP hc he, fun U hU hW => ⟨rfl, by rw [hU]; exact hP, hD.weaken (fun _ _ _ _ => trivial), hKK.warm hW⟩⟩ rfl hn hsz hst (lv_room hrm) hdg ⟨hkc.1, hkc.2⟩) hS (fun q _ h => hin q h) hin (fun r u t H1 locs1 ht hvm hw hB hz1 hk1 hS1 => ?_)
  exact kk r u H1 locs1 hw (by rw [← ht]; exact hB.1) (hB.2.weaken (fun _ q _ h => hin q.1 h)) hS1
theorem wr_callVv0K {S : Type} {w' : S → va_W} {post : S → Prop} (hkc : kc ≤ R.cells ∧ ks ≤ R.slots) (ctx : CallFix p m c cc nL s args Ts own) (hKK : KK g s) (hP : va_P g.1 vwCl w H) (hD : va_D A0 w) (hS : va_S A0 H0 H locs) (hM : Met l y ws rm (wr g (.ref b :: As) w) (wQv g w w' post) 0 0 (cA w)) (hG : GoodIn Ts (wsV own index C y ws)) (hw : ws = Cond.code y bytes maxL ret :: ws') (hrc : rm.cells = 0) (hrs : rm.slots = 0)
    (hd : y.cls = C ∧ y.cls ≠ "java/lang/invoke/MethodHandle" ∧ y.cls ≠ "java/lang/invoke/VarHandle" ∧ (parseMethodDescriptor y.desc).map (fun d => d.parameters.length) = some n) (hR : rm.frames + 1 ≤ R.frames ∧ 8 + (maxL + 11) + rm.locals ≤ R.locals)
    {ci q0 : Nat} {fs : List Value} {T : u_T} {N : Nat} (hc : vwCl[ci]? = some (C, T, N)) (he : w[q0]? = some (b, .inr (ci, fs))) (hsz : ls.size = nL) (hst : st0 = As.reverse ++ .ref b :: rest) (hn : As.length = n) (hrm : (rest.map fun v => v.category).sum ≤ 8) (hdg : decode cc pc = .ok (.invokevirtual index, 3))
    (kk : ∀ (u : S) (H1 : Heap) (locs1 : List Loc), post u → va_P g.1 vwCl (w' u) H1 → va_D A0 (w' u) → va_S A0 H0 H1 locs1 → W p l e R s m args below meth c H1 locs1 kc ks Q (F0 m (pc + 3) ls rest)) : W p l e R s m args below meth c H locs kc ks Q (F0 m pc ls st0) := by
  have hin : ∀ q, cA w q → A0 q := fun q h => by obtain ⟨k, e, hke⟩ := h; exact hD.2 k _ hke
  refine va_callv (A0 := A0) (H0 := H0) (va_runV (g := F0 m pc ls st0) (rest := rest) ctx hM (cwV n ctx.2.2.2.2 hG hw hrc hrs hd hR) ⟨wr_blind, va_recv hKK.1 hP hc he, fun U hU hW => ⟨rfl, by rw [hU]; exact hP, hD.weaken (fun _ _ _ _ => trivial), hKK.warm hW⟩⟩ rfl hn hsz hst (lv_room hrm) hdg ⟨hkc.1, hkc.2⟩) hS (fun q _ h => hin q h) hin (fun u t H1 locs1 ht hvm hw hB hz1 hk1 hS1 => ?_)
  exact kk u H1 locs1 hw (by rw [← ht]; exact hB.1) (hB.2.weaken (fun _ q _ h => hin q.1 h)) hS1
theorem ro_callV0K {post : Int32 → Prop} (hkc : kc ≤ R.cells ∧ ks ≤ R.slots) (ctx : CallFix p m c cc nL s args Ts own) (hKK : KK g s) (hP : va_P g.1 vwCl w H) (hM : Met l y ws rm (ro g (.ref b :: As) w) (vp_Si post) 0 0 (fun _ => False)) (hG : GoodIn Ts (wsV own index C y ws)) (hw : ws = Cond.code y bytes maxL ret :: ws') (hrc : rm.cells = 0) (hrs : rm.slots = 0)
    (hd : y.cls = C ∧ y.cls ≠ "java/lang/invoke/MethodHandle" ∧ y.cls ≠ "java/lang/invoke/VarHandle" ∧ (parseMethodDescriptor y.desc).map (fun d => d.parameters.length) = some n) (hR : rm.frames + 1 ≤ R.frames ∧ 8 + (maxL + 11) + rm.locals ≤ R.locals)
    {ci q0 : Nat} {fs : List Value} {T : u_T} {N : Nat} (hc : vwCl[ci]? = some (C, T, N)) (he : w[q0]? = some (b, .inr (ci, fs))) (hsz : ls.size = nL) (hst : st0 = As.reverse ++ .ref b :: rest) (hn : As.length = n) (hrm : (rest.map fun v => v.category).sum ≤ 8) (hdg : decode cc pc = .ok (.invokevirtual index, 3))
    (kk : ∀ r : Int32, post r → W p l e R s m args below meth c H locs kc ks Q (F0 m (pc + 3) ls (.int r :: rest))) : W p l e R s m args below meth c H locs kc ks Q (F0 m pc ls st0) := by
  exact vp_callSi (va_Run.run (va_runV (g := F0 m pc ls st0) (rest := rest) ctx hM (cwV n ctx.2.2.2.2 hG hw hrc hrs hd hR) ⟨ro_blind, va_recv hKK.1 hP hc he, fun U hU hW => ⟨rfl, by rw [hU]; exact hP, hKK.warm hW⟩⟩ rfl hn hsz hst (lv_room hrm) hdg ⟨hkc.1, hkc.2⟩)) kk
end KCALLS
/-- what holds of the tables for the constructors -/
def KC (g : GG) (U : State) : Prop := KK g U ∧ va_Nw (.methodLinkNest RX7 9 yX0_init RX7) U ∧ va_Nw (.methodLinkNest RX7 18 yX1_init RX7) U ∧ va_Nw (.methodLinkNest RX7 37 yX5_init RX7) U ∧ va_Nw (.methodLinkNest RX7 53 yX4_init RX7) U ∧ va_Nw (.methodLinkNest RX3 25 yX5_init RX7) U ∧ va_AO "LastCallersWord$State" U
theorem KC.warm {g : GG} {s U : State} (hW : s.WarmedH U.vm) (h : KC g s) : KC g U := ⟨KK.warm hW h.1, va_Nw.warmM hW h.2.1, va_Nw.warmM hW h.2.2.1, va_Nw.warmM hW h.2.2.2.1, va_Nw.warmM hW h.2.2.2.2.1, va_Nw.warmM hW h.2.2.2.2.2.1, va_AO.moved hW.alike h.2.2.2.2.2.2⟩
theorem KC.calling {g : GG} {U : State} {f : JFrame} {mk : MethodId} {a : Array Value} (h : KC g U) : KC g (U.calling f mk a) := ⟨KK.calling h.1, va_Nw.same rfl rfl h.2.1, va_Nw.same rfl rfl h.2.2.1, va_Nw.same rfl rfl h.2.2.2.1, va_Nw.same rfl rfl h.2.2.2.2.1, va_Nw.same rfl rfl h.2.2.2.2.2.1, va_AO.moved (u := U) (Vm.Alike.refl U.vm) h.2.2.2.2.2.2⟩
/-- a constructor: its start, its end -/
def ci (g : GG) (av : List Value) (w : va_W) (sz : Nat) : Array Value → State → Prop := va_Pc av (fun U => U.heap.size = sz ∧ va_P g.1 vwCl w U.heap ∧ va_D (fun _ => True) w ∧ KC g U)
theorem ci_blind {g : GG} {av : List Value} {w : va_W} {sz : Nat} : FrameBlind (ci g av w sz) := fun _ _ _ _ h => ⟨h.1, h.2.1, h.2.2.1, h.2.2.2.1, h.2.2.2.2.calling⟩
def ciB {S : Type} (g : GG) (w : va_W) (w' : S → va_W) (sz : Nat) : S → State → Prop := fun u t => va_P g.1 vwCl (w' u) t.heap ∧ va_D (va_A w sz) (w' u)
abbrev ciQ {S : Type} (g : GG) (w : va_W) (w' : S → va_W) (post : S → Prop) (sz : Nat) : Array Value → State → Outcome → State → Prop := va_Qv post (ciB g w w' sz) (va_A w sz)
section CST
variable {l : Launch} {y : MethodName} {ws ws' : List Cond} {rm : Room} {g : GG} {av : List Value} {w : va_W} {cc : ByteArray} {maxL mc ms sz : Nat}
theorem ci_start {S : Type} {w' : S → va_W} {post : S → Prop} (hy : plainName y.cls = true) (hyn : y.name = "<init>") (hw : ws = Cond.code y cc maxL none :: ws') (hlen : (lg_sl av).length ≤ maxL)
    (body : ∀ (p : Program) (e : Env) (s : State) (m : MethodId) (args : Array Value) (below : List Frame) (meth : Method) (c : Code) (Q : State → Prop) (A : Nat → Prop), MC p m meth c s args y.cls ws cc maxL none g → KC g s → meth.name = "<init>" → (∀ q, s.heap.size ≤ q → A q) → va_P g.1 vwCl w s.heap → va_D A w → va_S A s.heap s.heap [] → A = va_A w s.heap.size →
      (∀ (u : S) (H : Heap) (locs : List Loc) (pc : Nat) (ls : Array Slot), post u → va_P g.1 vwCl (w' u) H → va_D A (w' u) → va_S A s.heap H locs → decode cc pc = .ok (.return_, 1) → W p l e rm s m args below meth c H locs mc ms Q (F0 m pc ls [])) →
      ∀ ls : Array Slot, lv_has ls maxL (lv_args 0 av) → W p l e rm s m args below meth c s.heap [] 0 0 Q (F0 m 0 ls [])) :
    Met l y ws rm (ci g av w sz) (ciQ g w w' post sz) mc ms (va_A w sz) := by
  refine Met.ofW (cc := cc) (maxL := maxL) (ret := none) hy hw ?_
  intro p e s m args below meth c s₁ B hml hv
  obtain ⟨rfl, hsz, hP, hD, hKC⟩ := hv
  subst hsz
  have hin : meth.name = y.name := (name_of_methodNamed B.named B.method).1
  have hl := lv_entry av (n := maxL) hlen
  rw [lg_entry_eq]
  generalize (lg_sl av ++ List.replicate (maxL - (lg_sl av).length) Slot.unset).toArray = ls at hl ⊢
  refine body p e s m _ below meth c _ (va_A w s.heap.size) ⟨B.exec, B.bytes, hml, B.returns, findClass_of_methodNamed B.named, atoms_spec (ws := ws) B.pre, B.notSynchronized, hKC.1⟩ hKC (hin.trans hyn) (fun q h => Or.inr h) hP (hD.self (sz := s.heap.size)) va_S.rf rfl ?_ ls hl
  intro u H locs pc ls hr hP hD hS hd
  exact W.vret B.exec B.bytes B.returns (fun t ht hW => ⟨⟨u, rfl, hr, by rw [ht]; exact hP, hD⟩, hS.F ht⟩) hS.2.2 hd B.notSynchronized
end CST
section CNEW
variable {p : Program} {l : Launch} {e : Env} {R : Room} {s : State} {m : MethodId} {args : Array Value} {below : List Frame} {meth : Method} {c : Code} {H : Heap} {locs : List Loc} {Q : State → Prop} {g : GG}
  {y : MethodName} {bytes cc : ByteArray} {maxL nL n index pc b : Nat} {ret : Option FieldType} {ws ws' Ts : List Cond} {rm : Room} {own C host : String} {As rest st0 : List Value} {ls : Array Slot} {w W0 : va_W} {A0 : Nat → Prop} {H0 : Heap} {kc ks mc ms : Nat}
theorem new_i (hx : p.tables.exec = Jvm.exec) (hb : c.code = cc) (harr : (Cond.arrayClass .int).before args s = true) (hK : va_K g.1 vwCl (tysG g) s) (hP : va_P g.1 vwCl W0 H) (hD : va_D A0 W0) (hS : va_S A0 H0 H locs) (hA : ∀ q, H0.size ≤ q → A0 q) {N : Nat} (hN : N ≤ 1000) (hcells : kc + 1 ≤ R.cells) (hslots : ks + N ≤ R.slots) (hdg : decode cc pc = .ok (.newarray .int, 2))
    (kk : ∀ (q : Nat) (H1 : Heap), va_P g.1 vwCl (W0 ++ [(q, .inl (g.2.1, N, .inl zF))]) H1 → va_D A0 (W0 ++ [(q, .inl (g.2.1, N, .inl zF))]) → va_S A0 H0 H1 locs → W p l e R s m args below meth c H1 locs (kc + 1) (ks + N) Q (F0 m (pc + 2) ls (.ref q :: rest))) : W p l e R s m args below meth c H locs kc ks Q (F0 m pc ls (.int (nI N) :: rest)) := by
  refine va_newa (ty := .int) (a0 := (N, .inl zF)) hx hb (atype := .int) harr rfl hK hP hD hS hA (fun cA => by rw [vp_cell_i]; rfl) (nI_pos (by omega)) (nI_clamp (by omega)) (by show N * 4 ≤ _; omega) hcells hslots hdg (fun q cA H1 hK1 hP1 hD1 hS1 => ?_)
  have h1 : s.vm.findClass ("[" ++ (FieldType.int).toString) = some cA := (hK1.2 3 (cA, .int) rfl).2
  have h2 : s.vm.findClass ("[" ++ (FieldType.int).toString) = some g.2.1 := (hK.2 0 (g.2.1, .int) rfl).2
  have e : cA = g.2.1 := Option.some.inj (h1.symm.trans h2)
  subst e
  exact kk q H1 hP1 hD1 hS1
theorem new_c (hx : p.tables.exec = Jvm.exec) (hb : c.code = cc) (harr : (Cond.arrayClass .char).before args s = true) (hK : va_K g.1 vwCl (tysG g) s) (hP : va_P g.1 vwCl W0 H) (hD : va_D A0 W0) (hS : va_S A0 H0 H locs) (hA : ∀ q, H0.size ≤ q → A0 q) {N : Nat} (hN : N ≤ 1000) (hcells : kc + 1 ≤ R.cells) (hslots : ks + N ≤ R.slots) (hdg : decode cc pc = .ok (.newarray .char, 2))
    (kk : ∀ (q : Nat) (H1 : Heap), va_P g.1 vwCl (W0 ++ [(q, .inl (g.2.2.1, N, .inl zF))]) H1 → va_D A0 (W0 ++ [(q, .inl (g.2.2.1, N, .inl zF))]) → va_S A0 H0 H1 locs → W p l e R s m args below meth c H1 locs (kc + 1) (ks + N) Q (F0 m (pc + 2) ls (.ref q :: rest))) : W p l e R s m args below meth c H locs kc ks Q (F0 m pc ls (.int (nI N) :: rest)) := by
  refine va_newa (ty := .char) (a0 := (N, .inl zF)) hx hb (atype := .char) harr rfl hK hP hD hS hA (fun cA => by rw [vp_cell_i]; rfl) (nI_pos (by omega)) (nI_clamp (by omega)) (by show N * 2 ≤ _; omega) hcells hslots hdg (fun q cA H1 hK1 hP1 hD1 hS1 => ?_)
  have h1 : s.vm.findClass ("[" ++ (FieldType.char).toString) = some cA := (hK1.2 3 (cA, .char) rfl).2
  have h2 : s.vm.findClass ("[" ++ (FieldType.char).toString) = some g.2.2.1 := (hK.2 1 (g.2.2.1, .char) rfl).2
  have e : cA = g.2.2.1 := Option.some.inj (h1.symm.trans h2)
  subst e
  exact kk q H1 hP1 hD1 hS1
theorem new_q (hx : p.tables.exec = Jvm.exec) (hb : c.code = cc) (hown : s.vm.findClass own = some m.cls) (hcl : (Cond.classLink own index "LastCallersWord$State").before args s = true) (hAO : va_AO "LastCallersWord$State" s) (hK : va_K g.1 vwCl (tysG g) s) (hP : va_P g.1 vwCl W0 H) (hD : va_D A0 W0) (hS : va_S A0 H0 H locs) (hA : ∀ q, H0.size ≤ q → A0 q) {N : Nat} (hN : N ≤ 1000) (hcells : kc + 1 ≤ R.cells) (hslots : ks + N ≤ R.slots) (hdg : decode cc pc = .ok (.anewarray index, 3))
    (kk : ∀ (q : Nat) (H1 : Heap), va_P g.1 vwCl (W0 ++ [(q, .inl (g.2.2.2, N, .inr (.inr (.inr (.inr (fun _ => none))))))]) H1 → va_D A0 (W0 ++ [(q, .inl (g.2.2.2, N, .inr (.inr (.inr (.inr (fun _ => none))))))]) → va_S A0 H0 H1 locs → W p l e R s m args below meth c H1 locs (kc + 1) (ks + N) Q (F0 m (pc + 3) ls (.ref q :: rest))) : W p l e R s m args below meth c H locs kc ks Q (F0 m pc ls (.int (nI N) :: rest)) := by
  refine va_newq hx hb hown hcl hAO hK hP hD hS hA (nI_pos (by omega)) (nI_clamp (by omega)) (by omega) hcells hslots hdg (fun q cA H1 hK1 hP1 hD1 hS1 => ?_)
  obtain ⟨k1, c1, -, -, -, h1⟩ : va_RA s cA (.object "LastCallersWord$State") := (hK1.2 3 (cA, .object "LastCallersWord$State") rfl).2
  obtain ⟨k2, c2, -, -, -, h2⟩ : va_RA s g.2.2.2 (.object "LastCallersWord$State") := (hK.2 2 (g.2.2.2, .object "LastCallersWord$State") rfl).2
  have e : cA = g.2.2.2 := Option.some.inj (h1.symm.trans h2)
  subst e
  exact kk q H1 hP1 hD1 hS1
/-- a constructor of a nest mate is called -/
theorem ci_callN {S : Type} {w' : S → va_W} {post : S → Prop} {wr1 : va_W} (ctx : CallFix p m c cc nL s args Ts own) (hKC : KC g s) (hP : va_P g.1 vwCl W0 H) (hD : va_D A0 W0) (hS : va_S A0 H0 H locs) (hA : ∀ q, H0.size ≤ q → A0 q) (hM : Met l y ws rm (ci g (.ref b :: As) w H.size) (ciQ g w w' post H.size) mc ms (va_A w H.size)) (hG : GoodIn Ts ws) (hN : va_Nw (.methodLinkNest own index y host) s) (hin : (Cond.initialized y.cls).before args s = true) (hyn : y.name = "<init>") (hinm : (Cond.instanceMethod y).before args s = true) (hw : ws = Cond.code y bytes maxL none :: ws') (hrc : rm.cells = mc) (hrs : rm.slots = ms)
    (hd : y.cls ≠ "java/lang/invoke/MethodHandle" ∧ y.cls ≠ "java/lang/invoke/VarHandle" ∧ (parseMethodDescriptor y.desc).map (fun d => d.parameters.length) = some n) (hR : rm.frames + 1 ≤ R.frames ∧ 8 + (maxL + 11) + rm.locals ≤ R.locals) (isC isR : List Nat) (hC : isC.map (fun i => W0[i]?) = w.map some) (hRr : isR.map (fun i => W0[i]?) = wr1.map some) (hnC : va_nd isC = true) (hnR : va_nd isR = true) (hdis : ∀ i ∈ isR, i ∉ isC)
    (hsz : ls.size = nL) (hst : st0 = As.reverse ++ .ref b :: rest) (hn : As.length = n) (hrm : (rest.map fun v => v.category).sum ≤ 8) (hdg : decode cc pc = .ok (.invokespecial index, 3)) (hkc : kc + mc ≤ R.cells ∧ ks + ms ≤ R.slots)
    (kk : ∀ (u : S) (H1 : Heap) (locs1 : List Loc), post u → va_P g.1 vwCl (wr1 ++ w' u) H1 → va_D A0 (wr1 ++ w' u) → va_S A0 H0 H1 locs1 → W p l e R s m args below meth c H1 locs1 (kc + mc) (ks + ms) Q (F0 m (pc + 3) ls rest)) : W p l e R s m args below meth c H locs kc ks Q (F0 m pc ls st0) := by
  have hPc := P_of_map hP hC
  have hDc := hD.sub isC hnC hC
  have hF := va_free hD hS hA isC hC
  refine va_callv (A0 := A0) (H0 := H0) (va_runIN (g := F0 m pc ls st0) (rest := rest) ctx hM ⟨va_cnB n ctx.2.2.2.2 hG hw hrc hrs hN hin hd hR, hyn, hinm⟩ ⟨ci_blind, fun U hU hW => ⟨rfl, by rw [hU], by rw [hU]; exact hPc, hDc.weaken (fun _ _ _ _ => trivial), hKC.warm hW⟩⟩ rfl hn hsz hst (lv_room hrm) hdg hkc) hS (fun q _ h => hF q h) hF (fun u t H1 locs1 ht hvm hw hB hz1 hk1 hS1 => ?_)
  obtain ⟨hP1, hD1⟩ := va_join hP hD isC isR hC hRr hnR hdis hk1 hF (by rw [← ht]; exact hB.1) hB.2
  exact kk u H1 locs1 hw hP1 hD1 hS1
theorem ci_callI {S : Type} {w' : S → va_W} {post : S → Prop} {wr1 : va_W} (ctx : CallFix p m c cc nL s args Ts own) (hKC : KC g s) (hP : va_P g.1 vwCl W0 H) (hD : va_D A0 W0) (hS : va_S A0 H0 H locs) (hA : ∀ q, H0.size ≤ q → A0 q) (hM : Met l y ws rm (ci g (.ref b :: As) w H.size) (ciQ g w w' post H.size) mc ms (va_A w H.size)) (hG : GoodIn Ts ws) (hl : (Cond.methodLink own index y).before args s = true) (hin : (Cond.initialized y.cls).before args s = true) (hyn : y.name = "<init>") (hinm : (Cond.instanceMethod y).before args s = true) (hw : ws = Cond.code y bytes maxL none :: ws') (hrc : rm.cells = mc) (hrs : rm.slots = ms)
    (hd : y.cls ≠ "java/lang/invoke/MethodHandle" ∧ y.cls ≠ "java/lang/invoke/VarHandle" ∧ (parseMethodDescriptor y.desc).map (fun d => d.parameters.length) = some n) (hR : rm.frames + 1 ≤ R.frames ∧ 8 + (maxL + 11) + rm.locals ≤ R.locals) (isC isR : List Nat) (hC : isC.map (fun i => W0[i]?) = w.map some) (hRr : isR.map (fun i => W0[i]?) = wr1.map some) (hnC : va_nd isC = true) (hnR : va_nd isR = true) (hdis : ∀ i ∈ isR, i ∉ isC)
    (hsz : ls.size = nL) (hst : st0 = As.reverse ++ .ref b :: rest) (hn : As.length = n) (hrm : (rest.map fun v => v.category).sum ≤ 8) (hdg : decode cc pc = .ok (.invokespecial index, 3)) (hkc : kc + mc ≤ R.cells ∧ ks + ms ≤ R.slots)
    (kk : ∀ (u : S) (H1 : Heap) (locs1 : List Loc), post u → va_P g.1 vwCl (wr1 ++ w' u) H1 → va_D A0 (wr1 ++ w' u) → va_S A0 H0 H1 locs1 → W p l e R s m args below meth c H1 locs1 (kc + mc) (ks + ms) Q (F0 m (pc + 3) ls rest)) : W p l e R s m args below meth c H locs kc ks Q (F0 m pc ls st0) := by
  have hPc := P_of_map hP hC
  have hDc := hD.sub isC hnC hC
  have hF := va_free hD hS hA isC hC
  refine va_callv (A0 := A0) (H0 := H0) (va_runI (g := F0 m pc ls st0) (rest := rest) ctx hM (cwI n ctx.2.2.2.2 hG hw hrc hrs hin hl hinm hyn hd hR) ⟨ci_blind, fun U hU hW => ⟨rfl, by rw [hU], by rw [hU]; exact hPc, hDc.weaken (fun _ _ _ _ => trivial), hKC.warm hW⟩⟩ rfl hn hsz hst (lv_room hrm) hdg hkc) hS (fun q _ h => hF q h) hF (fun u t H1 locs1 ht hvm hw hB hz1 hk1 hS1 => ?_)
  obtain ⟨hP1, hD1⟩ := va_join hP hD isC isR hC hRr hnR hdis hk1 hF (by rw [← ht]; exact hB.1) hB.2
  exact kk u H1 locs1 hw hP1 hD1 hS1
end CNEW
def updT {α : Type} (f : Nat → α) (k : Nat) (v : α) : Nat → α := fun j => cond (Nat.beq j k) v (f j)
