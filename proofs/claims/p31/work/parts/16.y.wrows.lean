/-! calls that wrote: the caller's cells behind it are told as they are -/
theorem jnW {A0 : Nat → Prop} {D : va_G} {cl : List vw_C} {ws wc w1 W1 wr1 : va_W} {H H1 : Heap} {N : Nat} (hP : va_P D cl ws H) (hD : va_D A0 ws) (pl isR : List Nat) (hC : pl.map (fun i => ws[i]?) = wc.map some) (hcov : ∀ k, k < N → k ∈ pl ∨ k ∈ isR) (hlen : W1.length = N) (h1 : pl.map (fun i => W1[i]?) = w1.map some) (h2 : isR.map (fun i => W1[i]?) = wr1.map some) (h3 : isR.map (fun i => ws[i]?) = wr1.map some) (hdis : ∀ i ∈ isR, i ∉ pl)
    (hk : ∀ q : Nat, q < H.size → ¬ cA wc q → H1[q]? = H[q]?) (hP1 : va_P D cl w1 H1) (hD1 : va_D (cA wc) w1) : va_P D cl W1 H1 ∧ va_D A0 W1 := by
  have at1 : ∀ (j k : Nat) (q : Nat × va_E), pl[j]? = some k → W1[k]? = some q → w1[j]? = some q := by
    intro j k q hj hq
    have e : (pl.map (fun i => W1[i]?))[j]? = some (some q) := by rw [List.getElem?_map, hj]; exact congrArg some hq
    rw [h1, List.getElem?_map] at e
    cases hw : w1[j]? with
    | none => rw [hw] at e; cases e
    | some z => rw [hw] at e; exact congrArg some (Option.some.inj (Option.some.inj e))
  have at2 : ∀ (k : Nat) (q : Nat × va_E), k ∈ isR → W1[k]? = some q → ws[k]? = some q := by
    intro k q hk hq
    obtain ⟨j, hj⟩ := List.getElem?_of_mem hk
    have e : (isR.map (fun i => W1[i]?))[j]? = some (some q) := by rw [List.getElem?_map, hj]; exact congrArg some hq
    rw [h2, ← h3, List.getElem?_map, hj] at e
    exact Option.some.inj e
  have cases1 : ∀ (k : Nat) (q : Nat × va_E), W1[k]? = some q → (∃ j : Nat, pl[j]? = some k ∧ w1[j]? = some q) ∨ (k ∉ pl ∧ ws[k]? = some q) := by
    intro k q hq
    have hlt : k < N := by rw [← hlen]; exact (List.getElem?_eq_some_iff.mp hq).1
    rcases hcov k hlt with h | h
    · obtain ⟨j, hj⟩ := List.getElem?_of_mem h
      exact Or.inl ⟨j, hj, at1 j k q hj hq⟩
    · exact Or.inr ⟨hdis k h, at2 k q h hq⟩
  have inpl : ∀ (a i : Nat) (q : Nat × va_E), cA wc a → ws[i]? = some q → q.1 = a → i ∈ pl := by
    intro a i q hc hq ha
    obtain ⟨k, e, hke⟩ := hc
    obtain ⟨j, h1, h2⟩ := map_at hC hke
    have := hD.1 i j q (a, e) hq h2 ha
    subst this
    exact List.mem_of_getElem? h1
  refine ⟨fun k q h => ?_, fun i j x y hx hy hxy => ?_, fun k q h => ?_⟩
  · rcases cases1 k q h with ⟨j, -, h2⟩ | ⟨h1, h2⟩
    · exact hP1 j q h2
    · exact (hP k q h2).kept (hk q.1 (hP k q h2).lt (fun hc => h1 (inpl q.1 k q hc h2 rfl)))
  · rcases cases1 i x hx with ⟨a, h1, h2⟩ | ⟨h1, h2⟩ <;> rcases cases1 j y hy with ⟨b, h3, h4⟩ | ⟨h3, h4⟩
    · have := hD1.1 a b x y h2 h4 hxy
      subst this
      rw [h1] at h3
      exact Option.some.inj h3
    · exact absurd (inpl x.1 j y (hD1.2 a x h2) h4 hxy.symm) h3
    · exact absurd (inpl y.1 i x (hD1.2 b y h4) h2 hxy) h1
    · exact hD.1 i j x y h2 h4 hxy
  · rcases cases1 k q h with ⟨j, -, h2⟩ | ⟨h1, h2⟩
    · obtain ⟨k2, e, hke⟩ := hD1.2 j q h2
      obtain ⟨i, -, h4⟩ := map_at hC hke
      exact hD.2 i (q.1, e) h4
    · exact hD.2 k q h2
section WCALLS
variable {p : Program} {l : Launch} {e : Env} {R : Room} {s : State} {m : MethodId} {args : Array Value} {below : List Frame} {meth : Method} {c : Code} {H : Heap} {locs : List Loc} {Q : State → Prop} {g : GG}
  {y : MethodName} {bytes cc : ByteArray} {maxL nL n index pc b : Nat} {ret : Option FieldType} {ws ws' Ts : List Cond} {rm : Room} {own C : String} {As rest st0 : List Value} {ls : Array Slot} {w W0 : va_W} {A0 : Nat → Prop} {H0 : Heap} {kc ks : Nat}
theorem wr_callViW {S : Type} {w' : S → va_W} {post : Int32 → S → Prop} (hkc : kc ≤ R.cells ∧ ks ≤ R.slots) (ctx : CallFix p m c cc nL s args Ts own) (hKK : KK g s) (hP : va_P g.1 vwCl W0 H) (hD : va_D A0 W0) (hS : va_S A0 H0 H locs) (hM : Met l y ws rm (wr g (.ref b :: As) w) (wQi g w w' post) 0 0 (cA w)) (hG : GoodIn Ts (wsV own index C y ws)) (hw : ws = Cond.code y bytes maxL ret :: ws') (hrc : rm.cells = 0) (hrs : rm.slots = 0)
    (hd : y.cls = C ∧ y.cls ≠ "java/lang/invoke/MethodHandle" ∧ y.cls ≠ "java/lang/invoke/VarHandle" ∧ (parseMethodDescriptor y.desc).map (fun d => d.parameters.length) = some n) (hR : rm.frames + 1 ≤ R.frames ∧ 8 + (maxL + 11) + rm.locals ≤ R.locals) (pl : List Nat) (hnd : va_nd pl = true) (hs : pl.map (fun i => W0[i]?) = w.map some) (isR : List Nat) (wr1 : va_W) (N : Nat) (W1 : S → va_W) (hcov : ∀ k, k < N → k ∈ pl ∨ k ∈ isR) (hdis : ∀ i ∈ isR, i ∉ pl) (hlen : ∀ u, (W1 u).length = N) (h1 : ∀ u, pl.map (fun i => (W1 u)[i]?) = (w' u).map some) (h2 : ∀ u, isR.map (fun i => (W1 u)[i]?) = wr1.map some) (h3 : isR.map (fun i => W0[i]?) = wr1.map some)
    {ci q0 : Nat} {fs : List Value} {T : u_T} {N : Nat} (hc : vwCl[ci]? = some (C, T, N)) (he : w[q0]? = some (b, .inr (ci, fs))) (hsz : ls.size = nL) (hst : st0 = As.reverse ++ .ref b :: rest) (hn : As.length = n) (hrm : (rest.map fun v => v.category).sum ≤ 8) (hdg : decode cc pc = .ok (.invokevirtual index, 3))
    (kk : ∀ (r : Int32) (u : S) (H1 : Heap) (locs1 : List Loc), post r u → va_P g.1 vwCl (W1 u) H1 → va_D A0 (W1 u) → va_S A0 H0 H1 locs1 → W p l e R s m args below meth c H1 locs1 kc ks Q (F0 m (pc + 3) ls (.int r :: rest))) : W p l e R s m args below meth c H locs kc ks Q (F0 m pc ls st0) := by
  have hPc := P_of_map hP hs
  have hDc := hD.sub pl hnd hs
  refine va_calli (A0 := A0) (H0 := H0) (va_runV (g := F0 m pc ls st0) (rest := rest) ctx hM (cwV n ctx.2.2.2.2 hG hw hrc hrs hd hR) ⟨wr_blind, va_recv hKK.1 hPc hc he, fun U hU hW => ⟨rfl, by rw [hU]; exact hPc, hDc.weaken (fun _ _ _ _ => trivial), hKK.warm hW⟩⟩ rfl hn hsz hst (lv_room hrm) hdg ⟨hkc.1, hkc.2⟩) hS (fun q _ h => cA_in hD hs h) (fun q h => cA_in hD hs h) (fun r u t H1 locs1 ht hvm hw hB hz1 hk1 hS1 => ?_)
  obtain ⟨hP1, hD1⟩ := jnW hP hD pl isR hs hcov (hlen u) (h1 u) (h2 u) h3 hdis hk1 (by rw [← ht]; exact hB.1) hB.2
  exact kk r u H1 locs1 hw hP1 hD1 hS1
theorem wr_callVvW {S : Type} {w' : S → va_W} {post : S → Prop} (hkc : kc ≤ R.cells ∧ ks ≤ R.slots) (ctx : CallFix p m c cc nL s args Ts own) (hKK : KK g s) (hP : va_P g.1 vwCl W0 H) (hD : va_D A0 W0) (hS : va_S A0 H0 H locs) (hM : Met l y ws rm (wr g (.ref b :: As) w) (wQv g w w' post) 0 0 (cA w)) (hG : GoodIn Ts (wsV own index C y ws)) (hw : ws = Cond.code y bytes maxL ret :: ws') (hrc : rm.cells = 0) (hrs : rm.slots = 0)
    (hd : y.cls = C ∧ y.cls ≠ "java/lang/invoke/MethodHandle" ∧ y.cls ≠ "java/lang/invoke/VarHandle" ∧ (parseMethodDescriptor y.desc).map (fun d => d.parameters.length) = some n) (hR : rm.frames + 1 ≤ R.frames ∧ 8 + (maxL + 11) + rm.locals ≤ R.locals) (pl : List Nat) (hnd : va_nd pl = true) (hs : pl.map (fun i => W0[i]?) = w.map some) (isR : List Nat) (wr1 : va_W) (N : Nat) (W1 : S → va_W) (hcov : ∀ k, k < N → k ∈ pl ∨ k ∈ isR) (hdis : ∀ i ∈ isR, i ∉ pl) (hlen : ∀ u, (W1 u).length = N) (h1 : ∀ u, pl.map (fun i => (W1 u)[i]?) = (w' u).map some) (h2 : ∀ u, isR.map (fun i => (W1 u)[i]?) = wr1.map some) (h3 : isR.map (fun i => W0[i]?) = wr1.map some)
    {ci q0 : Nat} {fs : List Value} {T : u_T} {N : Nat} (hc : vwCl[ci]? = some (C, T, N)) (he : w[q0]? = some (b, .inr (ci, fs))) (hsz : ls.size = nL) (hst : st0 = As.reverse ++ .ref b :: rest) (hn : As.length = n) (hrm : (rest.map fun v => v.category).sum ≤ 8) (hdg : decode cc pc = .ok (.invokevirtual index, 3))
    (kk : ∀ (u : S) (H1 : Heap) (locs1 : List Loc), post u → va_P g.1 vwCl (W1 u) H1 → va_D A0 (W1 u) → va_S A0 H0 H1 locs1 → W p l e R s m args below meth c H1 locs1 kc ks Q (F0 m (pc + 3) ls rest)) : W p l e R s m args below meth c H locs kc ks Q (F0 m pc ls st0) := by
  have hPc := P_of_map hP hs
  have hDc := hD.sub pl hnd hs
  refine va_callv (A0 := A0) (H0 := H0) (va_runV (g := F0 m pc ls st0) (rest := rest) ctx hM (cwV n ctx.2.2.2.2 hG hw hrc hrs hd hR) ⟨wr_blind, va_recv hKK.1 hPc hc he, fun U hU hW => ⟨rfl, by rw [hU]; exact hPc, hDc.weaken (fun _ _ _ _ => trivial), hKK.warm hW⟩⟩ rfl hn hsz hst (lv_room hrm) hdg ⟨hkc.1, hkc.2⟩) hS (fun q _ h => cA_in hD hs h) (fun q h => cA_in hD hs h) (fun u t H1 locs1 ht hvm hw hB hz1 hk1 hS1 => ?_)
  obtain ⟨hP1, hD1⟩ := jnW hP hD pl isR hs hcov (hlen u) (h1 u) (h2 u) h3 hdis hk1 (by rw [← ht]; exact hB.1) hB.2
  exact kk u H1 locs1 hw hP1 hD1 hS1
theorem wr_callSvW {S : Type} {w' : S → va_W} {post : S → Prop} (hkc : kc ≤ R.cells ∧ ks ≤ R.slots) (ctx : CallFix p m c cc nL s args Ts own) (hKK : KK g s) (hP : va_P g.1 vwCl W0 H) (hD : va_D A0 W0) (hS : va_S A0 H0 H locs) (hM : Met l y ws rm (wr g As w) (wQv g w w' post) 0 0 (cA w)) (hG : GoodIn Ts (va_wsS own index y ws)) (hw : ws = Cond.code y bytes maxL ret :: ws') (hrc : rm.cells = 0) (hrs : rm.slots = 0)
    (hd : y.cls ≠ "java/lang/invoke/MethodHandle" ∧ y.cls ≠ "java/lang/invoke/VarHandle" ∧ (parseMethodDescriptor y.desc).map (fun d => d.parameters.length) = some n) (hR : rm.frames + 1 ≤ R.frames ∧ 8 + (maxL + 11) + rm.locals ≤ R.locals) (pl : List Nat) (hnd : va_nd pl = true) (hs : pl.map (fun i => W0[i]?) = w.map some) (isR : List Nat) (wr1 : va_W) (N : Nat) (W1 : S → va_W) (hcov : ∀ k, k < N → k ∈ pl ∨ k ∈ isR) (hdis : ∀ i ∈ isR, i ∉ pl) (hlen : ∀ u, (W1 u).length = N) (h1 : ∀ u, pl.map (fun i => (W1 u)[i]?) = (w' u).map some) (h2 : ∀ u, isR.map (fun i => (W1 u)[i]?) = wr1.map some) (h3 : isR.map (fun i => W0[i]?) = wr1.map some)
    (hsz : ls.size = nL) (hst : st0 = As.reverse ++ rest) (hn : As.length = n) (hrm : (rest.map fun v => v.category).sum ≤ 8) (hdg : decode cc pc = .ok (.invokestatic index, 3))
    (kk : ∀ (u : S) (H1 : Heap) (locs1 : List Loc), post u → va_P g.1 vwCl (W1 u) H1 → va_D A0 (W1 u) → va_S A0 H0 H1 locs1 → W p l e R s m args below meth c H1 locs1 kc ks Q (F0 m (pc + 3) ls rest)) : W p l e R s m args below meth c H locs kc ks Q (F0 m pc ls st0) := by
  have hPc := P_of_map hP hs
  have hDc := hD.sub pl hnd hs
  refine va_callv (A0 := A0) (H0 := H0) (va_runS (g := F0 m pc ls st0) (rest := rest) ctx hM (va_cwS n ctx.2.2.2.2 hG hw hrc hrs hd hR) ⟨wr_blind, fun U hU hW => ⟨rfl, by rw [hU]; exact hPc, hDc.weaken (fun _ _ _ _ => trivial), hKK.warm hW⟩⟩ rfl hn hsz hst (lv_room hrm) hdg ⟨hkc.1, hkc.2⟩) hS (fun q _ h => cA_in hD hs h) (fun q h => cA_in hD hs h) (fun u t H1 locs1 ht hvm hw hB hz1 hk1 hS1 => ?_)
  obtain ⟨hP1, hD1⟩ := jnW hP hD pl isR hs hcov (hlen u) (h1 u) (h2 u) h3 hdis hk1 (by rw [← ht]; exact hB.1) hB.2
  exact kk u H1 locs1 hw hP1 hD1 hS1
end WCALLS
