/-! the law's world: the class's object and the model's side by side -/
theorem ap_get {wa wb : va_W} {k : Nat} {q : Nat × va_E} (h : (wa ++ wb)[k]? = some q) : (k < wa.length ∧ wa[k]? = some q) ∨ (wa.length ≤ k ∧ wb[k - wa.length]? = some q) := by
  by_cases hk : k < wa.length
  · rw [List.getElem?_append_left hk] at h
    exact Or.inl ⟨hk, h⟩
  · rw [List.getElem?_append_right (by omega)] at h
    exact Or.inr ⟨by omega, h⟩
theorem ap_l {wa wb : va_W} {k : Nat} {q : Nat × va_E} (h : wa[k]? = some q) : (wa ++ wb)[k]? = some q := by
  rw [List.getElem?_append_left (List.getElem?_eq_some_iff.mp h).1]; exact h
theorem ap_r {wa wb : va_W} {k : Nat} {q : Nat × va_E} (h : wb[k]? = some q) : (wa ++ wb)[wa.length + k]? = some q := by
  rw [List.getElem?_append_right (by omega)]
  rw [show wa.length + k - wa.length = k by omega]; exact h
theorem P_l {D : va_G} {cl : List vw_C} {wa wb : va_W} {H : Heap} (hP : va_P D cl (wa ++ wb) H) : va_P D cl wa H := fun k q h => hP k q (ap_l h)
theorem P_r {D : va_G} {cl : List vw_C} {wa wb : va_W} {H : Heap} (hP : va_P D cl (wa ++ wb) H) : va_P D cl wb H := fun k q h => hP _ q (ap_r (wa := wa) h)
theorem D_l {A : Nat → Prop} {wa wb : va_W} (hD : va_D A (wa ++ wb)) : va_D A wa := ⟨fun i j x y hx hy e => hD.1 i j x y (ap_l hx) (ap_l hy) e, fun k q h => hD.2 k q (ap_l h)⟩
theorem D_r {A : Nat → Prop} {wa wb : va_W} (hD : va_D A (wa ++ wb)) : va_D A wb := ⟨fun i j x y hx hy e => by have := hD.1 _ _ x y (ap_r (wa := wa) hx) (ap_r (wa := wa) hy) e; omega, fun k q h => hD.2 _ q (ap_r (wa := wa) h)⟩
theorem D_x {A : Nat → Prop} {wa wb : va_W} (hD : va_D A (wa ++ wb)) {i j : Nat} {x y : Nat × va_E} (hx : wa[i]? = some x) (hy : wb[j]? = some y) : x.1 ≠ y.1 := fun e => by
  have h1 := hD.1 _ _ x y (ap_l (wb := wb) hx) (ap_r (wa := wa) hy) e
  have h2 := (List.getElem?_eq_some_iff.mp hx).1
  omega
theorem jnL {A0 : Nat → Prop} {D : va_G} {cl : List vw_C} {wa wb w1 : va_W} {H H1 : Heap} (hP : va_P D cl (wa ++ wb) H) (hD : va_D A0 (wa ++ wb)) (hk : ∀ q : Nat, q < H.size → ¬ cA wa q → H1[q]? = H[q]?) (hP1 : va_P D cl w1 H1) (hD1 : va_D (cA wa) w1) : va_P D cl (w1 ++ wb) H1 ∧ va_D A0 (w1 ++ wb) := by
  have sep : ∀ (j : Nat) (y : Nat × va_E) (a : Nat), cA wa a → wb[j]? = some y → a ≠ y.1 := by
    intro j y a hc hy
    obtain ⟨k, e, hke⟩ := hc
    exact D_x hD hke hy
  refine ⟨fun k q h => ?_, fun i j x y hx hy e => ?_, fun k q h => ?_⟩
  · rcases ap_get h with ⟨-, h⟩ | ⟨-, h⟩
    · exact hP1 _ q h
    · exact (P_r hP _ q h).kept (hk q.1 (P_r hP _ q h).lt (fun hc => sep _ q _ hc h rfl))
  · rcases ap_get hx with ⟨hi, hx⟩ | ⟨hi, hx⟩ <;> rcases ap_get hy with ⟨hj, hy⟩ | ⟨hj, hy⟩
    · exact hD1.1 i j x y hx hy e
    · exact absurd e (sep _ y _ (hD1.2 i x hx) hy)
    · exact absurd e.symm (sep _ x _ (hD1.2 j y hy) hx)
    · have := (D_r hD).1 _ _ x y hx hy e; omega
  · rcases ap_get h with ⟨-, h⟩ | ⟨-, h⟩
    · obtain ⟨k2, e, hke⟩ := hD1.2 _ q h
      exact (D_l hD).2 k2 (q.1, e) hke
    · exact (D_r hD).2 _ q h
theorem jnR {A0 : Nat → Prop} {D : va_G} {cl : List vw_C} {wa wb w1 : va_W} {H H1 : Heap} (hP : va_P D cl (wa ++ wb) H) (hD : va_D A0 (wa ++ wb)) (hk : ∀ q : Nat, q < H.size → ¬ cA wb q → H1[q]? = H[q]?) (hP1 : va_P D cl w1 H1) (hD1 : va_D (cA wb) w1) : va_P D cl (wa ++ w1) H1 ∧ va_D A0 (wa ++ w1) := by
  have sep : ∀ (j : Nat) (y : Nat × va_E) (a : Nat), cA wb a → wa[j]? = some y → y.1 ≠ a := by
    intro j y a hc hy
    obtain ⟨k, e, hke⟩ := hc
    exact D_x hD hy hke
  refine ⟨fun k q h => ?_, fun i j x y hx hy e => ?_, fun k q h => ?_⟩
  · rcases ap_get h with ⟨-, h⟩ | ⟨-, h⟩
    · exact (P_l hP _ q h).kept (hk q.1 (P_l hP _ q h).lt (fun hc => sep _ q _ hc h rfl))
    · exact hP1 _ q h
  · rcases ap_get hx with ⟨hi, hx⟩ | ⟨hi, hx⟩ <;> rcases ap_get hy with ⟨hj, hy⟩ | ⟨hj, hy⟩
    · exact (D_l hD).1 i j x y hx hy e
    · exact absurd e (sep _ x _ (hD1.2 _ y hy) hx)
    · exact absurd e.symm (sep _ y _ (hD1.2 _ x hx) hy)
    · have := hD1.1 _ _ x y hx hy e; omega
  · rcases ap_get h with ⟨-, h⟩ | ⟨-, h⟩
    · exact (D_l hD).2 _ q h
    · obtain ⟨k2, e, hke⟩ := hD1.2 _ q h
      exact (D_r hD).2 k2 (q.1, e) hke
section LCALLS
variable {p : Program} {l : Launch} {e : Env} {R : Room} {s : State} {m : MethodId} {args : Array Value} {below : List Frame} {meth : Method} {c : Code} {H : Heap} {locs : List Loc} {Q : State → Prop} {g : GG}
  {y : MethodName} {bytes cc : ByteArray} {maxL nL n index pc b : Nat} {ret : Option FieldType} {ws ws' Ts : List Cond} {rm : Room} {own C : String} {As rest st0 : List Value} {ls : Array Slot} {w wa wb : va_W} {A0 : Nat → Prop} {H0 : Heap} {kc ks : Nat}
theorem wr_callL {S : Type} {w' : S → va_W} {post : Int32 → S → Prop} (hkc : kc ≤ R.cells ∧ ks ≤ R.slots) (ctx : CallFix p m c cc nL s args Ts own) (hKK : KK g s) (hP0 : va_P g.1 vwCl (w ++ wb) H) (hD0 : va_D A0 (w ++ wb)) (hS : va_S A0 H0 H locs) (hM : Met l y ws rm (wr g (.ref b :: As) w) (wQi g w w' post) 0 0 (cA w)) (hG : GoodIn Ts (wsV own index C y ws)) (hw : ws = Cond.code y bytes maxL ret :: ws') (hrc : rm.cells = 0) (hrs : rm.slots = 0)
    (hd : y.cls = C ∧ y.cls ≠ "java/lang/invoke/MethodHandle" ∧ y.cls ≠ "java/lang/invoke/VarHandle" ∧ (parseMethodDescriptor y.desc).map (fun d => d.parameters.length) = some n) (hR : rm.frames + 1 ≤ R.frames ∧ 8 + (maxL + 11) + rm.locals ≤ R.locals)
    {ci q0 : Nat} {fs : List Value} {T : u_T} {N : Nat} (hc : vwCl[ci]? = some (C, T, N)) (he : w[q0]? = some (b, .inr (ci, fs))) (hsz : ls.size = nL) (hst : st0 = As.reverse ++ .ref b :: rest) (hn : As.length = n) (hrm : (rest.map fun v => v.category).sum ≤ 8) (hdg : decode cc pc = .ok (.invokevirtual index, 3))
    (kk : ∀ (r : Int32) (u : S) (H1 : Heap) (locs1 : List Loc), post r u → va_P g.1 vwCl (w' u ++ wb) H1 → va_D A0 (w' u ++ wb) → va_S A0 H0 H1 locs1 → W p l e R s m args below meth c H1 locs1 kc ks Q (F0 m (pc + 3) ls (.int r :: rest))) : W p l e R s m args below meth c H locs kc ks Q (F0 m pc ls st0) := by
  have hP := P_l hP0
  have hD := D_l hD0
  have hin : ∀ q, cA w q → A0 q := fun q h => by obtain ⟨k, e, hke⟩ := h; exact hD.2 k _ hke
  refine va_calli (A0 := A0) (H0 := H0) (va_runV (g := F0 m pc ls st0) (rest := rest) ctx hM (cwV n ctx.2.2.2.2 hG hw hrc hrs hd hR) ⟨wr_blind, va_recv hKK.1 hP hc he, fun U hU hW => ⟨rfl, by rw [hU]; exact hP, hD.weaken (fun _ _ _ _ => trivial), hKK.warm hW⟩⟩ rfl hn hsz hst (lv_room hrm) hdg ⟨hkc.1, hkc.2⟩) hS (fun q _ h => hin q h) hin (fun r u t H1 locs1 ht hvm hw hB hz1 hk1 hS1 => ?_)
  obtain ⟨hP1, hD1⟩ := jnL hP0 hD0 hk1 (by rw [← ht]; exact hB.1) hB.2
  exact kk r u H1 locs1 hw hP1 hD1 hS1
theorem wr_callR {S : Type} {w' : S → va_W} {post : Int32 → S → Prop} (hkc : kc ≤ R.cells ∧ ks ≤ R.slots) (ctx : CallFix p m c cc nL s args Ts own) (hKK : KK g s) (hP0 : va_P g.1 vwCl (wa ++ w) H) (hD0 : va_D A0 (wa ++ w)) (hS : va_S A0 H0 H locs) (hM : Met l y ws rm (wr g (.ref b :: As) w) (wQi g w w' post) 0 0 (cA w)) (hG : GoodIn Ts (wsV own index C y ws)) (hw : ws = Cond.code y bytes maxL ret :: ws') (hrc : rm.cells = 0) (hrs : rm.slots = 0)
    (hd : y.cls = C ∧ y.cls ≠ "java/lang/invoke/MethodHandle" ∧ y.cls ≠ "java/lang/invoke/VarHandle" ∧ (parseMethodDescriptor y.desc).map (fun d => d.parameters.length) = some n) (hR : rm.frames + 1 ≤ R.frames ∧ 8 + (maxL + 11) + rm.locals ≤ R.locals)
    {ci q0 : Nat} {fs : List Value} {T : u_T} {N : Nat} (hc : vwCl[ci]? = some (C, T, N)) (he : w[q0]? = some (b, .inr (ci, fs))) (hsz : ls.size = nL) (hst : st0 = As.reverse ++ .ref b :: rest) (hn : As.length = n) (hrm : (rest.map fun v => v.category).sum ≤ 8) (hdg : decode cc pc = .ok (.invokevirtual index, 3))
    (kk : ∀ (r : Int32) (u : S) (H1 : Heap) (locs1 : List Loc), post r u → va_P g.1 vwCl (wa ++ w' u) H1 → va_D A0 (wa ++ w' u) → va_S A0 H0 H1 locs1 → W p l e R s m args below meth c H1 locs1 kc ks Q (F0 m (pc + 3) ls (.int r :: rest))) : W p l e R s m args below meth c H locs kc ks Q (F0 m pc ls st0) := by
  have hP := P_r hP0
  have hD := D_r hD0
  have hin : ∀ q, cA w q → A0 q := fun q h => by obtain ⟨k, e, hke⟩ := h; exact hD.2 k _ hke
  refine va_calli (A0 := A0) (H0 := H0) (va_runV (g := F0 m pc ls st0) (rest := rest) ctx hM (cwV n ctx.2.2.2.2 hG hw hrc hrs hd hR) ⟨wr_blind, va_recv hKK.1 hP hc he, fun U hU hW => ⟨rfl, by rw [hU]; exact hP, hD.weaken (fun _ _ _ _ => trivial), hKK.warm hW⟩⟩ rfl hn hsz hst (lv_room hrm) hdg ⟨hkc.1, hkc.2⟩) hS (fun q _ h => hin q h) hin (fun r u t H1 locs1 ht hvm hw hB hz1 hk1 hS1 => ?_)
  obtain ⟨hP1, hD1⟩ := jnR hP0 hD0 hk1 (by rw [← ht]; exact hB.1) hB.2
  exact kk r u H1 locs1 hw hP1 hD1 hS1
end LCALLS
