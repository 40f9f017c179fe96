/-! base: the tables' facts that every method takes (KK), the start of a method that reads (ro), of one that writes (wr), and their calls -/
abbrev GG : Type := va_G × ClassId × ClassId × ClassId
def tysG (g : GG) : List (ClassId × FieldType) := [(g.2.1, .int), (g.2.2.1, .char), (g.2.2.2, .object "LastCallersWord$State")]
/-- what holds of the tables all along: the classes, the array classes, the links among nest mates -/
def KK (g : GG) (U : State) : Prop := va_K g.1 vwCl (tysG g) U ∧ va_Nw (.methodLinkNest RX6 52 yX7_pair RX7) U ∧ va_Nw (.methodLinkNest RX6 55 yX7_has RX7) U ∧ va_Nw (.methodLinkNest RX2 81 yX7_pair RX7) U
theorem KK.warm {g : GG} {s U : State} (hW : s.WarmedH U.vm) (h : KK g s) : KK g U := ⟨va_K.moved hW.alike h.1, va_Nw.warmM hW h.2.1, va_Nw.warmM hW h.2.2.1, va_Nw.warmM hW h.2.2.2⟩
theorem KK.calling {g : GG} {U : State} {f : JFrame} {mk : MethodId} {a : Array Value} (h : KK g U) : KK g (U.calling f mk a) := ⟨va_K.moved (u := U) (Vm.Alike.refl U.vm) h.1, va_Nw.same rfl rfl h.2.1, va_Nw.same rfl rfl h.2.2.1, va_Nw.same rfl rfl h.2.2.2⟩
/-- which cells a list has -/
def cA (w : va_W) : Nat → Prop := fun q => ∃ (k : Nat) (e : va_E), w[k]? = some (q, e)
theorem cA_self {w : va_W} {A : Nat → Prop} (h : va_D A w) : va_D (cA w) w := ⟨h.1, fun k q hk => ⟨k, q.2, hk⟩⟩
/-- a method that reads: its start -/
def ro (g : GG) (av : List Value) (w : va_W) : Array Value → State → Prop := va_Pc av (fun U => va_P g.1 vwCl w U.heap ∧ KK g U)
theorem ro_blind {g : GG} {av : List Value} {w : va_W} : FrameBlind (ro g av w) := fun _ _ _ _ h => ⟨h.1, h.2.1, h.2.2.calling⟩
/-- a method that writes, and makes nothing: its start, its end -/
def wr (g : GG) (av : List Value) (w : va_W) : Array Value → State → Prop := va_Pc av (fun U => va_P g.1 vwCl w U.heap ∧ va_D (fun _ => True) w ∧ KK g U)
theorem wr_blind {g : GG} {av : List Value} {w : va_W} : FrameBlind (wr g av w) := fun _ _ _ _ h => ⟨h.1, h.2.1, h.2.2.1, h.2.2.2.calling⟩
def wB {S : Type} (g : GG) (w : va_W) (w' : S → va_W) : S → State → Prop := fun u t => va_P g.1 vwCl (w' u) t.heap ∧ va_D (cA w) (w' u)
abbrev wQi {S : Type} (g : GG) (w : va_W) (w' : S → va_W) (post : Int32 → S → Prop) : Array Value → State → Outcome → State → Prop := va_Qi post (wB g w w') (cA w)
abbrev wQv {S : Type} (g : GG) (w : va_W) (w' : S → va_W) (post : S → Prop) : Array Value → State → Outcome → State → Prop := va_Qv post (wB g w w') (cA w)
/-- what a method's walk has in hand -/
def MC (p : Program) (m : MethodId) (meth : Method) (c : Code) (s : State) (args : Array Value) (own : String) (Ts : List Cond) (cc : ByteArray) (nL : Nat) (ret : Option FieldType) (g : GG) : Prop :=
  p.tables.exec = Jvm.exec ∧ c.code = cc ∧ c.maxLocals = nL ∧ meth.sig.returnType = ret ∧ s.vm.findClass own = some m.cls ∧ (∀ w ∈ Ts, w.before args s = true) ∧ meth.locks = false ∧ KK g s
theorem lv_is {p : Program} {l : Launch} {e : Env} {R : Room} {s : State} {m : MethodId} {args : Array Value} {below : List Frame} {meth : Method} {c : Code} {H : Heap} {locs : List Loc} {cells slots : Nat} {Q : State → Prop} {pc : Nat} {ls : Array Slot} {rest : List Value} {x x' : Int32} (h : x = x') (k : W p l e R s m args below meth c H locs cells slots Q (F0 m pc ls (.int x' :: rest))) : W p l e R s m args below meth c H locs cells slots Q (F0 m pc ls (.int x :: rest)) := h ▸ k
section ROS
variable {l : Launch} {y : MethodName} {ws ws' : List Cond} {rm : Room} {g : GG} {av : List Value} {w : va_W} {cc : ByteArray} {maxL : Nat}
/-- a reading method with an int (boolean, char ..) for an answer, from its entry -/
theorem ro_start {post : Int32 → Prop} {ty : FieldType} (hy : plainName y.cls = true) (hw : ws = Cond.code y cc maxL (some ty) :: ws') (hlen : (lg_sl av).length ≤ maxL)
    (body : ∀ (p : Program) (e : Env) (s : State) (m : MethodId) (args : Array Value) (below : List Frame) (meth : Method) (c : Code) (Q : State → Prop), MC p m meth c s args y.cls ws cc maxL (some ty) g → va_P g.1 vwCl w s.heap →
      (∀ (r : Int32) (pc : Nat) (ls : Array Slot), post r → narrow ty (.int r) = .int r → decode cc pc = .ok (.ireturn, 1) → W p l e rm s m args below meth c s.heap [] 0 0 Q (F0 m pc ls [.int r])) →
      ∀ ls : Array Slot, lv_has ls maxL (lv_args 0 av) → W p l e rm s m args below meth c s.heap [] 0 0 Q (F0 m 0 ls [])) :
    Met l y ws rm (ro g av w) (vp_Si post) 0 0 (fun _ => False) := by
  refine Met.ofW (cc := cc) (maxL := maxL) (ret := some ty) hy hw ?_
  intro p e s m args below meth c s₁ B hml hv
  obtain ⟨rfl, hP, hKK⟩ := hv
  have hl := lv_entry av (n := maxL) hlen
  rw [lg_entry_eq]
  generalize (lg_sl av ++ List.replicate (maxL - (lg_sl av).length) Slot.unset).toArray = ls at hl ⊢
  refine body p e s m _ below meth c _ ⟨B.exec, B.bytes, hml, B.returns, findClass_of_methodNamed B.named, atoms_spec (ws := ws) B.pre, B.notSynchronized, hKK⟩ hP ?_ ls hl
  intro r pc ls hr hn hd
  exact W.zret (v := r) B.exec B.bytes B.returns hn (fun t ht hW => ⟨r, rfl, hr, ht⟩) (fun _ h => by cases h) hd B.notSynchronized
/-- a writing method with an int for an answer, from its entry -/
theorem wr_starti {S : Type} {w' : S → va_W} {post : Int32 → S → Prop} {ty : FieldType} (hy : plainName y.cls = true) (hw : ws = Cond.code y cc maxL (some ty) :: ws') (hlen : (lg_sl av).length ≤ maxL)
    (body : ∀ (p : Program) (e : Env) (s : State) (m : MethodId) (args : Array Value) (below : List Frame) (meth : Method) (c : Code) (Q : State → Prop) (A : Nat → Prop), MC p m meth c s args y.cls ws cc maxL (some ty) g → va_P g.1 vwCl w s.heap → va_D A w → va_S A s.heap s.heap [] →
      (∀ (r : Int32) (u : S) (H : Heap) (locs : List Loc) (pc : Nat) (ls : Array Slot), post r u → va_P g.1 vwCl (w' u) H → va_D A (w' u) → va_S A s.heap H locs → narrow ty (.int r) = .int r → decode cc pc = .ok (.ireturn, 1) → W p l e rm s m args below meth c H locs 0 0 Q (F0 m pc ls [.int r])) →
      ∀ ls : Array Slot, lv_has ls maxL (lv_args 0 av) → W p l e rm s m args below meth c s.heap [] 0 0 Q (F0 m 0 ls [])) :
    Met l y ws rm (wr g av w) (wQi g w w' post) 0 0 (cA w) := by
  refine Met.ofW (cc := cc) (maxL := maxL) (ret := some ty) hy hw ?_
  intro p e s m args below meth c s₁ B hml hv
  obtain ⟨rfl, hP, hD, hKK⟩ := hv
  have hl := lv_entry av (n := maxL) hlen
  rw [lg_entry_eq]
  generalize (lg_sl av ++ List.replicate (maxL - (lg_sl av).length) Slot.unset).toArray = ls at hl ⊢
  refine body p e s m _ below meth c _ (cA w) ⟨B.exec, B.bytes, hml, B.returns, findClass_of_methodNamed B.named, atoms_spec (ws := ws) B.pre, B.notSynchronized, hKK⟩ hP (cA_self hD) va_S.rf ?_ ls hl
  intro r u H locs pc ls hr hP hD hS hn hd
  exact W.zret (v := r) B.exec B.bytes B.returns hn (fun t ht hW => ⟨⟨r, u, rfl, hr, by rw [ht]; exact hP, hD⟩, hS.F ht⟩) hS.2.2 hd B.notSynchronized
theorem wr_startv {S : Type} {w' : S → va_W} {post : S → Prop} (hy : plainName y.cls = true) (hw : ws = Cond.code y cc maxL none :: ws') (hlen : (lg_sl av).length ≤ maxL)
    (body : ∀ (p : Program) (e : Env) (s : State) (m : MethodId) (args : Array Value) (below : List Frame) (meth : Method) (c : Code) (Q : State → Prop) (A : Nat → Prop), MC p m meth c s args y.cls ws cc maxL none g → va_P g.1 vwCl w s.heap → va_D A w → va_S A s.heap s.heap [] →
      (∀ (u : S) (H : Heap) (locs : List Loc) (pc : Nat) (ls : Array Slot), post u → va_P g.1 vwCl (w' u) H → va_D A (w' u) → va_S A s.heap H locs → decode cc pc = .ok (.return_, 1) → W p l e rm s m args below meth c H locs 0 0 Q (F0 m pc ls [])) →
      ∀ ls : Array Slot, lv_has ls maxL (lv_args 0 av) → W p l e rm s m args below meth c s.heap [] 0 0 Q (F0 m 0 ls [])) :
    Met l y ws rm (wr g av w) (wQv g w w' post) 0 0 (cA w) := by
  refine Met.ofW (cc := cc) (maxL := maxL) (ret := none) hy hw ?_
  intro p e s m args below meth c s₁ B hml hv
  obtain ⟨rfl, hP, hD, hKK⟩ := hv
  have hl := lv_entry av (n := maxL) hlen
  rw [lg_entry_eq]
  generalize (lg_sl av ++ List.replicate (maxL - (lg_sl av).length) Slot.unset).toArray = ls at hl ⊢
  refine body p e s m _ below meth c _ (cA w) ⟨B.exec, B.bytes, hml, B.returns, findClass_of_methodNamed B.named, atoms_spec (ws := ws) B.pre, B.notSynchronized, hKK⟩ hP (cA_self hD) va_S.rf ?_ ls hl
  intro u H locs pc ls hr hP hD hS hd
  exact W.vret B.exec B.bytes B.returns (fun t ht hW => ⟨⟨u, rfl, hr, by rw [ht]; exact hP, hD⟩, hS.F ht⟩) hS.2.2 hd B.notSynchronized
end ROS
/-- ws with the cells at these places replaced -/
def setAll : va_W → List Nat → va_W → va_W
  | ws, [], _ => ws
  | ws, _ :: _, [] => ws
  | ws, i :: is, c :: cs => setAll (ws.set i c) is cs
theorem setAll_at : ∀ (pl : List Nat) (ws w1 : va_W) (k : Nat) (q : Nat × va_E), w1.length = pl.length → (setAll ws pl w1)[k]? = some q → (∃ j : Nat, pl[j]? = some k ∧ w1[j]? = some q) ∨ (k ∉ pl ∧ ws[k]? = some q)
  | [], ws, w1, k, q, _, h => Or.inr ⟨List.not_mem_nil, by simpa [setAll] using h⟩
  | i :: is, ws, [], k, q, hl, h => by simp at hl
  | i :: is, ws, c :: cs, k, q, hl, h => by
    have ih := setAll_at is (ws.set i c) cs k q (by simpa using hl) (by simpa [setAll] using h)
    rcases ih with ⟨j, h1, h2⟩ | ⟨h1, h2⟩
    · exact Or.inl ⟨j + 1, by simpa using h1, by simpa using h2⟩
    · by_cases hk : i = k
      · subst hk
        refine Or.inl ⟨0, rfl, ?_⟩
        rw [List.getElem?_set] at h2
        split at h2
        · split at h2
          · simpa using h2
          · simp at h2
        · exact absurd rfl ‹_›
      · rw [List.getElem?_set_ne hk] at h2
        exact Or.inr ⟨fun h => by rcases List.mem_cons.mp h with h | h; exact hk h.symm; exact h1 h, h2⟩
theorem map_at {ws wc : va_W} {pl : List Nat} (hC : pl.map (fun i => ws[i]?) = wc.map some) {k : Nat} {q : Nat × va_E} (h : wc[k]? = some q) : ∃ i, pl[k]? = some i ∧ ws[i]? = some q := by
  have h1 : (pl.map (fun i => ws[i]?))[k]? = some (some q) := by rw [hC, List.getElem?_map, h]; rfl
  rw [List.getElem?_map] at h1
  cases hi : pl[k]? with
  | none => rw [hi] at h1; cases h1
  | some i => rw [hi] at h1; exact ⟨i, rfl, Option.some.inj h1⟩
theorem P_of_map {D : va_G} {cl : List vw_C} {ws wc : va_W} {H : Heap} {pl : List Nat} (hP : va_P D cl ws H) (hC : pl.map (fun i => ws[i]?) = wc.map some) : va_P D cl wc H := fun k q h => by
  obtain ⟨i, -, h2⟩ := map_at hC h
  exact hP i q h2
/-- behind a call that wrote: the caller's cells in their places, the callee's replaced -/
theorem jn {A0 : Nat → Prop} {D : va_G} {cl : List vw_C} {ws wc w1 : va_W} {H H1 : Heap} (hP : va_P D cl ws H) (hD : va_D A0 ws) (pl : List Nat) (hC : pl.map (fun i => ws[i]?) = wc.map some) (hl : w1.length = pl.length)
    (hk : ∀ q : Nat, q < H.size → ¬ cA wc q → H1[q]? = H[q]?) (hP1 : va_P D cl w1 H1) (hD1 : va_D (cA wc) w1) : va_P D cl (setAll ws pl w1) H1 ∧ va_D A0 (setAll ws pl w1) := by
  have inpl : ∀ (a i : Nat) (q : Nat × va_E), cA wc a → ws[i]? = some q → q.1 = a → i ∈ pl := by
    intro a i q hc hq ha
    obtain ⟨k, e, hke⟩ := hc
    obtain ⟨j, h1, h2⟩ := map_at hC hke
    have := hD.1 i j q (a, e) hq h2 ha
    subst this
    exact List.mem_of_getElem? h1
  refine ⟨fun k q h => ?_, fun i j x y hx hy hxy => ?_, fun k q h => ?_⟩
  · rcases setAll_at pl ws w1 k q hl h with ⟨j, h1, h2⟩ | ⟨h1, h2⟩
    · exact hP1 j q h2
    · exact (hP k q h2).kept (hk q.1 (hP k q h2).lt (fun hc => h1 (inpl q.1 k q hc h2 rfl)))
  · rcases setAll_at pl ws w1 i x hl hx with ⟨a, h1, h2⟩ | ⟨h1, h2⟩ <;> rcases setAll_at pl ws w1 j y hl hy with ⟨b, h3, h4⟩ | ⟨h3, h4⟩
    · have := hD1.1 a b x y h2 h4 hxy
      subst this
      rw [h1] at h3
      exact Option.some.inj h3
    · exact absurd (inpl x.1 j y (hD1.2 a x h2) h4 hxy.symm) h3
    · exact absurd (inpl y.1 i x (hD1.2 b y h4) h2 hxy) h1
    · exact hD.1 i j x y h2 h4 hxy
  · rcases setAll_at pl ws w1 k q hl h with ⟨j, h1, h2⟩ | ⟨h1, h2⟩
    · obtain ⟨k2, e, hke⟩ := hD1.2 j q h2
      obtain ⟨i, -, h4⟩ := map_at hC hke
      exact hD.2 i (q.1, e) h4
    · exact hD.2 k q h2
theorem cA_in {A0 : Nat → Prop} {ws wc : va_W} (hD : va_D A0 ws) {pl : List Nat} (hC : pl.map (fun i => ws[i]?) = wc.map some) {q : Nat} (h : cA wc q) : A0 q := by
  obtain ⟨k, e, hke⟩ := h
  obtain ⟨i, -, h2⟩ := map_at hC hke
  exact hD.2 i _ h2
section CALLS
variable {p : Program} {l : Launch} {e : Env} {R : Room} {s : State} {m : MethodId} {args : Array Value} {below : List Frame} {meth : Method} {c : Code} {H : Heap} {locs : List Loc} {Q : State → Prop} {g : GG}
  {y : MethodName} {bytes cc : ByteArray} {maxL nL n index pc b : Nat} {ret : Option FieldType} {ws ws' Ts : List Cond} {rm : Room} {own C : String} {As rest st0 : List Value} {ls : Array Slot} {w W0 : va_W} {A0 : Nat → Prop} {H0 : Heap}
theorem ro_callV {post : Int32 → Prop} (ctx : CallFix p m c cc nL s args Ts own) (hKK : KK g s) (hP : va_P g.1 vwCl W0 H) (hM : Met l y ws rm (ro g (.ref b :: As) w) (vp_Si post) 0 0 (fun _ => False)) (hG : GoodIn Ts (wsV own index C y ws)) (hw : ws = Cond.code y bytes maxL ret :: ws') (hrc : rm.cells = 0) (hrs : rm.slots = 0)
    (hd : y.cls = C ∧ y.cls ≠ "java/lang/invoke/MethodHandle" ∧ y.cls ≠ "java/lang/invoke/VarHandle" ∧ (parseMethodDescriptor y.desc).map (fun d => d.parameters.length) = some n) (hR : rm.frames + 1 ≤ R.frames ∧ 8 + (maxL + 11) + rm.locals ≤ R.locals) (pl : List Nat) (hs : pl.filterMap (fun i => W0[i]?) = w)
    {ci q0 : Nat} {fs : List Value} {T : u_T} {N : Nat} (hc : vwCl[ci]? = some (C, T, N)) (he : w[q0]? = some (b, .inr (ci, fs))) (hsz : ls.size = nL) (hst : st0 = As.reverse ++ .ref b :: rest) (hn : As.length = n) (hrm : (rest.map fun v => v.category).sum ≤ 8) (hdg : decode cc pc = .ok (.invokevirtual index, 3))
    (kk : ∀ r : Int32, post r → W p l e R s m args below meth c H locs 0 0 Q (F0 m (pc + 3) ls (.int r :: rest))) : W p l e R s m args below meth c H locs 0 0 Q (F0 m pc ls st0) := by
  have hPc := hP.sub pl hs
  exact vp_callSi (va_Run.run (va_runV (g := F0 m pc ls st0) (rest := rest) ctx hM (cwV n ctx.2.2.2.2 hG hw hrc hrs hd hR) ⟨ro_blind, va_recv hKK.1 hPc hc he, fun U hU hW => ⟨rfl, by rw [hU]; exact hPc, hKK.warm hW⟩⟩ rfl hn hsz hst (lv_room hrm) hdg ⟨by omega, by omega⟩)) kk
theorem ro_callS {post : Int32 → Prop} (ctx : CallFix p m c cc nL s args Ts own) (hKK : KK g s) (hP : va_P g.1 vwCl W0 H) (hM : Met l y ws rm (ro g As w) (vp_Si post) 0 0 (fun _ => False)) (hG : GoodIn Ts (va_wsS own index y ws)) (hw : ws = Cond.code y bytes maxL ret :: ws') (hrc : rm.cells = 0) (hrs : rm.slots = 0)
    (hd : y.cls ≠ "java/lang/invoke/MethodHandle" ∧ y.cls ≠ "java/lang/invoke/VarHandle" ∧ (parseMethodDescriptor y.desc).map (fun d => d.parameters.length) = some n) (hR : rm.frames + 1 ≤ R.frames ∧ 8 + (maxL + 11) + rm.locals ≤ R.locals) (pl : List Nat) (hs : pl.filterMap (fun i => W0[i]?) = w)
    (hsz : ls.size = nL) (hst : st0 = As.reverse ++ rest) (hn : As.length = n) (hrm : (rest.map fun v => v.category).sum ≤ 8) (hdg : decode cc pc = .ok (.invokestatic index, 3))
    (kk : ∀ r : Int32, post r → W p l e R s m args below meth c H locs 0 0 Q (F0 m (pc + 3) ls (.int r :: rest))) : W p l e R s m args below meth c H locs 0 0 Q (F0 m pc ls st0) := by
  have hPc := hP.sub pl hs
  exact vp_callSi (va_Run.run (va_runS (g := F0 m pc ls st0) (rest := rest) ctx hM (va_cwS n ctx.2.2.2.2 hG hw hrc hrs hd hR) ⟨ro_blind, fun U hU hW => ⟨rfl, by rw [hU]; exact hPc, hKK.warm hW⟩⟩ rfl hn hsz hst (lv_room hrm) hdg ⟨by omega, by omega⟩)) kk
theorem ro_callSN {post : Int32 → Prop} {host : String} (ctx : CallFix p m c cc nL s args Ts own) (hKK : KK g s) (hP : va_P g.1 vwCl W0 H) (hM : Met l y ws rm (ro g As w) (vp_Si post) 0 0 (fun _ => False)) (hG : GoodIn Ts ws) (hN : va_Nw (.methodLinkNest own index y host) s) (hin : (Cond.initialized y.cls).before args s = true) (hstt : (Cond.static y).before args s = true) (hw : ws = Cond.code y bytes maxL ret :: ws') (hrc : rm.cells = 0) (hrs : rm.slots = 0)
    (hd : y.cls ≠ "java/lang/invoke/MethodHandle" ∧ y.cls ≠ "java/lang/invoke/VarHandle" ∧ (parseMethodDescriptor y.desc).map (fun d => d.parameters.length) = some n) (hR : rm.frames + 1 ≤ R.frames ∧ 8 + (maxL + 11) + rm.locals ≤ R.locals) (pl : List Nat) (hs : pl.filterMap (fun i => W0[i]?) = w)
    (hsz : ls.size = nL) (hst : st0 = As.reverse ++ rest) (hn : As.length = n) (hrm : (rest.map fun v => v.category).sum ≤ 8) (hdg : decode cc pc = .ok (.invokestatic index, 3))
    (kk : ∀ r : Int32, post r → W p l e R s m args below meth c H locs 0 0 Q (F0 m (pc + 3) ls (.int r :: rest))) : W p l e R s m args below meth c H locs 0 0 Q (F0 m pc ls st0) := by
  have hPc := hP.sub pl hs
  exact vp_callSi (va_Run.run (va_runSN (g := F0 m pc ls st0) (rest := rest) ctx hM ⟨va_cnB n ctx.2.2.2.2 hG hw hrc hrs hN hin hd hR, hstt, trivial⟩ ⟨ro_blind, fun U hU hW => ⟨rfl, by rw [hU]; exact hPc, hKK.warm hW⟩⟩ rfl hn hsz hst (lv_room hrm) hdg ⟨by omega, by omega⟩)) kk
theorem wr_callVi {S : Type} {w' : S → va_W} {post : Int32 → S → Prop} (ctx : CallFix p m c cc nL s args Ts own) (hKK : KK g s) (hP : va_P g.1 vwCl W0 H) (hD : va_D A0 W0) (hS : va_S A0 H0 H locs) (hM : Met l y ws rm (wr g (.ref b :: As) w) (wQi g w w' post) 0 0 (cA w)) (hG : GoodIn Ts (wsV own index C y ws)) (hw : ws = Cond.code y bytes maxL ret :: ws') (hrc : rm.cells = 0) (hrs : rm.slots = 0)
    (hd : y.cls = C ∧ y.cls ≠ "java/lang/invoke/MethodHandle" ∧ y.cls ≠ "java/lang/invoke/VarHandle" ∧ (parseMethodDescriptor y.desc).map (fun d => d.parameters.length) = some n) (hR : rm.frames + 1 ≤ R.frames ∧ 8 + (maxL + 11) + rm.locals ≤ R.locals) (pl : List Nat) (hnd : va_nd pl = true) (hs : pl.map (fun i => W0[i]?) = w.map some) (hlen : ∀ r u, post r u → (w' u).length = pl.length)
    {ci q0 : Nat} {fs : List Value} {T : u_T} {N : Nat} (hc : vwCl[ci]? = some (C, T, N)) (he : w[q0]? = some (b, .inr (ci, fs))) (hsz : ls.size = nL) (hst : st0 = As.reverse ++ .ref b :: rest) (hn : As.length = n) (hrm : (rest.map fun v => v.category).sum ≤ 8) (hdg : decode cc pc = .ok (.invokevirtual index, 3))
    (kk : ∀ (r : Int32) (u : S) (H1 : Heap) (locs1 : List Loc), post r u → va_P g.1 vwCl (setAll W0 pl (w' u)) H1 → va_D A0 (setAll W0 pl (w' u)) → va_S A0 H0 H1 locs1 → W p l e R s m args below meth c H1 locs1 0 0 Q (F0 m (pc + 3) ls (.int r :: rest))) : W p l e R s m args below meth c H locs 0 0 Q (F0 m pc ls st0) := by
  have hPc := P_of_map hP hs
  have hDc := hD.sub pl hnd hs
  refine va_calli (A0 := A0) (H0 := H0) (va_runV (g := F0 m pc ls st0) (rest := rest) ctx hM (cwV n ctx.2.2.2.2 hG hw hrc hrs hd hR) ⟨wr_blind, va_recv hKK.1 hPc hc he, fun U hU hW => ⟨rfl, by rw [hU]; exact hPc, hDc.weaken (fun _ _ _ _ => trivial), hKK.warm hW⟩⟩ rfl hn hsz hst (lv_room hrm) hdg ⟨by omega, by omega⟩) hS (fun q _ h => cA_in hD hs h) (fun q h => cA_in hD hs h) (fun r u t H1 locs1 ht hvm hw hB hz1 hk1 hS1 => ?_)
  obtain ⟨hP1, hD1⟩ := jn hP hD pl hs (hlen r u hw) hk1 (by rw [← ht]; exact hB.1) hB.2
  exact kk r u H1 locs1 hw hP1 hD1 hS1
theorem wr_callVv {S : Type} {w' : S → va_W} {post : S → Prop} (ctx : CallFix p m c cc nL s args Ts own) (hKK : KK g s) (hP : va_P g.1 vwCl W0 H) (hD : va_D A0 W0) (hS : va_S A0 H0 H locs) (hM : Met l y ws rm (wr g (.ref b :: As) w) (wQv g w w' post) 0 0 (cA w)) (hG : GoodIn Ts (wsV own index C y ws)) (hw : ws = Cond.code y bytes maxL ret :: ws') (hrc : rm.cells = 0) (hrs : rm.slots = 0)
    (hd : y.cls = C ∧ y.cls ≠ "java/lang/invoke/MethodHandle" ∧ y.cls ≠ "java/lang/invoke/VarHandle" ∧ (parseMethodDescriptor y.desc).map (fun d => d.parameters.length) = some n) (hR : rm.frames + 1 ≤ R.frames ∧ 8 + (maxL + 11) + rm.locals ≤ R.locals) (pl : List Nat) (hnd : va_nd pl = true) (hs : pl.map (fun i => W0[i]?) = w.map some) (hlen : ∀ u, post u → (w' u).length = pl.length)
    {ci q0 : Nat} {fs : List Value} {T : u_T} {N : Nat} (hc : vwCl[ci]? = some (C, T, N)) (he : w[q0]? = some (b, .inr (ci, fs))) (hsz : ls.size = nL) (hst : st0 = As.reverse ++ .ref b :: rest) (hn : As.length = n) (hrm : (rest.map fun v => v.category).sum ≤ 8) (hdg : decode cc pc = .ok (.invokevirtual index, 3))
    (kk : ∀ (u : S) (H1 : Heap) (locs1 : List Loc), post u → va_P g.1 vwCl (setAll W0 pl (w' u)) H1 → va_D A0 (setAll W0 pl (w' u)) → va_S A0 H0 H1 locs1 → W p l e R s m args below meth c H1 locs1 0 0 Q (F0 m (pc + 3) ls rest)) : W p l e R s m args below meth c H locs 0 0 Q (F0 m pc ls st0) := by
  have hPc := P_of_map hP hs
  have hDc := hD.sub pl hnd hs
  refine va_callv (A0 := A0) (H0 := H0) (va_runV (g := F0 m pc ls st0) (rest := rest) ctx hM (cwV n ctx.2.2.2.2 hG hw hrc hrs hd hR) ⟨wr_blind, va_recv hKK.1 hPc hc he, fun U hU hW => ⟨rfl, by rw [hU]; exact hPc, hDc.weaken (fun _ _ _ _ => trivial), hKK.warm hW⟩⟩ rfl hn hsz hst (lv_room hrm) hdg ⟨by omega, by omega⟩) hS (fun q _ h => cA_in hD hs h) (fun q h => cA_in hD hs h) (fun u t H1 locs1 ht hvm hw hB hz1 hk1 hS1 => ?_)
  obtain ⟨hP1, hD1⟩ := jn hP hD pl hs (hlen u hw) hk1 (by rw [← ht]; exact hB.1) hB.2
  exact kk u H1 locs1 hw hP1 hD1 hS1
theorem wr_callSv {S : Type} {w' : S → va_W} {post : S → Prop} (ctx : CallFix p m c cc nL s args Ts own) (hKK : KK g s) (hP : va_P g.1 vwCl W0 H) (hD : va_D A0 W0) (hS : va_S A0 H0 H locs) (hM : Met l y ws rm (wr g As w) (wQv g w w' post) 0 0 (cA w)) (hG : GoodIn Ts (va_wsS own index y ws)) (hw : ws = Cond.code y bytes maxL ret :: ws') (hrc : rm.cells = 0) (hrs : rm.slots = 0)
    (hd : y.cls ≠ "java/lang/invoke/MethodHandle" ∧ y.cls ≠ "java/lang/invoke/VarHandle" ∧ (parseMethodDescriptor y.desc).map (fun d => d.parameters.length) = some n) (hR : rm.frames + 1 ≤ R.frames ∧ 8 + (maxL + 11) + rm.locals ≤ R.locals) (pl : List Nat) (hnd : va_nd pl = true) (hs : pl.map (fun i => W0[i]?) = w.map some) (hlen : ∀ u, post u → (w' u).length = pl.length)
    (hsz : ls.size = nL) (hst : st0 = As.reverse ++ rest) (hn : As.length = n) (hrm : (rest.map fun v => v.category).sum ≤ 8) (hdg : decode cc pc = .ok (.invokestatic index, 3))
    (kk : ∀ (u : S) (H1 : Heap) (locs1 : List Loc), post u → va_P g.1 vwCl (setAll W0 pl (w' u)) H1 → va_D A0 (setAll W0 pl (w' u)) → va_S A0 H0 H1 locs1 → W p l e R s m args below meth c H1 locs1 0 0 Q (F0 m (pc + 3) ls rest)) : W p l e R s m args below meth c H locs 0 0 Q (F0 m pc ls st0) := by
  have hPc := P_of_map hP hs
  have hDc := hD.sub pl hnd hs
  refine va_callv (A0 := A0) (H0 := H0) (va_runS (g := F0 m pc ls st0) (rest := rest) ctx hM (va_cwS n ctx.2.2.2.2 hG hw hrc hrs hd hR) ⟨wr_blind, fun U hU hW => ⟨rfl, by rw [hU]; exact hPc, hDc.weaken (fun _ _ _ _ => trivial), hKK.warm hW⟩⟩ rfl hn hsz hst (lv_room hrm) hdg ⟨by omega, by omega⟩) hS (fun q _ h => cA_in hD hs h) (fun q h => cA_in hD hs h) (fun u t H1 locs1 ht hvm hw hB hz1 hk1 hS1 => ?_)
  obtain ⟨hP1, hD1⟩ := jn hP hD pl hs (hlen u hw) hk1 (by rw [← ht]; exact hB.1) hB.2
  exact kk u H1 locs1 hw hP1 hD1 hS1
/-- a call whose cells are all that the caller has -/
theorem wr_callVi0 {S : Type} {w' : S → va_W} {post : Int32 → S → Prop} (ctx : CallFix p m c cc nL s args Ts own) (hKK : KK g s) (hP : va_P g.1 vwCl w H) (hD : va_D A0 w) (hS : va_S A0 H0 H locs) (hM : Met l y ws rm (wr g (.ref b :: As) w) (wQi g w w' post) 0 0 (cA w)) (hG : GoodIn Ts (wsV own index C y ws)) (hw : ws = Cond.code y bytes maxL ret :: ws') (hrc : rm.cells = 0) (hrs : rm.slots = 0)
    (hd : y.cls = C ∧ y.cls ≠ "java/lang/invoke/MethodHandle" ∧ y.cls ≠ "java/lang/invoke/VarHandle" ∧ (parseMethodDescriptor y.desc).map (fun d => d.parameters.length) = some n) (hR : rm.frames + 1 ≤ R.frames ∧ 8 + (maxL + 11) + rm.locals ≤ R.locals)
    {ci q0 : Nat} {fs : List Value} {T : u_T} {N : Nat} (hc : vwCl[ci]? = some (C, T, N)) (he : w[q0]? = some (b, .inr (ci, fs))) (hsz : ls.size = nL) (hst : st0 = As.reverse ++ .ref b :: rest) (hn : As.length = n) (hrm : (rest.map fun v => v.category).sum ≤ 8) (hdg : decode cc pc = .ok (.invokevirtual index, 3))
    (kk : ∀ (r : Int32) (u : S) (H1 : Heap) (locs1 : List Loc), post r u → va_P g.1 vwCl (w' u) H1 → va_D A0 (w' u) → va_S A0 H0 H1 locs1 → W p l e R s m args below meth c H1 locs1 0 0 Q (F0 m (pc + 3) ls (.int r :: rest))) : W p l e R s m args below meth c H locs 0 0 Q (F0 m pc ls st0) := by
  have hin : ∀ q, cA w q → A0 q := fun q h => by obtain ⟨k, e, hke⟩ := h; exact hD.2 k _ hke
  refine va_calli (A0 := A0) (H0 := H0) (va_runV (g := F0 m pc ls st0) (rest := rest) ctx hM (cwV n ctx.2.2.2.2 hG hw hrc hrs hd hR) ⟨wr_blind, va_recv hKK.1 hP hc he, fun U hU hW => ⟨rfl, by rw [hU]; exact hP, hD.weaken (fun _ _ _ _ => trivial), hKK.warm hW⟩⟩ rfl hn hsz hst (lv_room hrm) hdg ⟨by omega, by omega⟩) hS (fun q _ h => hin q h) hin (fun r u t H1 locs1 ht hvm hw hB hz1 hk1 hS1 => ?_)
  exact kk r u H1 locs1 hw (by rw [← ht]; exact hB.1) (hB.2.weaken (fun _ q _ h => hin q.1 h)) hS1
theorem wr_callVv0 {S : Type} {w' : S → va_W} {post : S → Prop} (ctx : CallFix p m c cc nL s args Ts own) (hKK : KK g s) (hP : va_P g.1 vwCl w H) (hD : va_D A0 w) (hS : va_S A0 H0 H locs) (hM : Met l y ws rm (wr g (.ref b :: As) w) (wQv g w w' post) 0 0 (cA w)) (hG : GoodIn Ts (wsV own index C y ws)) (hw : ws = Cond.code y bytes maxL ret :: ws') (hrc : rm.cells = 0) (hrs : rm.slots = 0)
    (hd : y.cls = C ∧ y.cls ≠ "java/lang/invoke/MethodHandle" ∧ y.cls ≠ "java/lang/invoke/VarHandle" ∧ (parseMethodDescriptor y.desc).map (fun d => d.parameters.length) = some n) (hR : rm.frames + 1 ≤ R.frames ∧ 8 + (maxL + 11) + rm.locals ≤ R.locals)
    {ci q0 : Nat} {fs : List Value} {T : u_T} {N : Nat} (hc : vwCl[ci]? = some (C, T, N)) (he : w[q0]? = some (b, .inr (ci, fs))) (hsz : ls.size = nL) (hst : st0 = As.reverse ++ .ref b :: rest) (hn : As.length = n) (hrm : (rest.map fun v => v.category).sum ≤ 8) (hdg : decode cc pc = .ok (.invokevirtual index, 3))
    (kk : ∀ (u : S) (H1 : Heap) (locs1 : List Loc), post u → va_P g.1 vwCl (w' u) H1 → va_D A0 (w' u) → va_S A0 H0 H1 locs1 → W p l e R s m args below meth c H1 locs1 0 0 Q (F0 m (pc + 3) ls rest)) : W p l e R s m args below meth c H locs 0 0 Q (F0 m pc ls st0) := by
  have hin : ∀ q, cA w q → A0 q := fun q h => by obtain ⟨k, e, hke⟩ := h; exact hD.2 k _ hke
  refine va_callv (A0 := A0) (H0 := H0) (va_runV (g := F0 m pc ls st0) (rest := rest) ctx hM (cwV n ctx.2.2.2.2 hG hw hrc hrs hd hR) ⟨wr_blind, va_recv hKK.1 hP hc he, fun U hU hW => ⟨rfl, by rw [hU]; exact hP, hD.weaken (fun _ _ _ _ => trivial), hKK.warm hW⟩⟩ rfl hn hsz hst (lv_room hrm) hdg ⟨by omega, by omega⟩) hS (fun q _ h => hin q h) hin (fun u t H1 locs1 ht hvm hw hB hz1 hk1 hS1 => ?_)
  exact kk u H1 locs1 hw (by rw [← ht]; exact hB.1) (hB.2.weaken (fun _ q _ h => hin q.1 h)) hS1
end CALLS

def bI (b : Bool) : Int32 := if b then nI 1 else nI 0
theorem bI_f {b : Bool} (h : bI b = 0) : b = false := by cases b; rfl; exact absurd h (by decide)
theorem bI_t {b : Bool} (h : ¬ bI b = 0) : b = true := by cases b; exact absurd rfl h; rfl
theorem bI_nar (b : Bool) : narrow .boolean (.int (bI b)) = .int (bI b) := by cases b <;> rfl
theorem iincK (a k : Nat) : nI a + Int32.ofInt (k : Int) = nI (a + k) := by rw [← nI_add]; rfl
theorem swOut {x : Int32} (n : Nat) (hn : n < 2 ^ 31) (h : ∀ k : Nat, k ≤ n → ¬ x = nI k) : x.toInt < 0 ∨ (n : Int) < x.toInt := by
  rcases Int.lt_or_le x.toInt 0 with h0 | h0
  · exact Or.inl h0
  · obtain ⟨j, hj, rfl⟩ := nI_of (x := x) (fun hx => by have := Int32.lt_iff_toInt_lt.mp hx; simp at this; omega)
    rw [nI_toInt hj]
    rcases Nat.lt_or_ge n j with hq | hq
    · exact Or.inr (by omega)
    · exact absurd rfl (h j hq)
section ARR
variable {p : Program} {l : Launch} {e : Env} {R : Room} {s : State} {m : MethodId} {args : Array Value} {below : List Frame} {meth : Method} {c : Code} {H : Heap} {locs : List Loc} {cells slots : Nat} {Q : State → Prop} {cc : ByteArray} {D : va_G} {cl : List vw_C} {tys : List (ClassId × FieldType)} {ws : va_W} {pc a : Nat} {ls : Array Slot} {rest : List Value} {A : Nat → Prop} {H0 : Heap}
theorem ald_i (hexec : p.tables.exec = Jvm.exec) (hb : c.code = cc) (hK : va_K D cl tys s) (hP : va_P D cl ws H) (q0 t0 : Nat) {cA : ClassId} {n : Nat} {f : Nat → Int32} (ha : ws[q0]? = some (a, .inl (cA, n, .inl f))) (ht : tys[t0]? = some (cA, .int)) {i : Nat} (hi : i < n) (hn : n < 2 ^ 31) (hdg : decode cc pc = .ok (.iaload, 1))
    (kk : W p l e R s m args below meth c H locs cells slots Q (F0 m (pc + 1) ls (.int (f i) :: rest))) : W p l e R s m args below meth c H locs cells slots Q (F0 m pc ls (.int (nI i) :: .ref a :: rest)) :=
  va_iald hexec hb hK hP q0 t0 ha ht (vp_in_nI hi hn) hdg (by rw [nI_clamp (Nat.lt_trans hi hn)]; exact kk)
theorem ald_c (hexec : p.tables.exec = Jvm.exec) (hb : c.code = cc) (hK : va_K D cl tys s) (hP : va_P D cl ws H) (q0 t0 : Nat) {cA : ClassId} {n : Nat} {f : Nat → Int32} (ha : ws[q0]? = some (a, .inl (cA, n, .inl f))) (ht : tys[t0]? = some (cA, .char)) {i : Nat} (hi : i < n) (hn : n < 2 ^ 31) (hdg : decode cc pc = .ok (.caload, 1))
    (kk : W p l e R s m args below meth c H locs cells slots Q (F0 m (pc + 1) ls (.int (f i) :: rest))) : W p l e R s m args below meth c H locs cells slots Q (F0 m pc ls (.int (nI i) :: .ref a :: rest)) :=
  va_cald hexec hb hK hP q0 t0 ha ht (vp_in_nI hi hn) hdg (by rw [nI_clamp (Nat.lt_trans hi hn)]; exact kk)
theorem ast_i (hexec : p.tables.exec = Jvm.exec) (hb : c.code = cc) (hK : va_K D cl tys s) (hP : va_P D cl ws H) (hD : va_D A ws) (hS : va_S A H0 H locs) (q0 t0 : Nat) {cA : ClassId} {n : Nat} {f : Nat → Int32} (ha : ws[q0]? = some (a, .inl (cA, n, .inl f))) (ht : tys[t0]? = some (cA, .int)) {i : Nat} {x : Int32} (hi : i < n) (hn : n < 2 ^ 31) (hdg : decode cc pc = .ok (.iastore, 1))
    (kk : ∀ (H1 : Heap) (locs1 : List Loc), va_P D cl (ws.set q0 (a, .inl (cA, n, .inl (upd f i x)))) H1 → va_D A (ws.set q0 (a, .inl (cA, n, .inl (upd f i x)))) → va_S A H0 H1 locs1 → W p l e R s m args below meth c H1 locs1 cells slots Q (F0 m (pc + 1) ls rest)) : W p l e R s m args below meth c H locs cells slots Q (F0 m pc ls (.int x :: .int (nI i) :: .ref a :: rest)) :=
  va_iast hexec hb hK hP hD hS q0 t0 ha ht (vp_in_nI hi hn) hdg (by rw [nI_clamp (Nat.lt_trans hi hn)]; exact kk)
theorem ast_c (hexec : p.tables.exec = Jvm.exec) (hb : c.code = cc) (hK : va_K D cl tys s) (hP : va_P D cl ws H) (hD : va_D A ws) (hS : va_S A H0 H locs) (q0 t0 : Nat) {cA : ClassId} {n : Nat} {f : Nat → Int32} (ha : ws[q0]? = some (a, .inl (cA, n, .inl f))) (ht : tys[t0]? = some (cA, .char)) {i : Nat} {x : Int32} (hi : i < n) (hn : n < 2 ^ 31) (hdg : decode cc pc = .ok (.castore, 1))
    (kk : ∀ (H1 : Heap) (locs1 : List Loc), va_P D cl (ws.set q0 (a, .inl (cA, n, .inl (upd f i (vp_nar .char x))))) H1 → va_D A (ws.set q0 (a, .inl (cA, n, .inl (upd f i (vp_nar .char x))))) → va_S A H0 H1 locs1 → W p l e R s m args below meth c H1 locs1 cells slots Q (F0 m (pc + 1) ls rest)) : W p l e R s m args below meth c H locs cells slots Q (F0 m pc ls (.int x :: .int (nI i) :: .ref a :: rest)) :=
  va_cast hexec hb hK hP hD hS q0 t0 ha ht (vp_in_nI hi hn) hdg (by rw [nI_clamp (Nat.lt_trans hi hn)]; exact kk)
end ARR

/-- an array's content counts below its length alone -/
theorem P_at {D : va_G} {cl : List vw_C} {ws : va_W} {H : Heap} (hP : va_P D cl ws H) (q : Nat) {a : Nat} {cA : ClassId} {n : Nat} {f : Nat → Int32} (hq : ws[q]? = some (a, .inl (cA, n, .inl f))) (f' : Nat → Int32) (h : ∀ k, k < n → f k = f' k) : va_P D cl (ws.set q (a, .inl (cA, n, .inl f'))) H := by
  intro k x hx
  rw [List.getElem?_set] at hx
  split at hx
  · split at hx
    · cases hx
      have h0 : H[a]? = some (vp_cell cA (n, .inl f)) := hP q _ hq
      show H[a]? = some (vp_cell cA (n, .inl f'))
      rw [h0, vp_cell_i, vp_cell_i, arrV, arrV]
      have e : (Array.ofFn (n := n) fun j => (Value.int (f j.val))) = Array.ofFn (n := n) fun j => (Value.int (f' j.val)) := congrArg _ (funext fun j => by rw [h j.val j.isLt])
      exact congrArg (fun z => some ({ cls := cA, slots := z, vm := .none } : Cell)) e
    · cases hx
  · exact hP k x hx
theorem D_at {A : Nat → Prop} {ws : va_W} (hD : va_D A ws) (q : Nat) {a : Nat} {e : va_E} (hq : ws[q]? = some (a, e)) (e' : va_E) : va_D A (ws.set q (a, e')) := by
  have key : ∀ (k : Nat) (x : Nat × va_E), (ws.set q (a, e'))[k]? = some x → ∃ y : Nat × va_E, ws[k]? = some y ∧ y.1 = x.1 := by
    intro k x hx
    rw [List.getElem?_set] at hx
    split at hx
    · split at hx
      · cases hx; rename_i h1 h2; subst h1; exact ⟨_, hq, rfl⟩
      · cases hx
    · exact ⟨x, hx, rfl⟩
  refine ⟨fun i j x y hx hy hxy => ?_, fun k x hx => ?_⟩
  · obtain ⟨x', h1, h2⟩ := key i x hx
    obtain ⟨y', h3, h4⟩ := key j y hy
    exact hD.1 i j x' y' h1 h3 (by rw [h2, h4, hxy])
  · obtain ⟨x', h1, h2⟩ := key k x hx
    rw [← h2]
    exact hD.2 k x' h1
section CPY
variable {p : Program} {l : Launch} {e : Env} {R : Room} {s : State} {m : MethodId} {args : Array Value} {below : List Frame} {meth : Method} {c : Code} {H : Heap} {locs : List Loc} {cells slots : Nat} {Q : State → Prop} {D : va_G} {cl : List vw_C} {tys : List (ClassId × FieldType)} {ws : va_W} {pc a : Nat} {ls : Array Slot} {rest : List Value} {A : Nat → Prop} {H0 : Heap}
/-- System.arraycopy of a whole int row onto one as long -/
theorem cpy_i {cc : ByteArray} {nL : Nat} (hexec : p.tables.exec = Jvm.exec) (hb : c.code = cc) (hml : c.maxLocals = nL) (hsz : ls.size = nL) {own : String} {index : Nat} (hown : s.vm.findClass own = some m.cls) (hlink : (Cond.methodLink own index arraycopyName).before args s = true) (hnat : (Cond.native arraycopyName).before args s = true) (hstat : (Cond.static arraycopyName).before args s = true) (hini : (Cond.initialized "java/lang/System").before args s = true)
    (hK : va_K D cl tys s) (hP : va_P D cl ws H) (hD : va_D A ws) (hS : va_S A H0 H locs) (q0 q1 t0 : Nat) {a0 : Nat} {c0 : ClassId} {n : Nat} {f g : Nat → Int32} (ha0 : ws[q0]? = some (a0, .inl (c0, n, .inl f))) (ha1 : ws[q1]? = some (a, .inl (c0, n, .inl g))) (ht0 : tys[t0]? = some (c0, .int)) (hn : n < 2 ^ 31)
    (hframes : 1 ≤ R.frames) (hlocals : (rest.map fun v => v.category).sum + (nativeFrameWords "java/lang/System" "arraycopy" 5 + 11) ≤ R.locals) (hdg : decode cc pc = .ok (.invokestatic index, 3))
    (kk : ∀ (H1 : Heap) (locs1 : List Loc), va_P D cl (ws.set q1 (a, .inl (c0, n, .inl f))) H1 → va_D A (ws.set q1 (a, .inl (c0, n, .inl f))) → va_S A H0 H1 locs1 → W p l e R s m args below meth c H1 locs1 cells slots Q (F0 m (pc + 3) ls rest)) : W p l e R s m args below meth c H locs cells slots Q (F0 m pc ls (.int (nI n) :: .int (nI 0) :: .ref a :: .int (nI 0) :: .ref a0 :: rest)) := by
  have hz : (nI 0).toNatClampNeg = 0 := nI_clamp (by decide)
  have hc : (nI n).toNatClampNeg = n := nI_clamp hn
  refine va_copyi hexec hb (hml.trans hsz.symm) hown hlink hnat hstat hini hK hP hD hS q0 q1 t0 t0 (f := f) (g := g) ha0 ha1 ht0 ht0 rfl (by decide) (by decide) (nI_pos hn) (by rw [hz, hc]; omega) (by rw [hz, hc]; omega) (fun _ _ => rfl) hframes hlocals hdg (fun H1 locs1 hP1 hD1 hS1 => ?_)
  have hlt : q1 < ws.length := (List.getElem?_eq_some_iff.mp ha1).1
  have e1 : (ws.set q1 (a, .inl (c0, n, .inl (va_cpy f g (nI 0).toNatClampNeg (nI 0).toNatClampNeg (nI n).toNatClampNeg))))[q1]? = some (a, .inl (c0, n, .inl (va_cpy f g (nI 0).toNatClampNeg (nI 0).toNatClampNeg (nI n).toNatClampNeg))) := by simp [hlt]
  have hP2 := P_at hP1 q1 e1 f (fun k hk => by rw [hz, hc, va_cpy, if_pos ⟨Nat.zero_le _, by omega⟩]; congr 1; omega)
  have hD2 := D_at hD1 q1 e1 (.inl (c0, n, .inl f))
  rw [List.set_set] at hP2 hD2
  exact kk H1 locs1 hP2 hD2 hS1
end CPY
def zF : Nat → Int32 := fun _ => nI 0
def updN (f : Nat → Nat) (k v : Nat) : Nat → Nat := fun j => cond (Nat.beq j k) v (f j)
def upA (f : Nat → Nat → Int32) (k : Nat) (v : Nat → Int32) : Nat → Nat → Int32 := fun j => cond (Nat.beq j k) v (f j)
theorem nI_cl {x : Int32} (h : ¬ x < 0) : x = nI x.toNatClampNeg := by
  obtain ⟨j, hj, rfl⟩ := nI_of h
  rw [nI_clamp hj]
theorem nne_0_1 : ¬ nI 0 = nI 1 := by decide
theorem nne_0_2 : ¬ nI 0 = nI 2 := by decide
theorem nne_0_3 : ¬ nI 0 = nI 3 := by decide
theorem nne_0_4 : ¬ nI 0 = nI 4 := by decide
theorem nne_0_5 : ¬ nI 0 = nI 5 := by decide
theorem nne_0_6 : ¬ nI 0 = nI 6 := by decide
theorem nne_0_7 : ¬ nI 0 = nI 7 := by decide
theorem nne_0_8 : ¬ nI 0 = nI 8 := by decide
theorem nne_1_0 : ¬ nI 1 = nI 0 := by decide
theorem nne_1_2 : ¬ nI 1 = nI 2 := by decide
theorem nne_1_3 : ¬ nI 1 = nI 3 := by decide
theorem nne_1_4 : ¬ nI 1 = nI 4 := by decide
theorem nne_1_5 : ¬ nI 1 = nI 5 := by decide
theorem nne_1_6 : ¬ nI 1 = nI 6 := by decide
theorem nne_1_7 : ¬ nI 1 = nI 7 := by decide
theorem nne_1_8 : ¬ nI 1 = nI 8 := by decide
theorem nne_2_0 : ¬ nI 2 = nI 0 := by decide
theorem nne_2_1 : ¬ nI 2 = nI 1 := by decide
theorem nne_2_3 : ¬ nI 2 = nI 3 := by decide
theorem nne_2_4 : ¬ nI 2 = nI 4 := by decide
theorem nne_2_5 : ¬ nI 2 = nI 5 := by decide
theorem nne_2_6 : ¬ nI 2 = nI 6 := by decide
theorem nne_2_7 : ¬ nI 2 = nI 7 := by decide
theorem nne_2_8 : ¬ nI 2 = nI 8 := by decide
theorem nne_3_0 : ¬ nI 3 = nI 0 := by decide
theorem nne_3_1 : ¬ nI 3 = nI 1 := by decide
theorem nne_3_2 : ¬ nI 3 = nI 2 := by decide
theorem nne_3_4 : ¬ nI 3 = nI 4 := by decide
theorem nne_3_5 : ¬ nI 3 = nI 5 := by decide
theorem nne_3_6 : ¬ nI 3 = nI 6 := by decide
theorem nne_3_7 : ¬ nI 3 = nI 7 := by decide
theorem nne_3_8 : ¬ nI 3 = nI 8 := by decide
theorem nne_4_0 : ¬ nI 4 = nI 0 := by decide
theorem nne_4_1 : ¬ nI 4 = nI 1 := by decide
theorem nne_4_2 : ¬ nI 4 = nI 2 := by decide
theorem nne_4_3 : ¬ nI 4 = nI 3 := by decide
theorem nne_4_5 : ¬ nI 4 = nI 5 := by decide
theorem nne_4_6 : ¬ nI 4 = nI 6 := by decide
theorem nne_4_7 : ¬ nI 4 = nI 7 := by decide
theorem nne_4_8 : ¬ nI 4 = nI 8 := by decide
theorem nne_5_0 : ¬ nI 5 = nI 0 := by decide
theorem nne_5_1 : ¬ nI 5 = nI 1 := by decide
theorem nne_5_2 : ¬ nI 5 = nI 2 := by decide
theorem nne_5_3 : ¬ nI 5 = nI 3 := by decide
theorem nne_5_4 : ¬ nI 5 = nI 4 := by decide
theorem nne_5_6 : ¬ nI 5 = nI 6 := by decide
theorem nne_5_7 : ¬ nI 5 = nI 7 := by decide
theorem nne_5_8 : ¬ nI 5 = nI 8 := by decide
theorem nne_6_0 : ¬ nI 6 = nI 0 := by decide
theorem nne_6_1 : ¬ nI 6 = nI 1 := by decide
theorem nne_6_2 : ¬ nI 6 = nI 2 := by decide
theorem nne_6_3 : ¬ nI 6 = nI 3 := by decide
theorem nne_6_4 : ¬ nI 6 = nI 4 := by decide
theorem nne_6_5 : ¬ nI 6 = nI 5 := by decide
theorem nne_6_7 : ¬ nI 6 = nI 7 := by decide
theorem nne_6_8 : ¬ nI 6 = nI 8 := by decide
theorem nne_7_0 : ¬ nI 7 = nI 0 := by decide
theorem nne_7_1 : ¬ nI 7 = nI 1 := by decide
theorem nne_7_2 : ¬ nI 7 = nI 2 := by decide
theorem nne_7_3 : ¬ nI 7 = nI 3 := by decide
theorem nne_7_4 : ¬ nI 7 = nI 4 := by decide
theorem nne_7_5 : ¬ nI 7 = nI 5 := by decide
theorem nne_7_6 : ¬ nI 7 = nI 6 := by decide
theorem nne_7_8 : ¬ nI 7 = nI 8 := by decide
theorem nne_8_0 : ¬ nI 8 = nI 0 := by decide
theorem nne_8_1 : ¬ nI 8 = nI 1 := by decide
theorem nne_8_2 : ¬ nI 8 = nI 2 := by decide
theorem nne_8_3 : ¬ nI 8 = nI 3 := by decide
theorem nne_8_4 : ¬ nI 8 = nI 4 := by decide
theorem nne_8_5 : ¬ nI 8 = nI 5 := by decide
theorem nne_8_6 : ¬ nI 8 = nI 6 := by decide
theorem nne_8_7 : ¬ nI 8 = nI 7 := by decide

section ARQ
variable {p : Program} {l : Launch} {e : Env} {R : Room} {s : State} {m : MethodId} {args : Array Value} {below : List Frame} {meth : Method} {c : Code} {H : Heap} {locs : List Loc} {cells slots : Nat} {Q : State → Prop} {cc : ByteArray} {D : va_G} {cl : List vw_C} {tys : List (ClassId × FieldType)} {ws : va_W} {pc a : Nat} {ls : Array Slot} {rest : List Value} {A : Nat → Prop} {H0 : Heap}
theorem ald_q (hexec : p.tables.exec = Jvm.exec) (hb : c.code = cc) (hK : va_K D cl tys s) (hP : va_P D cl ws H) (q0 t0 : Nat) {cA : ClassId} {C : String} {n : Nat} {f : Nat → Option Nat} (ha : ws[q0]? = some (a, .inl (cA, n, .inr (.inr (.inr (.inr f)))))) (ht : tys[t0]? = some (cA, .object C)) {i v : Nat} (hi : i < n) (hn : n < 2 ^ 31) (hf : f i = some v) (hdg : decode cc pc = .ok (.aaload, 1))
    (kk : W p l e R s m args below meth c H locs cells slots Q (F0 m (pc + 1) ls (.ref v :: rest))) : W p l e R s m args below meth c H locs cells slots Q (F0 m pc ls (.int (nI i) :: .ref a :: rest)) :=
  va_aldq hexec hb hK hP q0 t0 ha ht (vp_in_nI hi hn) hdg (by rw [nI_clamp (Nat.lt_trans hi hn), hf]; exact kk)
theorem ast_q (hexec : p.tables.exec = Jvm.exec) (hb : c.code = cc) (hK : va_K D cl tys s) (hP : va_P D cl ws H) (hD : va_D A ws) (hS : va_S A H0 H locs) (q0 t0 qk ci : Nat) {cA : ClassId} {r : vw_C} {n v : Nat} {vs : List Value} {f : Nat → Option Nat} (ha : ws[q0]? = some (a, .inl (cA, n, .inr (.inr (.inr (.inr f)))))) (ht : tys[t0]? = some (cA, .object r.1)) (hv : ws[qk]? = some (v, .inr (ci, vs))) (hc : cl[ci]? = some r) {i : Nat} (hi : i < n) (hn : n < 2 ^ 31) (hdg : decode cc pc = .ok (.aastore, 1))
    (kk : ∀ (H1 : Heap) (locs1 : List Loc), va_P D cl (ws.set q0 (a, .inl (cA, n, .inr (.inr (.inr (.inr (va_up f i (some v)))))))) H1 → va_D A (ws.set q0 (a, .inl (cA, n, .inr (.inr (.inr (.inr (va_up f i (some v)))))))) → va_S A H0 H1 locs1 → W p l e R s m args below meth c H1 locs1 cells slots Q (F0 m (pc + 1) ls rest)) : W p l e R s m args below meth c H locs cells slots Q (F0 m pc ls (.ref v :: .int (nI i) :: .ref a :: rest)) :=
  va_astq hexec hb hK hP hD hS q0 t0 qk ci ha ht hv hc (vp_in_nI hi hn) hdg (by rw [nI_clamp (Nat.lt_trans hi hn)]; exact kk)
end ARQ
theorem P_atq {D : va_G} {cl : List vw_C} {ws : va_W} {H : Heap} (hP : va_P D cl ws H) (q : Nat) {a : Nat} {cA : ClassId} {n : Nat} {f : Nat → Option Nat} (hq : ws[q]? = some (a, .inl (cA, n, .inr (.inr (.inr (.inr f)))))) (f' : Nat → Option Nat) (h : ∀ k, k < n → f k = f' k) : va_P D cl (ws.set q (a, .inl (cA, n, .inr (.inr (.inr (.inr f')))))) H := by
  intro k x hx
  rw [List.getElem?_set] at hx
  split at hx
  · split at hx
    · cases hx
      have h0 : H[a]? = some (vp_cell cA (n, .inr (.inr (.inr (.inr f))))) := hP q _ hq
      show H[a]? = some (vp_cell cA (n, .inr (.inr (.inr (.inr f')))))
      rw [h0, vp_cell_q, vp_cell_q, arrV, arrV]
      have e : (Array.ofFn (n := n) fun j => va_rf (f j.val)) = Array.ofFn (n := n) fun j => va_rf (f' j.val) := congrArg _ (funext fun j => by rw [h j.val j.isLt])
      exact congrArg (fun z => some ({ cls := cA, slots := z, vm := .none } : Cell)) e
    · cases hx
  · exact hP k x hx

theorem lv_isl {p : Program} {l : Launch} {e : Env} {R : Room} {s : State} {m : MethodId} {args : Array Value} {below : List Frame} {meth : Method} {c : Code} {H : Heap} {locs : List Loc} {cells slots : Nat} {Q : State → Prop} {pc : Nat} {ls : Array Slot} {rest : List Value} {x x' : Int64} (h : x = x') (k : W p l e R s m args below meth c H locs cells slots Q (F0 m pc ls (.long x' :: rest))) : W p l e R s m args below meth c H locs cells slots Q (F0 m pc ls (.long x :: rest)) := h ▸ k
theorem re2 {D : va_G} {cl : List vw_C} {A : Nat → Prop} {H : Heap} {w0 : va_W} (w : va_W) (hP : va_P D cl w0 H) (hD : va_D A w0) (e : w0 = w) : va_P D cl w H ∧ va_D A w := by
  subst e
  exact ⟨hP, hD⟩
