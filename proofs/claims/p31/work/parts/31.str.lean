/-! the class's one text constant: length and charAt -/
def sBY : List Int32 := [110, 53, 59, 112, 48, 48, 51, 57, 53, 49, 59, 112, 49, 52, 57, 48, 54, 50, 59, 112, 50, 53, 56, 51, 49, 48, 59, 112, 51, 55, 48, 52, 56, 49, 59, 112, 48, 50, 54, 55, 51, 55, 59, 100, 48, 44, 51, 59, 100, 49, 44, 50, 59, 100, 50, 44, 50, 59, 100, 51, 44, 48, 59, 119, 50, 48, 59, 119, 53, 59, 119, 57, 59, 98, 50, 59]
/-- the text constant stands at q, its bytes at v; the JDK's statics; nothing of it lies in A -/
def SB (q v : Nat) (A : Nat → Prop) (U : State) : Prop := vk_S 1 [76] [sBY] (fun _ => q) (fun _ => v) A U U.heap ∧ va_Z "java/lang/String" "COMPACT_STRINGS" "Z" (.int 1) A U U.heap ∧ va_Zq "jdk/internal/util/Preconditions" "SIOOBE_FORMATTER" "Ljava/util/function/BiFunction;" A U U.heap
theorem SB.to {q v : Nat} {A B : Nat → Prop} {s U : State} {H : Heap} (h : SB q v A s) (hvm : s.vm.Alike U.vm) (hU : U.heap = H) (hk : ∀ a : Nat, a < s.heap.size → ¬ A a → H[a]? = s.heap[a]?) (hAB : ∀ q, B q → A q) : SB q v B U := by
  subst hU
  exact ⟨((h.1.moved hvm).kept hk).narrow hAB, ((h.2.1.moved hvm).kept hk).narrow hAB, ((h.2.2.moved hvm).kept hk).narrow hAB⟩
def F0' : Nat → Prop := fun _ => False
/-- a reading method over the text constant -/
def st (q v : Nat) (av : List Value) : Array Value → State → Prop := va_Pc av (fun U => SB q v F0' U)
theorem st_blind {q v : Nat} {av : List Value} : FrameBlind (st q v av) := fun _ U _ _ h => ⟨h.1, SB.to (s := U) h.2 (Vm.Alike.refl U.vm) rfl (fun _ _ _ => rfl) (fun _ h => h)⟩
def SC (p : Program) (m : MethodId) (meth : Method) (c : Code) (s : State) (args : Array Value) (own : String) (Ts : List Cond) (cc : ByteArray) (nL : Nat) (ret : Option FieldType) : Prop :=
  p.tables.exec = Jvm.exec ∧ c.code = cc ∧ c.maxLocals = nL ∧ meth.sig.returnType = ret ∧ s.vm.findClass own = some m.cls ∧ (∀ w ∈ Ts, w.before args s = true) ∧ meth.locks = false
section SST
variable {l : Launch} {y : MethodName} {ws ws' : List Cond} {rm : Room} {av : List Value} {cc : ByteArray} {maxL q v : Nat}
theorem st_start {post : Int32 → Prop} {ty : FieldType} (hy : plainName y.cls = true) (hw : ws = Cond.code y cc maxL (some ty) :: ws') (hlen : (lg_sl av).length ≤ maxL)
    (body : ∀ (p : Program) (e : Env) (s : State) (m : MethodId) (args : Array Value) (below : List Frame) (meth : Method) (c : Code) (Q : State → Prop), SC p m meth c s args y.cls ws cc maxL (some ty) → SB q v F0' s → va_S F0' s.heap s.heap [] →
      (∀ (r : Int32) (pc : Nat) (ls : Array Slot), post r → narrow ty (.int r) = .int r → decode cc pc = .ok (.ireturn, 1) → W p l e rm s m args below meth c s.heap [] 0 0 Q (F0 m pc ls [.int r])) →
      ∀ ls : Array Slot, lv_has ls maxL (lv_args 0 av) → W p l e rm s m args below meth c s.heap [] 0 0 Q (F0 m 0 ls [])) :
    Met l y ws rm (st q v av) (vp_Si post) 0 0 (fun _ => False) := by
  refine Met.ofW (cc := cc) (maxL := maxL) (ret := some ty) hy hw ?_
  intro p e s m args below meth c s₁ B hml hv
  obtain ⟨rfl, hSB⟩ := hv
  have hl := lv_entry av (n := maxL) hlen
  rw [lg_entry_eq]
  generalize (lg_sl av ++ List.replicate (maxL - (lg_sl av).length) Slot.unset).toArray = ls at hl ⊢
  refine body p e s m _ below meth c _ ⟨B.exec, B.bytes, hml, B.returns, findClass_of_methodNamed B.named, atoms_spec (ws := ws) B.pre, B.notSynchronized⟩ hSB va_S.rf ?_ ls hl
  intro r pc ls hr hn hd
  exact W.zret (v := r) B.exec B.bytes B.returns hn (fun t ht hW => ⟨r, rfl, hr, ht⟩) (fun _ h => by cases h) hd B.notSynchronized
end SST
section SCALL
variable {p : Program} {l : Launch} {e : Env} {R : Room} {s : State} {m : MethodId} {args : Array Value} {below : List Frame} {meth : Method} {c : Code} {H : Heap} {locs : List Loc} {Q : State → Prop} {kc ks : Nat}
  {y : MethodName} {bytes cc : ByteArray} {maxL nL n index pc b q v : Nat} {ret : Option FieldType} {ws ws' Ts : List Cond} {rm : Room} {own : String} {As rest st0 : List Value} {ls : Array Slot} {A : Nat → Prop}
theorem st_callV {post : Int32 → Prop} (hkc : kc ≤ R.cells ∧ ks ≤ R.slots) (ctx : CallFix p m c cc nL s args Ts own) (hB : SB q v A s) (hS : va_S A s.heap H locs) (hM : Met l y ws rm (st q v (.ref q :: As)) (vp_Si post) 0 0 (fun _ => False)) (hG : GoodIn Ts (wsV own index RJ0 y ws)) (hw : ws = Cond.code y bytes maxL ret :: ws') (hrc : rm.cells = 0) (hrs : rm.slots = 0)
    (hd : y.cls = RJ0 ∧ y.cls ≠ "java/lang/invoke/MethodHandle" ∧ y.cls ≠ "java/lang/invoke/VarHandle" ∧ (parseMethodDescriptor y.desc).map (fun d => d.parameters.length) = some n) (hR : rm.frames + 1 ≤ R.frames ∧ 8 + (maxL + 11) + rm.locals ≤ R.locals)
    (hsz : ls.size = nL) (hst : st0 = As.reverse ++ .ref q :: rest) (hn : As.length = n) (hrm : (rest.map fun v => v.category).sum ≤ 8) (hdg : decode cc pc = .ok (.invokevirtual index, 3))
    (kk : ∀ r : Int32, post r → W p l e R s m args below meth c H locs kc ks Q (F0 m (pc + 3) ls (.int r :: rest))) : W p l e R s m args below meth c H locs kc ks Q (F0 m pc ls st0) :=
  vp_callSi (va_Run.run (va_runV (g := F0 m pc ls st0) (rest := rest) ctx hM (cwV n ctx.2.2.2.2 hG hw hrc hrs hd hR) ⟨st_blind, vk_recv hB.1 (i := 0) (by decide) hS, fun U hU hW => ⟨rfl, hB.to hW.alike hU hS.2.1 (fun _ h => h.elim)⟩⟩ rfl hn hsz hst (lv_room hrm) hdg ⟨hkc.1, hkc.2⟩)) kk
theorem st_callS {post : Int32 → Prop} (hkc : kc ≤ R.cells ∧ ks ≤ R.slots) (ctx : CallFix p m c cc nL s args Ts own) (hB : SB q v A s) (hS : va_S A s.heap H locs) (hM : Met l y ws rm (st q v As) (vp_Si post) 0 0 (fun _ => False)) (hG : GoodIn Ts (va_wsS own index y ws)) (hw : ws = Cond.code y bytes maxL ret :: ws') (hrc : rm.cells = 0) (hrs : rm.slots = 0)
    (hd : y.cls ≠ "java/lang/invoke/MethodHandle" ∧ y.cls ≠ "java/lang/invoke/VarHandle" ∧ (parseMethodDescriptor y.desc).map (fun d => d.parameters.length) = some n) (hR : rm.frames + 1 ≤ R.frames ∧ 8 + (maxL + 11) + rm.locals ≤ R.locals)
    (hsz : ls.size = nL) (hst : st0 = As.reverse ++ rest) (hn : As.length = n) (hrm : (rest.map fun v => v.category).sum ≤ 8) (hdg : decode cc pc = .ok (.invokestatic index, 3))
    (kk : ∀ r : Int32, post r → W p l e R s m args below meth c H locs kc ks Q (F0 m (pc + 3) ls (.int r :: rest))) : W p l e R s m args below meth c H locs kc ks Q (F0 m pc ls st0) :=
  vp_callSi (va_Run.run (va_runS (g := F0 m pc ls st0) (rest := rest) ctx hM (va_cwS n ctx.2.2.2.2 hG hw hrc hrs hd hR) ⟨st_blind, fun U hU hW => ⟨rfl, hB.to hW.alike hU hS.2.1 (fun _ h => h.elim)⟩⟩ rfl hn hsz hst (lv_room hrm) hdg ⟨hkc.1, hkc.2⟩)) kk
end SCALL
set_option maxHeartbeats 4000000 in
theorem c_J3_ck (l : Launch) (q v k n : Nat) (hk : k < n) (hn : n < 2 ^ 31) (fv : Value) (hf : fv = .null ∨ ∃ t, fv = .ref t) : Met l yJ3_checkIndex_8e157 wsJ3_checkIndex_8e157 ({ frames := 0, cells := 0, slots := 0, locals := 0 } : Room) (st q v [.int (nI k), .int (nI n), fv]) (vp_Si (fun r => r = nI k)) 0 0 (fun _ => False) := by
  have key : ∀ fv : Value, (lg_sl [.int (nI k), .int (nI n), fv]).length ≤ 3 → (∀ ls : Array Slot, lv_has ls 3 (lv_args 0 [.int (nI k), .int (nI n), fv]) → ls[0]? = some (.val (.int (nI k))) ∧ ls[1]? = some (.val (.int (nI n)))) → Met l yJ3_checkIndex_8e157 wsJ3_checkIndex_8e157 ({ frames := 0, cells := 0, slots := 0, locals := 0 } : Room) (st q v [.int (nI k), .int (nI n), fv]) (vp_Si (fun r => r = nI k)) 0 0 (fun _ => False) := by
    intro fv hlen hloc
    refine st_start (cc := cJ3_checkIndex_8e157) (maxL := 3) (ty := .int) (by decide) rfl hlen (fun p e s m args below meth c Q C hB hS hret ls hl => ?_)
    obtain ⟨hx, hb, hml, hr, hown, hts, hlk⟩ := id C
    obtain ⟨h0, h1⟩ := hloc ls hl
    refine lv_iload_n hx hb dJ3_checkIndex_8e157_0 rfl h0 ?_
    refine lv_if_lt (tgt := 9) hx hb dJ3_checkIndex_8e157_1 (by decide) (fun c1 => absurd c1 (nI_pos (by omega))) (fun c1 => ?_)
    refine lv_iload_n hx hb dJ3_checkIndex_8e157_4 rfl h0 ?_
    refine lv_iload_n hx hb dJ3_checkIndex_8e157_5 rfl h1 ?_
    refine lv_icmp_lt (tgt := 16) hx hb dJ3_checkIndex_8e157_6 (by decide) (fun c2 => ?_) (fun c2 => absurd (nI_lt hk hn) c2)
    refine lv_iload_n hx hb dJ3_checkIndex_8e157_16 rfl h0 ?_
    exact hret (nI k) 17 ls rfl rfl dJ3_checkIndex_8e157_17
  rcases hf with rfl | ⟨t, rfl⟩
  · exact key .null (Nat.le_of_ble_eq_true rfl) (fun ls hl => by
      have hl : lv_has ls 3 [(0, .int (nI k)), (1, .int (nI n)), (2, .null)] := hl
      exact ⟨lv_at hl 0 rfl, lv_at hl 1 rfl⟩)
  · exact key (.ref t) (Nat.le_of_ble_eq_true rfl) (fun ls hl => by
      have hl : lv_has ls 3 [(0, .int (nI k)), (1, .int (nI n)), (2, .ref t)] := hl
      exact ⟨lv_at hl 0 rfl, lv_at hl 1 rfl⟩)
def st2 (q v : Nat) (Hh : Heap) (av : List Value) : Array Value → State → Prop := va_Pc av (fun U => SB q v F0' U ∧ U.heap = Hh)
theorem st2_blind {q v : Nat} {Hh : Heap} {av : List Value} : FrameBlind (st2 q v Hh av) := fun _ U _ _ h => ⟨h.1, SB.to (s := U) h.2.1 (Vm.Alike.refl U.vm) rfl (fun _ _ _ => rfl) (fun _ h => h), h.2.2⟩
def ckB (Hh : Heap) : Unit → State → Prop := fun _ t => t.heap = Hh
theorem kJ0_ck_f : (Cond.fieldLink RJ0 1053 "jdk/internal/util/Preconditions" "SIOOBE_FORMATTER" "Ljava/util/function/BiFunction;" : Cond) ∈ wsJ0_checkIndex_df160 := List.mem_cons_of_mem _ aw_127
set_option maxHeartbeats 4000000 in
theorem c_J0_ck (l : Launch) (q v k n : Nat) (hk : k < n) (hn : n < 2 ^ 31) (Hh : Heap) : Met l yJ0_checkIndex_df160 wsJ0_checkIndex_df160 ({ frames := 1, cells := 0, slots := 0, locals := 22 } : Room) (st2 q v Hh [.int (nI k), .int (nI n)]) (va_Qv (fun _ : Unit => True) (ckB Hh) F0') 0 0 (fun _ => False) := by
  refine Met.ofW (cc := cJ0_checkIndex_df160) (maxL := 2) (ret := none) (by decide) rfl ?_
  intro p e s m args below meth c s₁ B hml hv
  obtain ⟨rfl, hB, hHh⟩ := hv
  have hx := B.exec
  have hb := B.bytes
  have hts := atoms_spec (ws := wsJ0_checkIndex_df160) B.pre
  have hown : s.vm.findClass RJ0 = some m.cls := findClass_of_methodNamed B.named
  have ctx : CallFix p m c cJ0_checkIndex_df160 2 s _ wsJ0_checkIndex_df160 RJ0 := ⟨hx, hb, hml, hown, hts⟩
  have hl := lv_entry [.int (nI k), .int (nI n)] (n := 2) (Nat.le_of_ble_eq_true rfl)
  rw [lg_entry_eq]
  generalize (lg_sl [.int (nI k), .int (nI n)] ++ List.replicate (2 - (lg_sl [.int (nI k), .int (nI n)]).length) Slot.unset).toArray = ls at hl ⊢
  have hl : lv_has ls 2 [(0, .int (nI k)), (1, .int (nI n))] := hl
  have hS : va_S F0' s.heap s.heap [] := va_S.rf
  obtain ⟨fv, hf, hZ⟩ : ∃ fv : Value, (fv = .null ∨ ∃ t, fv = .ref t) ∧ va_Z "jdk/internal/util/Preconditions" "SIOOBE_FORMATTER" "Ljava/util/function/BiFunction;" fv F0' s s.heap := by
    rcases hB.2.2 with h | ⟨t, h⟩
    · exact ⟨.null, Or.inl rfl, h⟩
    · exact ⟨.ref t, Or.inr ⟨t, rfl⟩, h⟩
  refine lv_iload_n hx hb dJ0_checkIndex_df160_0 rfl (lv_at hl 0 rfl) ?_
  refine lv_iload_n hx hb dJ0_checkIndex_df160_1 rfl (lv_at hl 1 rfl) ?_
  refine va_gets hx hb hZ hS hown (hts _ kJ0_ck_f) (fun _ h9 => h9) dJ0_checkIndex_df160_2 ?_
  refine st_callS (As := [.int (nI k), .int (nI n), fv]) (rest := []) ⟨Nat.le_refl _, Nat.le_refl _⟩ ctx hB hS (c_J3_ck l q v k n hk hn fv hf) gJ0_checkIndex_df160_J3_checkIndex_8e157 rfl rfl rfl (n := 3) (by decide +kernel) ⟨Nat.le_of_ble_eq_true rfl, Nat.le_of_ble_eq_true rfl⟩ hl.1 rfl rfl (Nat.le_of_ble_eq_true rfl) dJ0_checkIndex_df160_5 (fun r hr => ?_)
  refine lv_pop hx hb dJ0_checkIndex_df160_8 rfl ?_
  exact W.vret hx hb B.returns (fun t ht hW => ⟨⟨(), rfl, trivial, by show t.heap = Hh; rw [ht]; exact hHh⟩, hS.F ht⟩) (fun _ h => by cases h) dJ0_checkIndex_df160_9 B.notSynchronized
theorem kJ0_cd_f : (Cond.fieldLink RJ0 38 "java/lang/String" "COMPACT_STRINGS" "Z" : Cond) ∈ wsJ0_coder_7d493 := List.mem_cons_of_mem _ aw_110
theorem kJ0_cd_c : (Cond.fieldLink RJ0 15 "java/lang/String" "coder" "B" : Cond) ∈ wsJ0_coder_7d493 := List.mem_cons_of_mem _ aw_111
theorem kJ0_il_f : (Cond.fieldLink RJ0 38 "java/lang/String" "COMPACT_STRINGS" "Z" : Cond) ∈ wsJ0_isLatin1_aae02 := List.mem_cons_of_mem _ aw_110
theorem kJ0_il_c : (Cond.fieldLink RJ0 15 "java/lang/String" "coder" "B" : Cond) ∈ wsJ0_isLatin1_aae02 := List.mem_cons_of_mem _ aw_111
set_option maxHeartbeats 4000000 in
theorem c_J0_cd (l : Launch) (q v : Nat) : Met l yJ0_coder_7d493 wsJ0_coder_7d493 ({ frames := 0, cells := 0, slots := 0, locals := 0 } : Room) (st q v [.ref q]) (vp_Si (fun r => r = nI 0)) 0 0 (fun _ => False) := by
  refine st_start (cc := cJ0_coder_7d493) (maxL := 1) (ty := .byte) (by decide) rfl (Nat.le_of_ble_eq_true rfl) (fun p e s m args below meth c Q C hB hS hret ls hl => ?_)
  obtain ⟨hx, hb, hml, hr, hown, hts, hlk⟩ := id C
  have hown : s.vm.findClass RJ0 = some m.cls := hown
  have ctx : CallFix p m c cJ0_coder_7d493 1 s args wsJ0_coder_7d493 RJ0 := ⟨hx, hb, hml, hown, hts⟩
  obtain ⟨⟨hO, hCo, hVa, hTt⟩, -⟩ := And.intro (hB.1.1 0 (by decide)) trivial
  have hl : lv_has ls 1 [(0, .ref q)] := hl
  refine va_gets hx hb hB.2.1 hS hown (hts _ kJ0_cd_f) (fun _ h9 => h9) dJ0_coder_7d493_0 ?_
  refine lv_if_eq (tgt := 13) hx hb dJ0_coder_7d493_3 (by decide) (fun c1 => absurd c1 (by decide)) (fun c1 => ?_)
  refine lv_aload_n hx hb dJ0_coder_7d493_6 rfl (lv_at hl 0 rfl) ?_
  refine vk_getf hx hb hCo hS hown (hts _ kJ0_cd_c) (fun _ h9 => h9) dJ0_coder_7d493_7 ?_
  refine lv_goto (tgt := 14) hx hb dJ0_coder_7d493_10 (by decide) ?_
  exact hret (nI 0) 14 ls rfl (by decide) dJ0_coder_7d493_14
set_option maxHeartbeats 4000000 in
theorem c_J0_il (l : Launch) (q v : Nat) : Met l yJ0_isLatin1_aae02 wsJ0_isLatin1_aae02 ({ frames := 0, cells := 0, slots := 0, locals := 0 } : Room) (st q v [.ref q]) (vp_Si (fun r => r = nI 1)) 0 0 (fun _ => False) := by
  refine st_start (cc := cJ0_isLatin1_aae02) (maxL := 1) (ty := .boolean) (by decide) rfl (Nat.le_of_ble_eq_true rfl) (fun p e s m args below meth c Q C hB hS hret ls hl => ?_)
  obtain ⟨hx, hb, hml, hr, hown, hts, hlk⟩ := id C
  have hown : s.vm.findClass RJ0 = some m.cls := hown
  have ctx : CallFix p m c cJ0_isLatin1_aae02 1 s args wsJ0_isLatin1_aae02 RJ0 := ⟨hx, hb, hml, hown, hts⟩
  obtain ⟨⟨hO, hCo, hVa, hTt⟩, -⟩ := And.intro (hB.1.1 0 (by decide)) trivial
  have hl : lv_has ls 1 [(0, .ref q)] := hl
  refine va_gets hx hb hB.2.1 hS hown (hts _ kJ0_il_f) (fun _ h9 => h9) dJ0_isLatin1_aae02_0 ?_
  refine lv_if_eq (tgt := 17) hx hb dJ0_isLatin1_aae02_3 (by decide) (fun c1 => absurd c1 (by decide)) (fun c1 => ?_)
  refine lv_aload_n hx hb dJ0_isLatin1_aae02_6 rfl (lv_at hl 0 rfl) ?_
  refine vk_getf hx hb hCo hS hown (hts _ kJ0_il_c) (fun _ h9 => h9) dJ0_isLatin1_aae02_7 ?_
  refine lv_if_ne (tgt := 17) hx hb dJ0_isLatin1_aae02_10 (by decide) (fun c1 => absurd rfl c1) (fun c1 => ?_)
  refine lv_iconst (v := nI 1) hx hb dJ0_isLatin1_aae02_13 (by decide) ?_
  refine lv_goto (tgt := 18) hx hb dJ0_isLatin1_aae02_14 (by decide) ?_
  exact hret (nI 1) 18 ls rfl (by decide) dJ0_isLatin1_aae02_18
theorem kJ0_ln_v : (Cond.fieldLink RJ0 9 "java/lang/String" "value" "[B" : Cond) ∈ wsJ0_length_8abf5 := List.mem_cons_of_mem _ aw_105
set_option maxHeartbeats 4000000 in
theorem c_J0_ln (l : Launch) (q v : Nat) : Met l yJ0_length_8abf5 wsJ0_length_8abf5 ({ frames := 1, cells := 0, slots := 0, locals := 20 } : Room) (st q v [.ref q]) (vp_Si (fun r => r = nI 76)) 0 0 (fun _ => False) := by
  refine st_start (cc := cJ0_length_8abf5) (maxL := 1) (ty := .int) (by decide) rfl (Nat.le_of_ble_eq_true rfl) (fun p e s m args below meth c Q C hB hS hret ls hl => ?_)
  obtain ⟨hx, hb, hml, hr, hown, hts, hlk⟩ := id C
  have hown : s.vm.findClass RJ0 = some m.cls := hown
  have ctx : CallFix p m c cJ0_length_8abf5 1 s args wsJ0_length_8abf5 RJ0 := ⟨hx, hb, hml, hown, hts⟩
  obtain ⟨⟨hO, hCo, hVa, hTt⟩, -⟩ := And.intro (hB.1.1 0 (by decide)) trivial
  have hl : lv_has ls 1 [(0, .ref q)] := hl
  refine lv_aload_n hx hb dJ0_length_8abf5_0 rfl (lv_at hl 0 rfl) ?_
  refine vk_getf hx hb hVa hS hown (hts _ kJ0_ln_v) (fun _ h9 => h9) dJ0_length_8abf5_1 ?_
  refine va_tlen (v := nI 76) hx hb hTt hS rfl dJ0_length_8abf5_4 ?_
  refine lv_aload_n hx hb dJ0_length_8abf5_5 rfl (lv_at hl 0 rfl) ?_
  refine st_callV (As := []) (rest := [.int (nI 76)]) ⟨Nat.le_refl _, Nat.le_refl _⟩ ctx hB hS (c_J0_cd l q v) gJ0_length_8abf5_J0_coder_7d493 rfl rfl rfl (n := 0) (by decide +kernel) ⟨Nat.le_of_ble_eq_true rfl, Nat.le_of_ble_eq_true rfl⟩ hl.1 rfl rfl (Nat.le_of_ble_eq_true rfl) dJ0_length_8abf5_6 (fun r hr => ?_)
  subst hr
  refine lv_ishr hx hb dJ0_length_8abf5_9 ?_
  exact hret ((nI 76) >>> (nI 0 &&& 31)) 10 ls (by decide) rfl dJ0_length_8abf5_10
def sCh (k : Nat) : Int32 := ((sBY.getD k 0 &&& 255).toUInt32 % 65536).toInt32
set_option maxHeartbeats 4000000 in
theorem c_J1_ca (l : Launch) (q v : Nat) (k : Nat) (hk : k < 76) : Met l yJ1_charAt_3b067 wsJ1_charAt_3b067 ({ frames := 2, cells := 0, slots := 0, locals := 43 } : Room) (st q v [.ref v, .int (nI k)]) (vp_Si (fun r => r = sCh k)) 0 0 (fun _ => False) := by
  refine st_start (cc := cJ1_charAt_3b067) (maxL := 2) (ty := .char) (by decide) rfl (Nat.le_of_ble_eq_true rfl) (fun p e s m args below meth c Q C hB hS hret ls hl => ?_)
  obtain ⟨hx, hb, hml, hr, hown, hts, hlk⟩ := id C
  have hown : s.vm.findClass RJ1 = some m.cls := hown
  have ctx : CallFix p m c cJ1_charAt_3b067 2 s args wsJ1_charAt_3b067 RJ1 := ⟨hx, hb, hml, hown, hts⟩
  obtain ⟨⟨hO, hCo, hVa, hTt⟩, -⟩ := And.intro (hB.1.1 0 (by decide)) trivial
  have hl : lv_has ls 2 [(0, .ref v), (1, .int (nI k))] := hl
  refine lv_iload_n hx hb dJ1_charAt_3b067_0 rfl (lv_at hl 1 rfl) ?_
  refine lv_aload_n hx hb dJ1_charAt_3b067_1 rfl (lv_at hl 0 rfl) ?_
  refine va_tlen (v := nI 76) hx hb hTt hS rfl dJ1_charAt_3b067_2 ?_
  refine va_callv (A0 := F0') (H0 := s.heap) (va_runS (As := [.int (nI k), .int (nI 76)]) (g := F0 m 3 ls [.int (nI 76), .int (nI k)]) (rest := []) ctx (c_J0_ck l q v k 76 hk (by decide) s.heap) (va_cwS 2 hts gJ1_charAt_3b067_J0_checkIndex_df160 rfl rfl rfl (by decide +kernel) ⟨Nat.le_of_ble_eq_true rfl, Nat.le_of_ble_eq_true rfl⟩) ⟨st2_blind, fun U hU hW => ⟨rfl, hB.to hW.alike hU (fun _ _ _ => rfl) (fun _ h => h), hU⟩⟩ rfl rfl hl.1 rfl (lv_room (Nat.le_of_ble_eq_true rfl)) dJ1_charAt_3b067_3 ⟨Nat.le_refl _, Nat.le_refl _⟩) hS (fun q _ h => h.elim) (fun q h => h.elim) (fun u t H1 locs1 ht hvm hw hBt hz1 hk1 hS1 => ?_)
  have hH : H1 = s.heap := ht.symm.trans hBt
  subst hH
  refine va_forget (fun l hl => (hS1.2.2 l hl).elim) ?_
  refine lv_aload_n hx hb dJ1_charAt_3b067_6 rfl (lv_at hl 0 rfl) ?_
  refine lv_iload_n hx hb dJ1_charAt_3b067_7 rfl (lv_at hl 1 rfl) ?_
  refine va_tb (v := .int (sBY.getD k 0)) hx hb hTt hS (vp_in_nI hk (by decide)) (by rw [nI_clamp (by omega)]; rfl) dJ1_charAt_3b067_8 ?_
  refine lv_sipush (v := nI 255) hx hb dJ1_charAt_3b067_9 (by decide) ?_
  refine lv_iand hx hb dJ1_charAt_3b067_12 ?_
  refine lv_i2c (v := sCh k) hx hb dJ1_charAt_3b067_13 rfl ?_
  exact hret (sCh k) 14 ls rfl (pk_nc _) dJ1_charAt_3b067_14
theorem kJ0_ca_v : (Cond.fieldLink RJ0 9 "java/lang/String" "value" "[B" : Cond) ∈ wsJ0_charAt_5068e := List.mem_cons_of_mem _ aw_105
set_option maxHeartbeats 4000000 in
theorem c_J0_ca (l : Launch) (q v : Nat) (k : Nat) (hk : k < 76) : Met l yJ0_charAt_5068e wsJ0_charAt_5068e ({ frames := 3, cells := 0, slots := 0, locals := 64 } : Room) (st q v [.ref q, .int (nI k)]) (vp_Si (fun r => r = sCh k)) 0 0 (fun _ => False) := by
  refine st_start (cc := cJ0_charAt_5068e) (maxL := 2) (ty := .char) (by decide) rfl (Nat.le_of_ble_eq_true rfl) (fun p e s m args below meth c Q C hB hS hret ls hl => ?_)
  obtain ⟨hx, hb, hml, hr, hown, hts, hlk⟩ := id C
  have hown : s.vm.findClass RJ0 = some m.cls := hown
  have ctx : CallFix p m c cJ0_charAt_5068e 2 s args wsJ0_charAt_5068e RJ0 := ⟨hx, hb, hml, hown, hts⟩
  obtain ⟨⟨hO, hCo, hVa, hTt⟩, -⟩ := And.intro (hB.1.1 0 (by decide)) trivial
  have hl : lv_has ls 2 [(0, .ref q), (1, .int (nI k))] := hl
  refine lv_aload_n hx hb dJ0_charAt_5068e_0 rfl (lv_at hl 0 rfl) ?_
  refine st_callV (As := []) (rest := []) ⟨Nat.le_refl _, Nat.le_refl _⟩ ctx hB hS (c_J0_il l q v) gJ0_charAt_5068e_J0_isLatin1_aae02 rfl rfl rfl (n := 0) (by decide +kernel) ⟨Nat.le_of_ble_eq_true rfl, Nat.le_of_ble_eq_true rfl⟩ hl.1 rfl rfl (Nat.le_of_ble_eq_true rfl) dJ0_charAt_5068e_1 (fun r hr => ?_)
  subst hr
  refine lv_if_eq (tgt := 16) hx hb dJ0_charAt_5068e_4 (by decide) (fun c1 => absurd c1 (by decide)) (fun c1 => ?_)
  refine lv_aload_n hx hb dJ0_charAt_5068e_7 rfl (lv_at hl 0 rfl) ?_
  refine vk_getf hx hb hVa hS hown (hts _ kJ0_ca_v) (fun _ h9 => h9) dJ0_charAt_5068e_8 ?_
  refine lv_iload_n hx hb dJ0_charAt_5068e_11 rfl (lv_at hl 1 rfl) ?_
  refine st_callS (As := [.ref v, .int (nI k)]) (rest := []) ⟨Nat.le_refl _, Nat.le_refl _⟩ ctx hB hS (c_J1_ca l q v k hk) gJ0_charAt_5068e_J1_charAt_3b067 rfl rfl rfl (n := 2) (by decide +kernel) ⟨Nat.le_of_ble_eq_true rfl, Nat.le_of_ble_eq_true rfl⟩ hl.1 rfl rfl (Nat.le_of_ble_eq_true rfl) dJ0_charAt_5068e_12 (fun r hr => ?_)
  subst hr
  exact hret (sCh k) 15 ls rfl (pk_nc _) dJ0_charAt_5068e_15
