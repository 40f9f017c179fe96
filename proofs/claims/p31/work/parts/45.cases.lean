
def LCx (p : Program) (s : State) (m : MethodId) (meth : Method) (c : Code) (b L : Nat) (xs : Nat → Int32) (A : Nat → Prop) (g : GG) : Prop :=
  p.tables.exec = Jvm.exec ∧ c.code = code ∧ c.maxLocals = 4 ∧ s.vm.findClass RL = some m.cls ∧ (∀ w ∈ wsL_law, w.before #[Value.ref b] s = true) ∧ KK g s ∧ va_X b L xs s s.heap ∧ b < s.heap.size ∧ ¬ A b
def LKx (p : Program) (l : Launch) (e : Env) (s : State) (m : MethodId) (below : List Frame) (meth : Method) (c : Code) (Q : State → Prop) (A : Nat → Prop) (g : GG) (ad : Nat → Nat → Nat) (o : Nat) (a : Nat → Nat) (b i : Nat) : Prop :=
  ∀ (ub : Nat → Nat → Nat) (kb : Nat → Nat → Nat) (len : Nat) (tx : Nat → Int32) (pl : Nat) (oc : Nat) (da : Nat → Nat → Int32) (ds : Nat → Nat) (pa : Nat → Nat → Int32) (ps : Nat → Nat) (x : Nat → Nat → Int32) (dy : Nat) (ga : Nat → Nat → Int32) (gz : Nat) (uk : Nat) (UX : Nat → Nat → Nat → Int32) (UD : Nat → Nat) (kk : Nat) (KX : Nat → Nat → Nat → Int32) (KD : Nat → Nat) (sf : Nat → Int32) (sc : Nat → Nat) (ar : Nat → Nat → Int32), (Rl len tx pa ps x dy ga gz uk UX UD kk KX KD sc ar) → ∀ (H : Heap) (locs : List Loc), va_P g.1 vwCl ((xW g ad ub kb len tx pl oc da ds pa ps x dy ga gz uk UX UD kk KX KD sf) ++ mW g o a sc ar) H → va_D A ((xW g ad ub kb len tx pl oc da ds pa ps x dy ga gz uk UX UD kk KX KD sf) ++ mW g o a sc ar) → va_S A s.heap H locs → ∀ (ls : Array Slot), lv_has ls 4 [(3, .int (nI i)), (2, .ref o), (1, .ref (ad 0 0)), (0, .ref b)] → W p l e room_1 s m #[Value.ref b] below meth c H locs 96 3558 Q (F0 m 958 ls [])
set_option maxHeartbeats 1000000 in
set_option maxRecDepth 100000 in
theorem L_write {p : Program} {l : Launch} {e : Env} {s : State} {m : MethodId} {below : List Frame} {meth : Method} {c : Code} {Q : State → Prop} {A : Nat → Prop} {g : GG} {ad : Nat → Nat → Nat} {o : Nat} {a : Nat → Nat} {b L i : Nat} {xs : Nat → Int32} (LC : LCx p s m meth c b L xs A g) (hi : i + 4 ≤ L) (hL : L ≤ 256) (K : LKx p l e s m below meth c Q A g ad o a b i) {ub : Nat → Nat → Nat} {kb : Nat → Nat → Nat} {len : Nat} {tx : Nat → Int32} {pl : Nat} {oc : Nat} {da : Nat → Nat → Int32} {ds : Nat → Nat} {pa : Nat → Nat → Int32} {ps : Nat → Nat} {x : Nat → Nat → Int32} {dy : Nat} {ga : Nat → Nat → Int32} {gz : Nat} {uk : Nat} {UX : Nat → Nat → Nat → Int32} {UD : Nat → Nat} {kk : Nat} {KX : Nat → Nat → Nat → Int32} {KD : Nat → Nat} {sf : Nat → Int32} {sc : Nat → Nat} {ar : Nat → Nat → Int32} (hR : (Rl len tx pa ps x dy ga gz uk UX UD kk KX KD sc ar)) (H : Heap) (locs : List Loc) (hP : va_P g.1 vwCl ((xW g ad ub kb len tx pl oc da ds pa ps x dy ga gz uk UX UD kk KX KD sf) ++ mW g o a sc ar) H) (hD : va_D A ((xW g ad ub kb len tx pl oc da ds pa ps x dy ga gz uk UX UD kk KX KD sf) ++ mW g o a sc ar)) (hS : va_S A s.heap H locs) (ls : Array Slot) (hl : lv_has ls 4 [(3, .int (nI i)), (2, .ref o), (1, .ref (ad 0 0)), (0, .ref b)]) : W p l e room_1 s m #[Value.ref b] below meth c H locs 96 3558 Q (F0 m 168 ls []) := by
  obtain ⟨hx, hb, hml, hown, hts, hKK, hX, hbl, hbA⟩ := LC
  have ctx : CallFix p m c code 4 s #[Value.ref b] wsL_law RL := ⟨hx, hb, hml, hown, hts⟩
  obtain ⟨⟨hlen, hsg, hP8, hD5, hW6, hgz, huk, hkk⟩, ⟨⟨mP0, mP8⟩, ⟨mD0, mD5⟩, mW6, mB9, mA8, mK2, mS8, mT, mho, mpt⟩, hRX⟩ := id hR
  refine lv_aload_n hx hb dL_law_168 rfl (lv_at hl 2 rfl) ?_
  refine lv_aload_n hx hb dL_law_169 rfl (lv_at hl 3 rfl) ?_
  refine lv_iload_n hx hb dL_law_170 rfl (lv_at hl 0 rfl) ?_
  refine lv_iconst (v := nI 1) hx hb dL_law_171 (by decide) ?_
  refine lv_iadd hx hb dL_law_172 ?_
  refine lv_is (nI_add i 1) ?_
  refine va_sld hx hb hX hbl hbA hS (i := nI (i + 1)) (vp_in_nI (by omega) (by omega)) dL_law_173 ?_
  refine wr_callL (As := [.int (xs (nI (i + 1)).toNatClampNeg)]) (rest := []) (b := ad 0 0) ⟨Nat.le_of_ble_eq_true rfl, Nat.le_of_ble_eq_true rfl⟩ ctx hKK hP hD hS (lx_write l g ad ub kb len tx pl oc da ds pa ps x dy ga gz uk UX UD kk KX KD sf (xs (nI (i + 1)).toNatClampNeg) (by assumption)) gL_law_X7_write rfl rfl rfl hdX7_write ⟨Nat.le_of_ble_eq_true rfl, Nat.le_of_ble_eq_true rfl⟩ (ci := 7) (q0 := 0) rfl rfl hl.1 rfl rfl (Nat.le_of_ble_eq_true rfl) dL_law_174 (fun r1 u1 H locs h1 hP hD hS => ?_)
  have hP : va_P g.1 vwCl ((xW g ad ub kb u1.1 u1.2 pl oc da ds pa ps x dy ga gz uk UX UD kk KX KD sf) ++ mW g o a sc ar) H := hP
  have hD : va_D A ((xW g ad ub kb u1.1 u1.2 pl oc da ds pa ps x dy ga gz uk UX UD kk KX KD sf) ++ mW g o a sc ar) := hD
  refine lv_pop hx hb dL_law_177 rfl ?_
  refine lv_aload_n hx hb dL_law_178 rfl (lv_at hl 1 rfl) ?_
  refine lv_aload_n hx hb dL_law_179 rfl (lv_at hl 3 rfl) ?_
  refine lv_iload_n hx hb dL_law_180 rfl (lv_at hl 0 rfl) ?_
  refine lv_iconst (v := nI 1) hx hb dL_law_181 (by decide) ?_
  refine lv_iadd hx hb dL_law_182 ?_
  refine lv_is (nI_add i 1) ?_
  refine va_sld hx hb hX hbl hbA hS (i := nI (i + 1)) (vp_in_nI (by omega) (by omega)) dL_law_183 ?_
  refine wr_callR (As := [.int (xs (nI (i + 1)).toNatClampNeg)]) (rest := []) (b := o) ⟨Nat.le_of_ble_eq_true rfl, Nat.le_of_ble_eq_true rfl⟩ ctx hKK hP hD hS (c_X8_write l g o a sc ar (xs (nI (i + 1)).toNatClampNeg) (by assumption)) gL_law_X8_write rfl rfl rfl hdX8_write ⟨Nat.le_of_ble_eq_true rfl, Nat.le_of_ble_eq_true rfl⟩ (ci := 8) (q0 := 0) rfl rfl hl.1 rfl rfl (Nat.le_of_ble_eq_true rfl) dL_law_184 (fun r2 u2 H locs h2 hP hD hS => ?_)
  have hP : va_P g.1 vwCl ((xW g ad ub kb u1.1 u1.2 pl oc da ds pa ps x dy ga gz uk UX UD kk KX KD sf) ++ mW g o a (updN sc 15 u2.1) (upA ar 14 u2.2)) H := hP
  have hD : va_D A ((xW g ad ub kb u1.1 u1.2 pl oc da ds pa ps x dy ga gz uk UX UD kk KX KD sf) ++ mW g o a (updN sc 15 u2.1) (upA ar 14 u2.2)) := hD
  refine lv_pop hx hb dL_law_187 rfl ?_
  refine lv_goto (tgt := 958) hx hb dL_law_188 (by decide) ?_
  exact K ub kb u1.1 u1.2 pl oc da ds pa ps x dy ga gz uk UX UD kk KX KD sf (updN sc 15 u2.1) (upA ar 14 u2.2) (R_write hR h1 h2) _ _ hP hD hS _ (lv_sub hl [0, 1, 2, 3] rfl)
set_option maxHeartbeats 1000000 in
set_option maxRecDepth 100000 in
theorem L_wipe {p : Program} {l : Launch} {e : Env} {s : State} {m : MethodId} {below : List Frame} {meth : Method} {c : Code} {Q : State → Prop} {A : Nat → Prop} {g : GG} {ad : Nat → Nat → Nat} {o : Nat} {a : Nat → Nat} {b L i : Nat} {xs : Nat → Int32} (LC : LCx p s m meth c b L xs A g) (hi : i + 4 ≤ L) (hL : L ≤ 256) (K : LKx p l e s m below meth c Q A g ad o a b i) {ub : Nat → Nat → Nat} {kb : Nat → Nat → Nat} {len : Nat} {tx : Nat → Int32} {pl : Nat} {oc : Nat} {da : Nat → Nat → Int32} {ds : Nat → Nat} {pa : Nat → Nat → Int32} {ps : Nat → Nat} {x : Nat → Nat → Int32} {dy : Nat} {ga : Nat → Nat → Int32} {gz : Nat} {uk : Nat} {UX : Nat → Nat → Nat → Int32} {UD : Nat → Nat} {kk : Nat} {KX : Nat → Nat → Nat → Int32} {KD : Nat → Nat} {sf : Nat → Int32} {sc : Nat → Nat} {ar : Nat → Nat → Int32} (hR : (Rl len tx pa ps x dy ga gz uk UX UD kk KX KD sc ar)) (H : Heap) (locs : List Loc) (hP : va_P g.1 vwCl ((xW g ad ub kb len tx pl oc da ds pa ps x dy ga gz uk UX UD kk KX KD sf) ++ mW g o a sc ar) H) (hD : va_D A ((xW g ad ub kb len tx pl oc da ds pa ps x dy ga gz uk UX UD kk KX KD sf) ++ mW g o a sc ar)) (hS : va_S A s.heap H locs) (ls : Array Slot) (hl : lv_has ls 4 [(3, .int (nI i)), (2, .ref o), (1, .ref (ad 0 0)), (0, .ref b)]) : W p l e room_1 s m #[Value.ref b] below meth c H locs 96 3558 Q (F0 m 191 ls []) := by
  obtain ⟨hx, hb, hml, hown, hts, hKK, hX, hbl, hbA⟩ := LC
  have ctx : CallFix p m c code 4 s #[Value.ref b] wsL_law RL := ⟨hx, hb, hml, hown, hts⟩
  obtain ⟨⟨hlen, hsg, hP8, hD5, hW6, hgz, huk, hkk⟩, ⟨⟨mP0, mP8⟩, ⟨mD0, mD5⟩, mW6, mB9, mA8, mK2, mS8, mT, mho, mpt⟩, hRX⟩ := id hR
  refine lv_aload_n hx hb dL_law_191 rfl (lv_at hl 2 rfl) ?_
  refine wr_callL (As := []) (rest := []) (b := ad 0 0) ⟨Nat.le_of_ble_eq_true rfl, Nat.le_of_ble_eq_true rfl⟩ ctx hKK hP hD hS (lx_wipe l g ad ub kb len tx pl oc da ds pa ps x dy ga gz uk UX UD kk KX KD sf) gL_law_X7_wipe rfl rfl rfl hdX7_wipe ⟨Nat.le_of_ble_eq_true rfl, Nat.le_of_ble_eq_true rfl⟩ (ci := 7) (q0 := 0) rfl rfl hl.1 rfl rfl (Nat.le_of_ble_eq_true rfl) dL_law_192 (fun r1 u1 H locs h1 hP hD hS => ?_)
  have hP : va_P g.1 vwCl ((xW g ad ub kb 0 tx pl oc da ds pa ps x dy ga gz uk UX UD kk KX KD sf) ++ mW g o a sc ar) H := hP
  have hD : va_D A ((xW g ad ub kb 0 tx pl oc da ds pa ps x dy ga gz uk UX UD kk KX KD sf) ++ mW g o a sc ar) := hD
  refine lv_pop hx hb dL_law_195 rfl ?_
  refine lv_aload_n hx hb dL_law_196 rfl (lv_at hl 1 rfl) ?_
  refine wr_callR (As := []) (rest := []) (b := o) ⟨Nat.le_of_ble_eq_true rfl, Nat.le_of_ble_eq_true rfl⟩ ctx hKK hP hD hS (c_X8_wipe l g o a sc ar) gL_law_X8_wipe rfl rfl rfl hdX8_wipe ⟨Nat.le_of_ble_eq_true rfl, Nat.le_of_ble_eq_true rfl⟩ (ci := 8) (q0 := 0) rfl rfl hl.1 rfl rfl (Nat.le_of_ble_eq_true rfl) dL_law_197 (fun r2 u2 H locs h2 hP hD hS => ?_)
  have hP : va_P g.1 vwCl ((xW g ad ub kb 0 tx pl oc da ds pa ps x dy ga gz uk UX UD kk KX KD sf) ++ mW g o a (updN sc 15 0) ar) H := hP
  have hD : va_D A ((xW g ad ub kb 0 tx pl oc da ds pa ps x dy ga gz uk UX UD kk KX KD sf) ++ mW g o a (updN sc 15 0) ar) := hD
  refine lv_pop hx hb dL_law_200 rfl ?_
  refine lv_goto (tgt := 958) hx hb dL_law_201 (by decide) ?_
  exact K ub kb 0 tx pl oc da ds pa ps x dy ga gz uk UX UD kk KX KD sf (updN sc 15 0) ar (R_wipe hR h1 h2) _ _ hP hD hS _ (lv_sub hl [0, 1, 2, 3] rfl)
set_option maxHeartbeats 1000000 in
set_option maxRecDepth 100000 in
theorem L_fault {p : Program} {l : Launch} {e : Env} {s : State} {m : MethodId} {below : List Frame} {meth : Method} {c : Code} {Q : State → Prop} {A : Nat → Prop} {g : GG} {ad : Nat → Nat → Nat} {o : Nat} {a : Nat → Nat} {b L i : Nat} {xs : Nat → Int32} (LC : LCx p s m meth c b L xs A g) (hi : i + 4 ≤ L) (hL : L ≤ 256) (K : LKx p l e s m below meth c Q A g ad o a b i) {ub : Nat → Nat → Nat} {kb : Nat → Nat → Nat} {len : Nat} {tx : Nat → Int32} {pl : Nat} {oc : Nat} {da : Nat → Nat → Int32} {ds : Nat → Nat} {pa : Nat → Nat → Int32} {ps : Nat → Nat} {x : Nat → Nat → Int32} {dy : Nat} {ga : Nat → Nat → Int32} {gz : Nat} {uk : Nat} {UX : Nat → Nat → Nat → Int32} {UD : Nat → Nat} {kk : Nat} {KX : Nat → Nat → Nat → Int32} {KD : Nat → Nat} {sf : Nat → Int32} {sc : Nat → Nat} {ar : Nat → Nat → Int32} (hR : (Rl len tx pa ps x dy ga gz uk UX UD kk KX KD sc ar)) (H : Heap) (locs : List Loc) (hP : va_P g.1 vwCl ((xW g ad ub kb len tx pl oc da ds pa ps x dy ga gz uk UX UD kk KX KD sf) ++ mW g o a sc ar) H) (hD : va_D A ((xW g ad ub kb len tx pl oc da ds pa ps x dy ga gz uk UX UD kk KX KD sf) ++ mW g o a sc ar)) (hS : va_S A s.heap H locs) (ls : Array Slot) (hl : lv_has ls 4 [(3, .int (nI i)), (2, .ref o), (1, .ref (ad 0 0)), (0, .ref b)]) : W p l e room_1 s m #[Value.ref b] below meth c H locs 96 3558 Q (F0 m 204 ls []) := by
  obtain ⟨hx, hb, hml, hown, hts, hKK, hX, hbl, hbA⟩ := LC
  have ctx : CallFix p m c code 4 s #[Value.ref b] wsL_law RL := ⟨hx, hb, hml, hown, hts⟩
  obtain ⟨⟨hlen, hsg, hP8, hD5, hW6, hgz, huk, hkk⟩, ⟨⟨mP0, mP8⟩, ⟨mD0, mD5⟩, mW6, mB9, mA8, mK2, mS8, mT, mho, mpt⟩, hRX⟩ := id hR
  refine lv_aload_n hx hb dL_law_204 rfl (lv_at hl 2 rfl) ?_
  refine wr_callL (As := []) (rest := []) (b := ad 0 0) ⟨Nat.le_of_ble_eq_true rfl, Nat.le_of_ble_eq_true rfl⟩ ctx hKK hP hD hS (lx_fault l g ad ub kb len tx pl oc da ds pa ps x dy ga gz uk UX UD kk KX KD sf (by assumption) (by assumption)) gL_law_X7_fault rfl rfl rfl hdX7_fault ⟨Nat.le_of_ble_eq_true rfl, Nat.le_of_ble_eq_true rfl⟩ (ci := 7) (q0 := 0) rfl rfl hl.1 rfl rfl (Nat.le_of_ble_eq_true rfl) dL_law_205 (fun r1 u1 H locs h1 hP hD hS => ?_)
  have hP : va_P g.1 vwCl ((xW g ad ub kb len tx u1.1 u1.2.1 u1.2.2.1 u1.2.2.2 pa ps x dy ga gz uk UX UD kk KX KD sf) ++ mW g o a sc ar) H := hP
  have hD : va_D A ((xW g ad ub kb len tx u1.1 u1.2.1 u1.2.2.1 u1.2.2.2 pa ps x dy ga gz uk UX UD kk KX KD sf) ++ mW g o a sc ar) := hD
  refine lv_pop hx hb dL_law_208 rfl ?_
  refine lv_aload_n hx hb dL_law_209 rfl (lv_at hl 1 rfl) ?_
  refine wr_callR (As := []) (rest := []) (b := o) ⟨Nat.le_of_ble_eq_true rfl, Nat.le_of_ble_eq_true rfl⟩ ctx hKK hP hD hS (c_X8_fault l g o a sc ar (by assumption)) gL_law_X8_fault rfl rfl rfl hdX8_fault ⟨Nat.le_of_ble_eq_true rfl, Nat.le_of_ble_eq_true rfl⟩ (ci := 8) (q0 := 0) rfl rfl hl.1 rfl rfl (Nat.le_of_ble_eq_true rfl) dL_law_210 (fun r2 u2 H locs h2 hP hD hS => ?_)
  have hP : va_P g.1 vwCl ((xW g ad ub kb len tx u1.1 u1.2.1 u1.2.2.1 u1.2.2.2 pa ps x dy ga gz uk UX UD kk KX KD sf) ++ mW g o a (updN (updN (updN (updN (updN (updN (updN sc 16 u2.1) 18 u2.2.1.1) 19 u2.2.1.2.1) 20 u2.2.1.2.2.1) 22 u2.2.1.2.2.2.1) 24 u2.2.1.2.2.2.2.1) 26 u2.2.1.2.2.2.2.2.1) (upA (upA (upA (upA (upA ar 21 u2.2.1.2.2.2.2.2.2.1) 23 u2.2.1.2.2.2.2.2.2.2.1) 25 u2.2.1.2.2.2.2.2.2.2.2.1) 27 u2.2.1.2.2.2.2.2.2.2.2.2) 17 u2.2.2)) H := hP
  have hD : va_D A ((xW g ad ub kb len tx u1.1 u1.2.1 u1.2.2.1 u1.2.2.2 pa ps x dy ga gz uk UX UD kk KX KD sf) ++ mW g o a (updN (updN (updN (updN (updN (updN (updN sc 16 u2.1) 18 u2.2.1.1) 19 u2.2.1.2.1) 20 u2.2.1.2.2.1) 22 u2.2.1.2.2.2.1) 24 u2.2.1.2.2.2.2.1) 26 u2.2.1.2.2.2.2.2.1) (upA (upA (upA (upA (upA ar 21 u2.2.1.2.2.2.2.2.2.1) 23 u2.2.1.2.2.2.2.2.2.2.1) 25 u2.2.1.2.2.2.2.2.2.2.2.1) 27 u2.2.1.2.2.2.2.2.2.2.2.2) 17 u2.2.2)) := hD
  refine lv_pop hx hb dL_law_213 rfl ?_
  refine lv_goto (tgt := 958) hx hb dL_law_214 (by decide) ?_
  exact K ub kb len tx u1.1 u1.2.1 u1.2.2.1 u1.2.2.2 pa ps x dy ga gz uk UX UD kk KX KD sf (updN (updN (updN (updN (updN (updN (updN sc 16 u2.1) 18 u2.2.1.1) 19 u2.2.1.2.1) 20 u2.2.1.2.2.1) 22 u2.2.1.2.2.2.1) 24 u2.2.1.2.2.2.2.1) 26 u2.2.1.2.2.2.2.2.1) (upA (upA (upA (upA (upA ar 21 u2.2.1.2.2.2.2.2.2.1) 23 u2.2.1.2.2.2.2.2.2.2.1) 25 u2.2.1.2.2.2.2.2.2.2.2.1) 27 u2.2.1.2.2.2.2.2.2.2.2.2) 17 u2.2.2) (R_fault hR h1 h2) _ _ hP hD hS _ (lv_sub hl [0, 1, 2, 3] rfl)
set_option maxHeartbeats 1000000 in
set_option maxRecDepth 100000 in
theorem L_lay {p : Program} {l : Launch} {e : Env} {s : State} {m : MethodId} {below : List Frame} {meth : Method} {c : Code} {Q : State → Prop} {A : Nat → Prop} {g : GG} {ad : Nat → Nat → Nat} {o : Nat} {a : Nat → Nat} {b L i : Nat} {xs : Nat → Int32} (LC : LCx p s m meth c b L xs A g) (hi : i + 4 ≤ L) (hL : L ≤ 256) (K : LKx p l e s m below meth c Q A g ad o a b i) {ub : Nat → Nat → Nat} {kb : Nat → Nat → Nat} {len : Nat} {tx : Nat → Int32} {pl : Nat} {oc : Nat} {da : Nat → Nat → Int32} {ds : Nat → Nat} {pa : Nat → Nat → Int32} {ps : Nat → Nat} {x : Nat → Nat → Int32} {dy : Nat} {ga : Nat → Nat → Int32} {gz : Nat} {uk : Nat} {UX : Nat → Nat → Nat → Int32} {UD : Nat → Nat} {kk : Nat} {KX : Nat → Nat → Nat → Int32} {KD : Nat → Nat} {sf : Nat → Int32} {sc : Nat → Nat} {ar : Nat → Nat → Int32} (hR : (Rl len tx pa ps x dy ga gz uk UX UD kk KX KD sc ar)) (H : Heap) (locs : List Loc) (hP : va_P g.1 vwCl ((xW g ad ub kb len tx pl oc da ds pa ps x dy ga gz uk UX UD kk KX KD sf) ++ mW g o a sc ar) H) (hD : va_D A ((xW g ad ub kb len tx pl oc da ds pa ps x dy ga gz uk UX UD kk KX KD sf) ++ mW g o a sc ar)) (hS : va_S A s.heap H locs) (ls : Array Slot) (hl : lv_has ls 4 [(3, .int (nI i)), (2, .ref o), (1, .ref (ad 0 0)), (0, .ref b)]) : W p l e room_1 s m #[Value.ref b] below meth c H locs 96 3558 Q (F0 m 217 ls []) := by
  obtain ⟨hx, hb, hml, hown, hts, hKK, hX, hbl, hbA⟩ := LC
  have ctx : CallFix p m c code 4 s #[Value.ref b] wsL_law RL := ⟨hx, hb, hml, hown, hts⟩
  obtain ⟨⟨hlen, hsg, hP8, hD5, hW6, hgz, huk, hkk⟩, ⟨⟨mP0, mP8⟩, ⟨mD0, mD5⟩, mW6, mB9, mA8, mK2, mS8, mT, mho, mpt⟩, hRX⟩ := id hR
  refine lv_aload_n hx hb dL_law_217 rfl (lv_at hl 2 rfl) ?_
  refine wr_callL (As := []) (rest := []) (b := ad 0 0) ⟨Nat.le_of_ble_eq_true rfl, Nat.le_of_ble_eq_true rfl⟩ ctx hKK hP hD hS (lx_lay l g ad ub kb len tx pl oc da ds pa ps x dy ga gz uk UX UD kk KX KD sf (by assumption) (by assumption)) gL_law_X7_lay rfl rfl rfl hdX7_lay ⟨Nat.le_of_ble_eq_true rfl, Nat.le_of_ble_eq_true rfl⟩ (ci := 7) (q0 := 0) rfl rfl hl.1 rfl rfl (Nat.le_of_ble_eq_true rfl) dL_law_218 (fun r1 u1 H locs h1 hP hD hS => ?_)
  have hP : va_P g.1 vwCl ((xW g ad ub kb len tx u1.1 u1.2.1 u1.2.2.1.1 u1.2.2.1.2 u1.2.2.2.1.1 u1.2.2.2.1.2 u1.2.2.2.2.1.1 u1.2.2.2.2.1.2 ga u1.2.2.2.2.2.1 u1.2.2.2.2.2.2.1 UX UD u1.2.2.2.2.2.2.2 KX KD sf) ++ mW g o a sc ar) H := hP
  have hD : va_D A ((xW g ad ub kb len tx u1.1 u1.2.1 u1.2.2.1.1 u1.2.2.1.2 u1.2.2.2.1.1 u1.2.2.2.1.2 u1.2.2.2.2.1.1 u1.2.2.2.2.1.2 ga u1.2.2.2.2.2.1 u1.2.2.2.2.2.2.1 UX UD u1.2.2.2.2.2.2.2 KX KD sf) ++ mW g o a sc ar) := hD
  refine lv_pop hx hb dL_law_221 rfl ?_
  refine lv_aload_n hx hb dL_law_222 rfl (lv_at hl 1 rfl) ?_
  refine wr_callR (As := []) (rest := []) (b := o) ⟨Nat.le_of_ble_eq_true rfl, Nat.le_of_ble_eq_true rfl⟩ ctx hKK hP hD hS (c_X8_lay l g o a sc ar (by assumption)) gL_law_X8_lay rfl rfl rfl hdX8_lay ⟨Nat.le_of_ble_eq_true rfl, Nat.le_of_ble_eq_true rfl⟩ (ci := 8) (q0 := 0) rfl rfl hl.1 rfl rfl (Nat.le_of_ble_eq_true rfl) dL_law_223 (fun r2 u2 H locs h2 hP hD hS => ?_)
  have hP : va_P g.1 vwCl ((xW g ad ub kb len tx u1.1 u1.2.1 u1.2.2.1.1 u1.2.2.1.2 u1.2.2.2.1.1 u1.2.2.2.1.2 u1.2.2.2.2.1.1 u1.2.2.2.2.1.2 ga u1.2.2.2.2.2.1 u1.2.2.2.2.2.2.1 UX UD u1.2.2.2.2.2.2.2 KX KD sf) ++ mW g o a u2.1 u2.2) H := hP
  have hD : va_D A ((xW g ad ub kb len tx u1.1 u1.2.1 u1.2.2.1.1 u1.2.2.1.2 u1.2.2.2.1.1 u1.2.2.2.1.2 u1.2.2.2.2.1.1 u1.2.2.2.2.1.2 ga u1.2.2.2.2.2.1 u1.2.2.2.2.2.2.1 UX UD u1.2.2.2.2.2.2.2 KX KD sf) ++ mW g o a u2.1 u2.2) := hD
  refine lv_pop hx hb dL_law_226 rfl ?_
  refine lv_goto (tgt := 958) hx hb dL_law_227 (by decide) ?_
  exact K ub kb len tx u1.1 u1.2.1 u1.2.2.1.1 u1.2.2.1.2 u1.2.2.2.1.1 u1.2.2.2.1.2 u1.2.2.2.2.1.1 u1.2.2.2.2.1.2 ga u1.2.2.2.2.2.1 u1.2.2.2.2.2.2.1 UX UD u1.2.2.2.2.2.2.2 KX KD sf u2.1 u2.2 (R_lay hR h1 h2) _ _ hP hD hS _ (lv_sub hl [0, 1, 2, 3] rfl)
set_option maxHeartbeats 1000000 in
set_option maxRecDepth 100000 in
theorem L_person {p : Program} {l : Launch} {e : Env} {s : State} {m : MethodId} {below : List Frame} {meth : Method} {c : Code} {Q : State → Prop} {A : Nat → Prop} {g : GG} {ad : Nat → Nat → Nat} {o : Nat} {a : Nat → Nat} {b L i : Nat} {xs : Nat → Int32} (LC : LCx p s m meth c b L xs A g) (hi : i + 4 ≤ L) (hL : L ≤ 256) (K : LKx p l e s m below meth c Q A g ad o a b i) {ub : Nat → Nat → Nat} {kb : Nat → Nat → Nat} {len : Nat} {tx : Nat → Int32} {pl : Nat} {oc : Nat} {da : Nat → Nat → Int32} {ds : Nat → Nat} {pa : Nat → Nat → Int32} {ps : Nat → Nat} {x : Nat → Nat → Int32} {dy : Nat} {ga : Nat → Nat → Int32} {gz : Nat} {uk : Nat} {UX : Nat → Nat → Nat → Int32} {UD : Nat → Nat} {kk : Nat} {KX : Nat → Nat → Nat → Int32} {KD : Nat → Nat} {sf : Nat → Int32} {sc : Nat → Nat} {ar : Nat → Nat → Int32} (hR : (Rl len tx pa ps x dy ga gz uk UX UD kk KX KD sc ar)) (H : Heap) (locs : List Loc) (hP : va_P g.1 vwCl ((xW g ad ub kb len tx pl oc da ds pa ps x dy ga gz uk UX UD kk KX KD sf) ++ mW g o a sc ar) H) (hD : va_D A ((xW g ad ub kb len tx pl oc da ds pa ps x dy ga gz uk UX UD kk KX KD sf) ++ mW g o a sc ar)) (hS : va_S A s.heap H locs) (ls : Array Slot) (hl : lv_has ls 4 [(3, .int (nI i)), (2, .ref o), (1, .ref (ad 0 0)), (0, .ref b)]) : W p l e room_1 s m #[Value.ref b] below meth c H locs 96 3558 Q (F0 m 230 ls []) := by
  obtain ⟨hx, hb, hml, hown, hts, hKK, hX, hbl, hbA⟩ := LC
  have ctx : CallFix p m c code 4 s #[Value.ref b] wsL_law RL := ⟨hx, hb, hml, hown, hts⟩
  obtain ⟨⟨hlen, hsg, hP8, hD5, hW6, hgz, huk, hkk⟩, ⟨⟨mP0, mP8⟩, ⟨mD0, mD5⟩, mW6, mB9, mA8, mK2, mS8, mT, mho, mpt⟩, hRX⟩ := id hR
  refine lv_aload_n hx hb dL_law_230 rfl (lv_at hl 2 rfl) ?_
  refine lv_aload_n hx hb dL_law_231 rfl (lv_at hl 3 rfl) ?_
  refine lv_iload_n hx hb dL_law_232 rfl (lv_at hl 0 rfl) ?_
  refine lv_iconst (v := nI 1) hx hb dL_law_233 (by decide) ?_
  refine lv_iadd hx hb dL_law_234 ?_
  refine lv_is (nI_add i 1) ?_
  refine va_sld hx hb hX hbl hbA hS (i := nI (i + 1)) (vp_in_nI (by omega) (by omega)) dL_law_235 ?_
  refine lv_aload_n hx hb dL_law_236 rfl (lv_at hl 3 rfl) ?_
  refine lv_iload_n hx hb dL_law_237 rfl (lv_at hl 0 rfl) ?_
  refine lv_iconst (v := nI 2) hx hb dL_law_238 (by decide) ?_
  refine lv_iadd hx hb dL_law_239 ?_
  refine lv_is (nI_add i 2) ?_
  refine va_sld hx hb hX hbl hbA hS (i := nI (i + 2)) (vp_in_nI (by omega) (by omega)) dL_law_240 ?_
  refine ro_callV0K (As := [.int (xs (nI (i + 1)).toNatClampNeg), .int (xs (nI (i + 2)).toNatClampNeg)]) (rest := []) (b := ad 0 0) ⟨Nat.le_of_ble_eq_true rfl, Nat.le_of_ble_eq_true rfl⟩ ctx hKK (P_l hP) (lx_person l g ad ub kb len tx pl oc da ds pa ps x dy ga gz uk UX UD kk KX KD sf (xs (nI (i + 1)).toNatClampNeg) (xs (nI (i + 2)).toNatClampNeg) (by assumption) (by assumption) (by assumption) (by assumption)) gL_law_X7_person rfl rfl rfl hdX7_person ⟨Nat.le_of_ble_eq_true rfl, Nat.le_of_ble_eq_true rfl⟩ (ci := 7) (q0 := 0) rfl rfl hl.1 rfl rfl (Nat.le_of_ble_eq_true rfl) dL_law_241 (fun r1 h1 => ?_)
  refine lv_pop hx hb dL_law_244 rfl ?_
  refine lv_aload_n hx hb dL_law_245 rfl (lv_at hl 1 rfl) ?_
  refine lv_aload_n hx hb dL_law_246 rfl (lv_at hl 3 rfl) ?_
  refine lv_iload_n hx hb dL_law_247 rfl (lv_at hl 0 rfl) ?_
  refine lv_iconst (v := nI 1) hx hb dL_law_248 (by decide) ?_
  refine lv_iadd hx hb dL_law_249 ?_
  refine lv_is (nI_add i 1) ?_
  refine va_sld hx hb hX hbl hbA hS (i := nI (i + 1)) (vp_in_nI (by omega) (by omega)) dL_law_250 ?_
  refine lv_aload_n hx hb dL_law_251 rfl (lv_at hl 3 rfl) ?_
  refine lv_iload_n hx hb dL_law_252 rfl (lv_at hl 0 rfl) ?_
  refine lv_iconst (v := nI 2) hx hb dL_law_253 (by decide) ?_
  refine lv_iadd hx hb dL_law_254 ?_
  refine lv_is (nI_add i 2) ?_
  refine va_sld hx hb hX hbl hbA hS (i := nI (i + 2)) (vp_in_nI (by omega) (by omega)) dL_law_255 ?_
  refine wr_callR (As := [.int (xs (nI (i + 1)).toNatClampNeg), .int (xs (nI (i + 2)).toNatClampNeg)]) (rest := []) (b := o) ⟨Nat.le_of_ble_eq_true rfl, Nat.le_of_ble_eq_true rfl⟩ ctx hKK hP hD hS (c_X8_person l g o a sc ar (xs (nI (i + 1)).toNatClampNeg) (xs (nI (i + 2)).toNatClampNeg) (by assumption)) gL_law_X8_person rfl rfl rfl hdX8_person ⟨Nat.le_of_ble_eq_true rfl, Nat.le_of_ble_eq_true rfl⟩ (ci := 8) (q0 := 0) rfl rfl hl.1 rfl rfl (Nat.le_of_ble_eq_true rfl) dL_law_256 (fun r2 u2 H locs h2 hP hD hS => ?_)
  have hP : va_P g.1 vwCl ((xW g ad ub kb len tx pl oc da ds pa ps x dy ga gz uk UX UD kk KX KD sf) ++ mW g o a sc (upA ar 28 u2)) H := hP
  have hD : va_D A ((xW g ad ub kb len tx pl oc da ds pa ps x dy ga gz uk UX UD kk KX KD sf) ++ mW g o a sc (upA ar 28 u2)) := hD
  refine lv_pop hx hb dL_law_259 rfl ?_
  refine lv_goto (tgt := 958) hx hb dL_law_260 (by decide) ?_
  exact K ub kb len tx pl oc da ds pa ps x dy ga gz uk UX UD kk KX KD sf sc (upA ar 28 u2) (R_person hR h1 h2) _ _ hP hD hS _ (lv_sub hl [0, 1, 2, 3] rfl)
set_option maxHeartbeats 1000000 in
set_option maxRecDepth 100000 in
theorem L_likes {p : Program} {l : Launch} {e : Env} {s : State} {m : MethodId} {below : List Frame} {meth : Method} {c : Code} {Q : State → Prop} {A : Nat → Prop} {g : GG} {ad : Nat → Nat → Nat} {o : Nat} {a : Nat → Nat} {b L i : Nat} {xs : Nat → Int32} (LC : LCx p s m meth c b L xs A g) (hi : i + 4 ≤ L) (hL : L ≤ 256) (K : LKx p l e s m below meth c Q A g ad o a b i) {ub : Nat → Nat → Nat} {kb : Nat → Nat → Nat} {len : Nat} {tx : Nat → Int32} {pl : Nat} {oc : Nat} {da : Nat → Nat → Int32} {ds : Nat → Nat} {pa : Nat → Nat → Int32} {ps : Nat → Nat} {x : Nat → Nat → Int32} {dy : Nat} {ga : Nat → Nat → Int32} {gz : Nat} {uk : Nat} {UX : Nat → Nat → Nat → Int32} {UD : Nat → Nat} {kk : Nat} {KX : Nat → Nat → Nat → Int32} {KD : Nat → Nat} {sf : Nat → Int32} {sc : Nat → Nat} {ar : Nat → Nat → Int32} (hR : (Rl len tx pa ps x dy ga gz uk UX UD kk KX KD sc ar)) (H : Heap) (locs : List Loc) (hP : va_P g.1 vwCl ((xW g ad ub kb len tx pl oc da ds pa ps x dy ga gz uk UX UD kk KX KD sf) ++ mW g o a sc ar) H) (hD : va_D A ((xW g ad ub kb len tx pl oc da ds pa ps x dy ga gz uk UX UD kk KX KD sf) ++ mW g o a sc ar)) (hS : va_S A s.heap H locs) (ls : Array Slot) (hl : lv_has ls 4 [(3, .int (nI i)), (2, .ref o), (1, .ref (ad 0 0)), (0, .ref b)]) : W p l e room_1 s m #[Value.ref b] below meth c H locs 96 3558 Q (F0 m 263 ls []) := by
  obtain ⟨hx, hb, hml, hown, hts, hKK, hX, hbl, hbA⟩ := LC
  have ctx : CallFix p m c code 4 s #[Value.ref b] wsL_law RL := ⟨hx, hb, hml, hown, hts⟩
  obtain ⟨⟨hlen, hsg, hP8, hD5, hW6, hgz, huk, hkk⟩, ⟨⟨mP0, mP8⟩, ⟨mD0, mD5⟩, mW6, mB9, mA8, mK2, mS8, mT, mho, mpt⟩, hRX⟩ := id hR
  refine lv_aload_n hx hb dL_law_263 rfl (lv_at hl 2 rfl) ?_
  refine lv_aload_n hx hb dL_law_264 rfl (lv_at hl 3 rfl) ?_
  refine lv_iload_n hx hb dL_law_265 rfl (lv_at hl 0 rfl) ?_
  refine lv_iconst (v := nI 1) hx hb dL_law_266 (by decide) ?_
  refine lv_iadd hx hb dL_law_267 ?_
  refine lv_is (nI_add i 1) ?_
  refine va_sld hx hb hX hbl hbA hS (i := nI (i + 1)) (vp_in_nI (by omega) (by omega)) dL_law_268 ?_
  refine lv_aload_n hx hb dL_law_269 rfl (lv_at hl 3 rfl) ?_
  refine lv_iload_n hx hb dL_law_270 rfl (lv_at hl 0 rfl) ?_
  refine lv_iconst (v := nI 2) hx hb dL_law_271 (by decide) ?_
  refine lv_iadd hx hb dL_law_272 ?_
  refine lv_is (nI_add i 2) ?_
  refine va_sld hx hb hX hbl hbA hS (i := nI (i + 2)) (vp_in_nI (by omega) (by omega)) dL_law_273 ?_
  refine ro_callV0K (As := [.int (xs (nI (i + 1)).toNatClampNeg), .int (xs (nI (i + 2)).toNatClampNeg)]) (rest := []) (b := ad 0 0) ⟨Nat.le_of_ble_eq_true rfl, Nat.le_of_ble_eq_true rfl⟩ ctx hKK (P_l hP) (lx_likes l g ad ub kb len tx pl oc da ds pa ps x dy ga gz uk UX UD kk KX KD sf (xs (nI (i + 1)).toNatClampNeg) (xs (nI (i + 2)).toNatClampNeg) (by assumption) (by assumption) (by assumption) (by assumption)) gL_law_X7_likes rfl rfl rfl hdX7_likes ⟨Nat.le_of_ble_eq_true rfl, Nat.le_of_ble_eq_true rfl⟩ (ci := 7) (q0 := 0) rfl rfl hl.1 rfl rfl (Nat.le_of_ble_eq_true rfl) dL_law_274 (fun r1 h1 => ?_)
  refine lv_pop hx hb dL_law_277 rfl ?_
  refine lv_aload_n hx hb dL_law_278 rfl (lv_at hl 1 rfl) ?_
  refine lv_aload_n hx hb dL_law_279 rfl (lv_at hl 3 rfl) ?_
  refine lv_iload_n hx hb dL_law_280 rfl (lv_at hl 0 rfl) ?_
  refine lv_iconst (v := nI 1) hx hb dL_law_281 (by decide) ?_
  refine lv_iadd hx hb dL_law_282 ?_
  refine lv_is (nI_add i 1) ?_
  refine va_sld hx hb hX hbl hbA hS (i := nI (i + 1)) (vp_in_nI (by omega) (by omega)) dL_law_283 ?_
  refine lv_aload_n hx hb dL_law_284 rfl (lv_at hl 3 rfl) ?_
  refine lv_iload_n hx hb dL_law_285 rfl (lv_at hl 0 rfl) ?_
  refine lv_iconst (v := nI 2) hx hb dL_law_286 (by decide) ?_
  refine lv_iadd hx hb dL_law_287 ?_
  refine lv_is (nI_add i 2) ?_
  refine va_sld hx hb hX hbl hbA hS (i := nI (i + 2)) (vp_in_nI (by omega) (by omega)) dL_law_288 ?_
  refine ro_callV0K (As := [.int (xs (nI (i + 1)).toNatClampNeg), .int (xs (nI (i + 2)).toNatClampNeg)]) (rest := []) (b := o) ⟨Nat.le_of_ble_eq_true rfl, Nat.le_of_ble_eq_true rfl⟩ ctx hKK (P_r hP) (c_X8_likes l g o a sc ar (xs (nI (i + 1)).toNatClampNeg) (xs (nI (i + 2)).toNatClampNeg) (by assumption)) gL_law_X8_likes rfl rfl rfl hdX8_likes ⟨Nat.le_of_ble_eq_true rfl, Nat.le_of_ble_eq_true rfl⟩ (ci := 8) (q0 := 0) rfl rfl hl.1 rfl rfl (Nat.le_of_ble_eq_true rfl) dL_law_289 (fun r2 h2 => ?_)
  refine lv_pop hx hb dL_law_292 rfl ?_
  refine lv_goto (tgt := 958) hx hb dL_law_293 (by decide) ?_
  exact K ub kb len tx pl oc da ds pa ps x dy ga gz uk UX UD kk KX KD sf sc ar (R_likes hR h1 h2) _ _ hP hD hS _ (lv_sub hl [0, 1, 2, 3] rfl)
set_option maxHeartbeats 1000000 in
set_option maxRecDepth 100000 in
theorem L_door {p : Program} {l : Launch} {e : Env} {s : State} {m : MethodId} {below : List Frame} {meth : Method} {c : Code} {Q : State → Prop} {A : Nat → Prop} {g : GG} {ad : Nat → Nat → Nat} {o : Nat} {a : Nat → Nat} {b L i : Nat} {xs : Nat → Int32} (LC : LCx p s m meth c b L xs A g) (hi : i + 4 ≤ L) (hL : L ≤ 256) (K : LKx p l e s m below meth c Q A g ad o a b i) {ub : Nat → Nat → Nat} {kb : Nat → Nat → Nat} {len : Nat} {tx : Nat → Int32} {pl : Nat} {oc : Nat} {da : Nat → Nat → Int32} {ds : Nat → Nat} {pa : Nat → Nat → Int32} {ps : Nat → Nat} {x : Nat → Nat → Int32} {dy : Nat} {ga : Nat → Nat → Int32} {gz : Nat} {uk : Nat} {UX : Nat → Nat → Nat → Int32} {UD : Nat → Nat} {kk : Nat} {KX : Nat → Nat → Nat → Int32} {KD : Nat → Nat} {sf : Nat → Int32} {sc : Nat → Nat} {ar : Nat → Nat → Int32} (hR : (Rl len tx pa ps x dy ga gz uk UX UD kk KX KD sc ar)) (H : Heap) (locs : List Loc) (hP : va_P g.1 vwCl ((xW g ad ub kb len tx pl oc da ds pa ps x dy ga gz uk UX UD kk KX KD sf) ++ mW g o a sc ar) H) (hD : va_D A ((xW g ad ub kb len tx pl oc da ds pa ps x dy ga gz uk UX UD kk KX KD sf) ++ mW g o a sc ar)) (hS : va_S A s.heap H locs) (ls : Array Slot) (hl : lv_has ls 4 [(3, .int (nI i)), (2, .ref o), (1, .ref (ad 0 0)), (0, .ref b)]) : W p l e room_1 s m #[Value.ref b] below meth c H locs 96 3558 Q (F0 m 296 ls []) := by
  obtain ⟨hx, hb, hml, hown, hts, hKK, hX, hbl, hbA⟩ := LC
  have ctx : CallFix p m c code 4 s #[Value.ref b] wsL_law RL := ⟨hx, hb, hml, hown, hts⟩
  obtain ⟨⟨hlen, hsg, hP8, hD5, hW6, hgz, huk, hkk⟩, ⟨⟨mP0, mP8⟩, ⟨mD0, mD5⟩, mW6, mB9, mA8, mK2, mS8, mT, mho, mpt⟩, hRX⟩ := id hR
  refine lv_aload_n hx hb dL_law_296 rfl (lv_at hl 2 rfl) ?_
  refine lv_aload_n hx hb dL_law_297 rfl (lv_at hl 3 rfl) ?_
  refine lv_iload_n hx hb dL_law_298 rfl (lv_at hl 0 rfl) ?_
  refine lv_iconst (v := nI 1) hx hb dL_law_299 (by decide) ?_
  refine lv_iadd hx hb dL_law_300 ?_
  refine lv_is (nI_add i 1) ?_
  refine va_sld hx hb hX hbl hbA hS (i := nI (i + 1)) (vp_in_nI (by omega) (by omega)) dL_law_301 ?_
  refine lv_aload_n hx hb dL_law_302 rfl (lv_at hl 3 rfl) ?_
  refine lv_iload_n hx hb dL_law_303 rfl (lv_at hl 0 rfl) ?_
  refine lv_iconst (v := nI 2) hx hb dL_law_304 (by decide) ?_
  refine lv_iadd hx hb dL_law_305 ?_
  refine lv_is (nI_add i 2) ?_
  refine va_sld hx hb hX hbl hbA hS (i := nI (i + 2)) (vp_in_nI (by omega) (by omega)) dL_law_306 ?_
  refine ro_callV0K (As := [.int (xs (nI (i + 1)).toNatClampNeg), .int (xs (nI (i + 2)).toNatClampNeg)]) (rest := []) (b := ad 0 0) ⟨Nat.le_of_ble_eq_true rfl, Nat.le_of_ble_eq_true rfl⟩ ctx hKK (P_l hP) (lx_door l g ad ub kb len tx pl oc da ds pa ps x dy ga gz uk UX UD kk KX KD sf (xs (nI (i + 1)).toNatClampNeg) (xs (nI (i + 2)).toNatClampNeg) (by assumption) (by assumption) (by assumption) (by assumption)) gL_law_X7_door rfl rfl rfl hdX7_door ⟨Nat.le_of_ble_eq_true rfl, Nat.le_of_ble_eq_true rfl⟩ (ci := 7) (q0 := 0) rfl rfl hl.1 rfl rfl (Nat.le_of_ble_eq_true rfl) dL_law_307 (fun r1 h1 => ?_)
  refine lv_pop hx hb dL_law_310 rfl ?_
  refine lv_aload_n hx hb dL_law_311 rfl (lv_at hl 1 rfl) ?_
  refine lv_aload_n hx hb dL_law_312 rfl (lv_at hl 3 rfl) ?_
  refine lv_iload_n hx hb dL_law_313 rfl (lv_at hl 0 rfl) ?_
  refine lv_iconst (v := nI 1) hx hb dL_law_314 (by decide) ?_
  refine lv_iadd hx hb dL_law_315 ?_
  refine lv_is (nI_add i 1) ?_
  refine va_sld hx hb hX hbl hbA hS (i := nI (i + 1)) (vp_in_nI (by omega) (by omega)) dL_law_316 ?_
  refine lv_aload_n hx hb dL_law_317 rfl (lv_at hl 3 rfl) ?_
  refine lv_iload_n hx hb dL_law_318 rfl (lv_at hl 0 rfl) ?_
  refine lv_iconst (v := nI 2) hx hb dL_law_319 (by decide) ?_
  refine lv_iadd hx hb dL_law_320 ?_
  refine lv_is (nI_add i 2) ?_
  refine va_sld hx hb hX hbl hbA hS (i := nI (i + 2)) (vp_in_nI (by omega) (by omega)) dL_law_321 ?_
  refine ro_callV0K (As := [.int (xs (nI (i + 1)).toNatClampNeg), .int (xs (nI (i + 2)).toNatClampNeg)]) (rest := []) (b := o) ⟨Nat.le_of_ble_eq_true rfl, Nat.le_of_ble_eq_true rfl⟩ ctx hKK (P_r hP) (c_X8_door l g o a sc ar (xs (nI (i + 1)).toNatClampNeg) (xs (nI (i + 2)).toNatClampNeg) (by assumption) (by assumption)) gL_law_X8_door rfl rfl rfl hdX8_door ⟨Nat.le_of_ble_eq_true rfl, Nat.le_of_ble_eq_true rfl⟩ (ci := 8) (q0 := 0) rfl rfl hl.1 rfl rfl (Nat.le_of_ble_eq_true rfl) dL_law_322 (fun r2 h2 => ?_)
  refine lv_pop hx hb dL_law_325 rfl ?_
  refine lv_goto (tgt := 958) hx hb dL_law_326 (by decide) ?_
  exact K ub kb len tx pl oc da ds pa ps x dy ga gz uk UX UD kk KX KD sf sc ar (R_door hR h1 h2) _ _ hP hD hS _ (lv_sub hl [0, 1, 2, 3] rfl)
set_option maxHeartbeats 1000000 in
set_option maxRecDepth 100000 in
theorem L_call {p : Program} {l : Launch} {e : Env} {s : State} {m : MethodId} {below : List Frame} {meth : Method} {c : Code} {Q : State → Prop} {A : Nat → Prop} {g : GG} {ad : Nat → Nat → Nat} {o : Nat} {a : Nat → Nat} {b L i : Nat} {xs : Nat → Int32} (LC : LCx p s m meth c b L xs A g) (hi : i + 4 ≤ L) (hL : L ≤ 256) (K : LKx p l e s m below meth c Q A g ad o a b i) {ub : Nat → Nat → Nat} {kb : Nat → Nat → Nat} {len : Nat} {tx : Nat → Int32} {pl : Nat} {oc : Nat} {da : Nat → Nat → Int32} {ds : Nat → Nat} {pa : Nat → Nat → Int32} {ps : Nat → Nat} {x : Nat → Nat → Int32} {dy : Nat} {ga : Nat → Nat → Int32} {gz : Nat} {uk : Nat} {UX : Nat → Nat → Nat → Int32} {UD : Nat → Nat} {kk : Nat} {KX : Nat → Nat → Nat → Int32} {KD : Nat → Nat} {sf : Nat → Int32} {sc : Nat → Nat} {ar : Nat → Nat → Int32} (hR : (Rl len tx pa ps x dy ga gz uk UX UD kk KX KD sc ar)) (H : Heap) (locs : List Loc) (hP : va_P g.1 vwCl ((xW g ad ub kb len tx pl oc da ds pa ps x dy ga gz uk UX UD kk KX KD sf) ++ mW g o a sc ar) H) (hD : va_D A ((xW g ad ub kb len tx pl oc da ds pa ps x dy ga gz uk UX UD kk KX KD sf) ++ mW g o a sc ar)) (hS : va_S A s.heap H locs) (ls : Array Slot) (hl : lv_has ls 4 [(3, .int (nI i)), (2, .ref o), (1, .ref (ad 0 0)), (0, .ref b)]) : W p l e room_1 s m #[Value.ref b] below meth c H locs 96 3558 Q (F0 m 329 ls []) := by
  obtain ⟨hx, hb, hml, hown, hts, hKK, hX, hbl, hbA⟩ := LC
  have ctx : CallFix p m c code 4 s #[Value.ref b] wsL_law RL := ⟨hx, hb, hml, hown, hts⟩
  obtain ⟨⟨hlen, hsg, hP8, hD5, hW6, hgz, huk, hkk⟩, ⟨⟨mP0, mP8⟩, ⟨mD0, mD5⟩, mW6, mB9, mA8, mK2, mS8, mT, mho, mpt⟩, hRX⟩ := id hR
  refine lv_aload_n hx hb dL_law_329 rfl (lv_at hl 2 rfl) ?_
  refine lv_aload_n hx hb dL_law_330 rfl (lv_at hl 3 rfl) ?_
  refine lv_iload_n hx hb dL_law_331 rfl (lv_at hl 0 rfl) ?_
  refine lv_iconst (v := nI 1) hx hb dL_law_332 (by decide) ?_
  refine lv_iadd hx hb dL_law_333 ?_
  refine lv_is (nI_add i 1) ?_
  refine va_sld hx hb hX hbl hbA hS (i := nI (i + 1)) (vp_in_nI (by omega) (by omega)) dL_law_334 ?_
  refine lv_aload_n hx hb dL_law_335 rfl (lv_at hl 3 rfl) ?_
  refine lv_iload_n hx hb dL_law_336 rfl (lv_at hl 0 rfl) ?_
  refine lv_iconst (v := nI 2) hx hb dL_law_337 (by decide) ?_
  refine lv_iadd hx hb dL_law_338 ?_
  refine lv_is (nI_add i 2) ?_
  refine va_sld hx hb hX hbl hbA hS (i := nI (i + 2)) (vp_in_nI (by omega) (by omega)) dL_law_339 ?_
  refine wr_callL (As := [.int (xs (nI (i + 1)).toNatClampNeg), .int (xs (nI (i + 2)).toNatClampNeg)]) (rest := []) (b := ad 0 0) ⟨Nat.le_of_ble_eq_true rfl, Nat.le_of_ble_eq_true rfl⟩ ctx hKK hP hD hS (lx_call l g ad ub kb len tx pl oc da ds pa ps x dy ga gz uk UX UD kk KX KD sf (xs (nI (i + 1)).toNatClampNeg) (xs (nI (i + 2)).toNatClampNeg) (by assumption) (by assumption) (by assumption) (by assumption) (by assumption)) gL_law_X7_call rfl rfl rfl hdX7_call ⟨Nat.le_of_ble_eq_true rfl, Nat.le_of_ble_eq_true rfl⟩ (ci := 7) (q0 := 0) rfl rfl hl.1 rfl rfl (Nat.le_of_ble_eq_true rfl) dL_law_340 (fun r1 u1 H locs h1 hP hD hS => ?_)
  have hP : va_P g.1 vwCl ((xW g ad u1.1 kb len tx pl oc da ds pa ps u1.2.2.1 u1.2.2.2 ga gz u1.2.1.2.2 u1.2.1.1 u1.2.1.2.1 kk KX KD sf) ++ mW g o a sc ar) H := hP
  have hD : va_D A ((xW g ad u1.1 kb len tx pl oc da ds pa ps u1.2.2.1 u1.2.2.2 ga gz u1.2.1.2.2 u1.2.1.1 u1.2.1.2.1 kk KX KD sf) ++ mW g o a sc ar) := hD
  refine lv_pop hx hb dL_law_343 rfl ?_
  refine lv_aload_n hx hb dL_law_344 rfl (lv_at hl 1 rfl) ?_
  refine lv_aload_n hx hb dL_law_345 rfl (lv_at hl 3 rfl) ?_
  refine lv_iload_n hx hb dL_law_346 rfl (lv_at hl 0 rfl) ?_
  refine lv_iconst (v := nI 1) hx hb dL_law_347 (by decide) ?_
  refine lv_iadd hx hb dL_law_348 ?_
  refine lv_is (nI_add i 1) ?_
  refine va_sld hx hb hX hbl hbA hS (i := nI (i + 1)) (vp_in_nI (by omega) (by omega)) dL_law_349 ?_
  refine lv_aload_n hx hb dL_law_350 rfl (lv_at hl 3 rfl) ?_
  refine lv_iload_n hx hb dL_law_351 rfl (lv_at hl 0 rfl) ?_
  refine lv_iconst (v := nI 2) hx hb dL_law_352 (by decide) ?_
  refine lv_iadd hx hb dL_law_353 ?_
  refine lv_is (nI_add i 2) ?_
  refine va_sld hx hb hX hbl hbA hS (i := nI (i + 2)) (vp_in_nI (by omega) (by omega)) dL_law_354 ?_
  refine wr_callR (As := [.int (xs (nI (i + 1)).toNatClampNeg), .int (xs (nI (i + 2)).toNatClampNeg)]) (rest := []) (b := o) ⟨Nat.le_of_ble_eq_true rfl, Nat.le_of_ble_eq_true rfl⟩ ctx hKK hP hD hS (c_X8_call l g o a sc ar (xs (nI (i + 1)).toNatClampNeg) (xs (nI (i + 2)).toNatClampNeg) (by assumption) (by assumption) (by assumption)) gL_law_X8_call rfl rfl rfl hdX8_call ⟨Nat.le_of_ble_eq_true rfl, Nat.le_of_ble_eq_true rfl⟩ (ci := 8) (q0 := 0) rfl rfl hl.1 rfl rfl (Nat.le_of_ble_eq_true rfl) dL_law_355 (fun r2 u2 H locs h2 hP hD hS => ?_)
  have hP : va_P g.1 vwCl ((xW g ad u1.1 kb len tx pl oc da ds pa ps u1.2.2.1 u1.2.2.2 ga gz u1.2.1.2.2 u1.2.1.1 u1.2.1.2.1 kk KX KD sf) ++ mW g o a (updN sc 8 u2.1) (upA (upA (upA ar 9 u2.2.1) 7 u2.2.2.1) 28 u2.2.2.2)) H := hP
  have hD : va_D A ((xW g ad u1.1 kb len tx pl oc da ds pa ps u1.2.2.1 u1.2.2.2 ga gz u1.2.1.2.2 u1.2.1.1 u1.2.1.2.1 kk KX KD sf) ++ mW g o a (updN sc 8 u2.1) (upA (upA (upA ar 9 u2.2.1) 7 u2.2.2.1) 28 u2.2.2.2)) := hD
  refine lv_pop hx hb dL_law_358 rfl ?_
  refine lv_goto (tgt := 958) hx hb dL_law_359 (by decide) ?_
  exact K u1.1 kb len tx pl oc da ds pa ps u1.2.2.1 u1.2.2.2 ga gz u1.2.1.2.2 u1.2.1.1 u1.2.1.2.1 kk KX KD sf (updN sc 8 u2.1) (upA (upA (upA ar 9 u2.2.1) 7 u2.2.2.1) 28 u2.2.2.2) (R_call hR h1 h2) _ _ hP hD hS _ (lv_sub hl [0, 1, 2, 3] rfl)
set_option maxHeartbeats 1000000 in
set_option maxRecDepth 100000 in
theorem L_tries {p : Program} {l : Launch} {e : Env} {s : State} {m : MethodId} {below : List Frame} {meth : Method} {c : Code} {Q : State → Prop} {A : Nat → Prop} {g : GG} {ad : Nat → Nat → Nat} {o : Nat} {a : Nat → Nat} {b L i : Nat} {xs : Nat → Int32} (LC : LCx p s m meth c b L xs A g) (hi : i + 4 ≤ L) (hL : L ≤ 256) (K : LKx p l e s m below meth c Q A g ad o a b i) {ub : Nat → Nat → Nat} {kb : Nat → Nat → Nat} {len : Nat} {tx : Nat → Int32} {pl : Nat} {oc : Nat} {da : Nat → Nat → Int32} {ds : Nat → Nat} {pa : Nat → Nat → Int32} {ps : Nat → Nat} {x : Nat → Nat → Int32} {dy : Nat} {ga : Nat → Nat → Int32} {gz : Nat} {uk : Nat} {UX : Nat → Nat → Nat → Int32} {UD : Nat → Nat} {kk : Nat} {KX : Nat → Nat → Nat → Int32} {KD : Nat → Nat} {sf : Nat → Int32} {sc : Nat → Nat} {ar : Nat → Nat → Int32} (hR : (Rl len tx pa ps x dy ga gz uk UX UD kk KX KD sc ar)) (H : Heap) (locs : List Loc) (hP : va_P g.1 vwCl ((xW g ad ub kb len tx pl oc da ds pa ps x dy ga gz uk UX UD kk KX KD sf) ++ mW g o a sc ar) H) (hD : va_D A ((xW g ad ub kb len tx pl oc da ds pa ps x dy ga gz uk UX UD kk KX KD sf) ++ mW g o a sc ar)) (hS : va_S A s.heap H locs) (ls : Array Slot) (hl : lv_has ls 4 [(3, .int (nI i)), (2, .ref o), (1, .ref (ad 0 0)), (0, .ref b)]) : W p l e room_1 s m #[Value.ref b] below meth c H locs 96 3558 Q (F0 m 362 ls []) := by
  obtain ⟨hx, hb, hml, hown, hts, hKK, hX, hbl, hbA⟩ := LC
  have ctx : CallFix p m c code 4 s #[Value.ref b] wsL_law RL := ⟨hx, hb, hml, hown, hts⟩
  obtain ⟨⟨hlen, hsg, hP8, hD5, hW6, hgz, huk, hkk⟩, ⟨⟨mP0, mP8⟩, ⟨mD0, mD5⟩, mW6, mB9, mA8, mK2, mS8, mT, mho, mpt⟩, hRX⟩ := id hR
  refine lv_aload_n hx hb dL_law_362 rfl (lv_at hl 2 rfl) ?_
  refine lv_aload_n hx hb dL_law_363 rfl (lv_at hl 3 rfl) ?_
  refine lv_iload_n hx hb dL_law_364 rfl (lv_at hl 0 rfl) ?_
  refine lv_iconst (v := nI 1) hx hb dL_law_365 (by decide) ?_
  refine lv_iadd hx hb dL_law_366 ?_
  refine lv_is (nI_add i 1) ?_
  refine va_sld hx hb hX hbl hbA hS (i := nI (i + 1)) (vp_in_nI (by omega) (by omega)) dL_law_367 ?_
  refine lv_aload_n hx hb dL_law_368 rfl (lv_at hl 3 rfl) ?_
  refine lv_iload_n hx hb dL_law_369 rfl (lv_at hl 0 rfl) ?_
  refine lv_iconst (v := nI 2) hx hb dL_law_370 (by decide) ?_
  refine lv_iadd hx hb dL_law_371 ?_
  refine lv_is (nI_add i 2) ?_
  refine va_sld hx hb hX hbl hbA hS (i := nI (i + 2)) (vp_in_nI (by omega) (by omega)) dL_law_372 ?_
  refine wr_callL (As := [.int (xs (nI (i + 1)).toNatClampNeg), .int (xs (nI (i + 2)).toNatClampNeg)]) (rest := []) (b := ad 0 0) ⟨Nat.le_of_ble_eq_true rfl, Nat.le_of_ble_eq_true rfl⟩ ctx hKK hP hD hS (lx_tries l g ad ub kb len tx pl oc da ds pa ps x dy ga gz uk UX UD kk KX KD sf (xs (nI (i + 1)).toNatClampNeg) (xs (nI (i + 2)).toNatClampNeg) (by assumption) (by assumption) (by assumption) (by assumption) (by assumption)) gL_law_X7_tries rfl rfl rfl hdX7_tries ⟨Nat.le_of_ble_eq_true rfl, Nat.le_of_ble_eq_true rfl⟩ (ci := 7) (q0 := 0) rfl rfl hl.1 rfl rfl (Nat.le_of_ble_eq_true rfl) dL_law_373 (fun r1 u1 H locs h1 hP hD hS => ?_)
  have hP : va_P g.1 vwCl ((xW g ad u1.1 kb len tx pl oc da ds pa ps u1.2.2.1 u1.2.2.2 ga gz u1.2.1.2.2 u1.2.1.1 u1.2.1.2.1 kk KX KD sf) ++ mW g o a sc ar) H := hP
  have hD : va_D A ((xW g ad u1.1 kb len tx pl oc da ds pa ps u1.2.2.1 u1.2.2.2 ga gz u1.2.1.2.2 u1.2.1.1 u1.2.1.2.1 kk KX KD sf) ++ mW g o a sc ar) := hD
  refine lv_pop hx hb dL_law_376 rfl ?_
  refine lv_aload_n hx hb dL_law_377 rfl (lv_at hl 1 rfl) ?_
  refine lv_aload_n hx hb dL_law_378 rfl (lv_at hl 3 rfl) ?_
  refine lv_iload_n hx hb dL_law_379 rfl (lv_at hl 0 rfl) ?_
  refine lv_iconst (v := nI 1) hx hb dL_law_380 (by decide) ?_
  refine lv_iadd hx hb dL_law_381 ?_
  refine lv_is (nI_add i 1) ?_
  refine va_sld hx hb hX hbl hbA hS (i := nI (i + 1)) (vp_in_nI (by omega) (by omega)) dL_law_382 ?_
  refine lv_aload_n hx hb dL_law_383 rfl (lv_at hl 3 rfl) ?_
  refine lv_iload_n hx hb dL_law_384 rfl (lv_at hl 0 rfl) ?_
  refine lv_iconst (v := nI 2) hx hb dL_law_385 (by decide) ?_
  refine lv_iadd hx hb dL_law_386 ?_
  refine lv_is (nI_add i 2) ?_
  refine va_sld hx hb hX hbl hbA hS (i := nI (i + 2)) (vp_in_nI (by omega) (by omega)) dL_law_387 ?_
  refine wr_callR (As := [.int (xs (nI (i + 1)).toNatClampNeg), .int (xs (nI (i + 2)).toNatClampNeg)]) (rest := []) (b := o) ⟨Nat.le_of_ble_eq_true rfl, Nat.le_of_ble_eq_true rfl⟩ ctx hKK hP hD hS (c_X8_tries l g o a sc ar (xs (nI (i + 1)).toNatClampNeg) (xs (nI (i + 2)).toNatClampNeg) (by assumption) (by assumption) (by assumption)) gL_law_X8_tries rfl rfl rfl hdX8_tries ⟨Nat.le_of_ble_eq_true rfl, Nat.le_of_ble_eq_true rfl⟩ (ci := 8) (q0 := 0) rfl rfl hl.1 rfl rfl (Nat.le_of_ble_eq_true rfl) dL_law_388 (fun r2 u2 H locs h2 hP hD hS => ?_)
  have hP : va_P g.1 vwCl ((xW g ad u1.1 kb len tx pl oc da ds pa ps u1.2.2.1 u1.2.2.2 ga gz u1.2.1.2.2 u1.2.1.1 u1.2.1.2.1 kk KX KD sf) ++ mW g o a (updN sc 8 u2.1) (upA (upA (upA ar 9 u2.2.1) 7 u2.2.2.1) 28 u2.2.2.2)) H := hP
  have hD : va_D A ((xW g ad u1.1 kb len tx pl oc da ds pa ps u1.2.2.1 u1.2.2.2 ga gz u1.2.1.2.2 u1.2.1.1 u1.2.1.2.1 kk KX KD sf) ++ mW g o a (updN sc 8 u2.1) (upA (upA (upA ar 9 u2.2.1) 7 u2.2.2.1) 28 u2.2.2.2)) := hD
  refine lv_pop hx hb dL_law_391 rfl ?_
  refine lv_goto (tgt := 958) hx hb dL_law_392 (by decide) ?_
  exact K u1.1 kb len tx pl oc da ds pa ps u1.2.2.1 u1.2.2.2 ga gz u1.2.1.2.2 u1.2.1.1 u1.2.1.2.1 kk KX KD sf (updN sc 8 u2.1) (upA (upA (upA ar 9 u2.2.1) 7 u2.2.2.1) 28 u2.2.2.2) (R_tries hR h1 h2) _ _ hP hD hS _ (lv_sub hl [0, 1, 2, 3] rfl)
set_option maxHeartbeats 1000000 in
set_option maxRecDepth 100000 in
theorem L_day {p : Program} {l : Launch} {e : Env} {s : State} {m : MethodId} {below : List Frame} {meth : Method} {c : Code} {Q : State → Prop} {A : Nat → Prop} {g : GG} {ad : Nat → Nat → Nat} {o : Nat} {a : Nat → Nat} {b L i : Nat} {xs : Nat → Int32} (LC : LCx p s m meth c b L xs A g) (hi : i + 4 ≤ L) (hL : L ≤ 256) (K : LKx p l e s m below meth c Q A g ad o a b i) {ub : Nat → Nat → Nat} {kb : Nat → Nat → Nat} {len : Nat} {tx : Nat → Int32} {pl : Nat} {oc : Nat} {da : Nat → Nat → Int32} {ds : Nat → Nat} {pa : Nat → Nat → Int32} {ps : Nat → Nat} {x : Nat → Nat → Int32} {dy : Nat} {ga : Nat → Nat → Int32} {gz : Nat} {uk : Nat} {UX : Nat → Nat → Nat → Int32} {UD : Nat → Nat} {kk : Nat} {KX : Nat → Nat → Nat → Int32} {KD : Nat → Nat} {sf : Nat → Int32} {sc : Nat → Nat} {ar : Nat → Nat → Int32} (hR : (Rl len tx pa ps x dy ga gz uk UX UD kk KX KD sc ar)) (H : Heap) (locs : List Loc) (hP : va_P g.1 vwCl ((xW g ad ub kb len tx pl oc da ds pa ps x dy ga gz uk UX UD kk KX KD sf) ++ mW g o a sc ar) H) (hD : va_D A ((xW g ad ub kb len tx pl oc da ds pa ps x dy ga gz uk UX UD kk KX KD sf) ++ mW g o a sc ar)) (hS : va_S A s.heap H locs) (ls : Array Slot) (hl : lv_has ls 4 [(3, .int (nI i)), (2, .ref o), (1, .ref (ad 0 0)), (0, .ref b)]) : W p l e room_1 s m #[Value.ref b] below meth c H locs 96 3558 Q (F0 m 395 ls []) := by
  obtain ⟨hx, hb, hml, hown, hts, hKK, hX, hbl, hbA⟩ := LC
  have ctx : CallFix p m c code 4 s #[Value.ref b] wsL_law RL := ⟨hx, hb, hml, hown, hts⟩
  obtain ⟨⟨hlen, hsg, hP8, hD5, hW6, hgz, huk, hkk⟩, ⟨⟨mP0, mP8⟩, ⟨mD0, mD5⟩, mW6, mB9, mA8, mK2, mS8, mT, mho, mpt⟩, hRX⟩ := id hR
  refine lv_aload_n hx hb dL_law_395 rfl (lv_at hl 2 rfl) ?_
  refine wr_callL (As := []) (rest := []) (b := ad 0 0) ⟨Nat.le_of_ble_eq_true rfl, Nat.le_of_ble_eq_true rfl⟩ ctx hKK hP hD hS (lx_day l g ad ub kb len tx pl oc da ds pa ps x dy ga gz uk UX UD kk KX KD sf (by assumption) (by assumption) (by assumption) (by assumption) (by assumption)) gL_law_X7_day rfl rfl rfl hdX7_day ⟨Nat.le_of_ble_eq_true rfl, Nat.le_of_ble_eq_true rfl⟩ (ci := 7) (q0 := 0) rfl rfl hl.1 rfl rfl (Nat.le_of_ble_eq_true rfl) dL_law_396 (fun r1 u1 H locs h1 hP hD hS => ?_)
  have hP : va_P g.1 vwCl ((xW g ad u1.1 kb len tx pl oc da ds pa ps u1.2.2.1 u1.2.2.2 ga gz u1.2.1.2.2 u1.2.1.1 u1.2.1.2.1 kk KX KD sf) ++ mW g o a sc ar) H := hP
  have hD : va_D A ((xW g ad u1.1 kb len tx pl oc da ds pa ps u1.2.2.1 u1.2.2.2 ga gz u1.2.1.2.2 u1.2.1.1 u1.2.1.2.1 kk KX KD sf) ++ mW g o a sc ar) := hD
  refine lv_pop hx hb dL_law_399 rfl ?_
  refine lv_aload_n hx hb dL_law_400 rfl (lv_at hl 1 rfl) ?_
  refine wr_callR (As := []) (rest := []) (b := o) ⟨Nat.le_of_ble_eq_true rfl, Nat.le_of_ble_eq_true rfl⟩ ctx hKK hP hD hS (c_X8_day l g o a sc ar (by assumption) (by assumption) (by assumption)) gL_law_X8_day rfl rfl rfl hdX8_day ⟨Nat.le_of_ble_eq_true rfl, Nat.le_of_ble_eq_true rfl⟩ (ci := 8) (q0 := 0) rfl rfl hl.1 rfl rfl (Nat.le_of_ble_eq_true rfl) dL_law_401 (fun r2 u2 H locs h2 hP hD hS => ?_)
  have hP : va_P g.1 vwCl ((xW g ad u1.1 kb len tx pl oc da ds pa ps u1.2.2.1 u1.2.2.2 ga gz u1.2.1.2.2 u1.2.1.1 u1.2.1.2.1 kk KX KD sf) ++ mW g o a (updN sc 8 u2.1) (upA (upA (upA ar 9 u2.2.1) 7 u2.2.2.1) 28 u2.2.2.2)) H := hP
  have hD : va_D A ((xW g ad u1.1 kb len tx pl oc da ds pa ps u1.2.2.1 u1.2.2.2 ga gz u1.2.1.2.2 u1.2.1.1 u1.2.1.2.1 kk KX KD sf) ++ mW g o a (updN sc 8 u2.1) (upA (upA (upA ar 9 u2.2.1) 7 u2.2.2.1) 28 u2.2.2.2)) := hD
  refine lv_pop hx hb dL_law_404 rfl ?_
  refine lv_goto (tgt := 958) hx hb dL_law_405 (by decide) ?_
  exact K u1.1 kb len tx pl oc da ds pa ps u1.2.2.1 u1.2.2.2 ga gz u1.2.1.2.2 u1.2.1.1 u1.2.1.2.1 kk KX KD sf (updN sc 8 u2.1) (upA (upA (upA ar 9 u2.2.1) 7 u2.2.2.1) 28 u2.2.2.2) (R_day hR h1 h2) _ _ hP hD hS _ (lv_sub hl [0, 1, 2, 3] rfl)
set_option maxHeartbeats 1000000 in
set_option maxRecDepth 100000 in
theorem L_alter {p : Program} {l : Launch} {e : Env} {s : State} {m : MethodId} {below : List Frame} {meth : Method} {c : Code} {Q : State → Prop} {A : Nat → Prop} {g : GG} {ad : Nat → Nat → Nat} {o : Nat} {a : Nat → Nat} {b L i : Nat} {xs : Nat → Int32} (LC : LCx p s m meth c b L xs A g) (hi : i + 4 ≤ L) (hL : L ≤ 256) (K : LKx p l e s m below meth c Q A g ad o a b i) {ub : Nat → Nat → Nat} {kb : Nat → Nat → Nat} {len : Nat} {tx : Nat → Int32} {pl : Nat} {oc : Nat} {da : Nat → Nat → Int32} {ds : Nat → Nat} {pa : Nat → Nat → Int32} {ps : Nat → Nat} {x : Nat → Nat → Int32} {dy : Nat} {ga : Nat → Nat → Int32} {gz : Nat} {uk : Nat} {UX : Nat → Nat → Nat → Int32} {UD : Nat → Nat} {kk : Nat} {KX : Nat → Nat → Nat → Int32} {KD : Nat → Nat} {sf : Nat → Int32} {sc : Nat → Nat} {ar : Nat → Nat → Int32} (hR : (Rl len tx pa ps x dy ga gz uk UX UD kk KX KD sc ar)) (H : Heap) (locs : List Loc) (hP : va_P g.1 vwCl ((xW g ad ub kb len tx pl oc da ds pa ps x dy ga gz uk UX UD kk KX KD sf) ++ mW g o a sc ar) H) (hD : va_D A ((xW g ad ub kb len tx pl oc da ds pa ps x dy ga gz uk UX UD kk KX KD sf) ++ mW g o a sc ar)) (hS : va_S A s.heap H locs) (ls : Array Slot) (hl : lv_has ls 4 [(3, .int (nI i)), (2, .ref o), (1, .ref (ad 0 0)), (0, .ref b)]) : W p l e room_1 s m #[Value.ref b] below meth c H locs 96 3558 Q (F0 m 408 ls []) := by
  obtain ⟨hx, hb, hml, hown, hts, hKK, hX, hbl, hbA⟩ := LC
  have ctx : CallFix p m c code 4 s #[Value.ref b] wsL_law RL := ⟨hx, hb, hml, hown, hts⟩
  obtain ⟨⟨hlen, hsg, hP8, hD5, hW6, hgz, huk, hkk⟩, ⟨⟨mP0, mP8⟩, ⟨mD0, mD5⟩, mW6, mB9, mA8, mK2, mS8, mT, mho, mpt⟩, hRX⟩ := id hR
  refine lv_aload_n hx hb dL_law_408 rfl (lv_at hl 2 rfl) ?_
  refine lv_aload_n hx hb dL_law_409 rfl (lv_at hl 3 rfl) ?_
  refine lv_iload_n hx hb dL_law_410 rfl (lv_at hl 0 rfl) ?_
  refine lv_iconst (v := nI 1) hx hb dL_law_411 (by decide) ?_
  refine lv_iadd hx hb dL_law_412 ?_
  refine lv_is (nI_add i 1) ?_
  refine va_sld hx hb hX hbl hbA hS (i := nI (i + 1)) (vp_in_nI (by omega) (by omega)) dL_law_413 ?_
  refine lv_aload_n hx hb dL_law_414 rfl (lv_at hl 3 rfl) ?_
  refine lv_iload_n hx hb dL_law_415 rfl (lv_at hl 0 rfl) ?_
  refine lv_iconst (v := nI 2) hx hb dL_law_416 (by decide) ?_
  refine lv_iadd hx hb dL_law_417 ?_
  refine lv_is (nI_add i 2) ?_
  refine va_sld hx hb hX hbl hbA hS (i := nI (i + 2)) (vp_in_nI (by omega) (by omega)) dL_law_418 ?_
  refine lv_aload_n hx hb dL_law_419 rfl (lv_at hl 3 rfl) ?_
  refine lv_iload_n hx hb dL_law_420 rfl (lv_at hl 0 rfl) ?_
  refine lv_iconst (v := nI 3) hx hb dL_law_421 (by decide) ?_
  refine lv_iadd hx hb dL_law_422 ?_
  refine lv_is (nI_add i 3) ?_
  refine va_sld hx hb hX hbl hbA hS (i := nI (i + 3)) (vp_in_nI (by omega) (by omega)) dL_law_423 ?_
  refine wr_callL (As := [.int (xs (nI (i + 1)).toNatClampNeg), .int (xs (nI (i + 2)).toNatClampNeg), .int (xs (nI (i + 3)).toNatClampNeg)]) (rest := []) (b := ad 0 0) ⟨Nat.le_of_ble_eq_true rfl, Nat.le_of_ble_eq_true rfl⟩ ctx hKK hP hD hS (lx_alter l g ad ub kb len tx pl oc da ds pa ps x dy ga gz uk UX UD kk KX KD sf (xs (nI (i + 1)).toNatClampNeg) (xs (nI (i + 2)).toNatClampNeg) (xs (nI (i + 3)).toNatClampNeg) (by assumption) (by assumption) (by assumption) (by assumption) (by assumption)) gL_law_X7_alter rfl rfl rfl hdX7_alter ⟨Nat.le_of_ble_eq_true rfl, Nat.le_of_ble_eq_true rfl⟩ (ci := 7) (q0 := 0) rfl rfl hl.1 rfl rfl (Nat.le_of_ble_eq_true rfl) dL_law_424 (fun r1 u1 H locs h1 hP hD hS => ?_)
  have hP : va_P g.1 vwCl ((xW g ad u1.1 kb len tx pl oc da ds pa ps u1.2.2.1 u1.2.2.2 ga gz u1.2.1.2.2 u1.2.1.1 u1.2.1.2.1 kk KX KD sf) ++ mW g o a sc ar) H := hP
  have hD : va_D A ((xW g ad u1.1 kb len tx pl oc da ds pa ps u1.2.2.1 u1.2.2.2 ga gz u1.2.1.2.2 u1.2.1.1 u1.2.1.2.1 kk KX KD sf) ++ mW g o a sc ar) := hD
  refine lv_pop hx hb dL_law_427 rfl ?_
  refine lv_aload_n hx hb dL_law_428 rfl (lv_at hl 1 rfl) ?_
  refine lv_aload_n hx hb dL_law_429 rfl (lv_at hl 3 rfl) ?_
  refine lv_iload_n hx hb dL_law_430 rfl (lv_at hl 0 rfl) ?_
  refine lv_iconst (v := nI 1) hx hb dL_law_431 (by decide) ?_
  refine lv_iadd hx hb dL_law_432 ?_
  refine lv_is (nI_add i 1) ?_
  refine va_sld hx hb hX hbl hbA hS (i := nI (i + 1)) (vp_in_nI (by omega) (by omega)) dL_law_433 ?_
  refine lv_aload_n hx hb dL_law_434 rfl (lv_at hl 3 rfl) ?_
  refine lv_iload_n hx hb dL_law_435 rfl (lv_at hl 0 rfl) ?_
  refine lv_iconst (v := nI 2) hx hb dL_law_436 (by decide) ?_
  refine lv_iadd hx hb dL_law_437 ?_
  refine lv_is (nI_add i 2) ?_
  refine va_sld hx hb hX hbl hbA hS (i := nI (i + 2)) (vp_in_nI (by omega) (by omega)) dL_law_438 ?_
  refine lv_aload_n hx hb dL_law_439 rfl (lv_at hl 3 rfl) ?_
  refine lv_iload_n hx hb dL_law_440 rfl (lv_at hl 0 rfl) ?_
  refine lv_iconst (v := nI 3) hx hb dL_law_441 (by decide) ?_
  refine lv_iadd hx hb dL_law_442 ?_
  refine lv_is (nI_add i 3) ?_
  refine va_sld hx hb hX hbl hbA hS (i := nI (i + 3)) (vp_in_nI (by omega) (by omega)) dL_law_443 ?_
  refine wr_callR (As := [.int (xs (nI (i + 1)).toNatClampNeg), .int (xs (nI (i + 2)).toNatClampNeg), .int (xs (nI (i + 3)).toNatClampNeg)]) (rest := []) (b := o) ⟨Nat.le_of_ble_eq_true rfl, Nat.le_of_ble_eq_true rfl⟩ ctx hKK hP hD hS (c_X8_alter l g o a sc ar (xs (nI (i + 1)).toNatClampNeg) (xs (nI (i + 2)).toNatClampNeg) (xs (nI (i + 3)).toNatClampNeg) (by assumption) (by assumption)) gL_law_X8_alter rfl rfl rfl hdX8_alter ⟨Nat.le_of_ble_eq_true rfl, Nat.le_of_ble_eq_true rfl⟩ (ci := 8) (q0 := 0) rfl rfl hl.1 rfl rfl (Nat.le_of_ble_eq_true rfl) dL_law_444 (fun r2 u2 H locs h2 hP hD hS => ?_)
  have hP : va_P g.1 vwCl ((xW g ad u1.1 kb len tx pl oc da ds pa ps u1.2.2.1 u1.2.2.2 ga gz u1.2.1.2.2 u1.2.1.1 u1.2.1.2.1 kk KX KD sf) ++ mW g o a (updN sc 8 u2.1) (upA (upA (upA ar 9 u2.2.1) 7 u2.2.2.1) 28 u2.2.2.2)) H := hP
  have hD : va_D A ((xW g ad u1.1 kb len tx pl oc da ds pa ps u1.2.2.1 u1.2.2.2 ga gz u1.2.1.2.2 u1.2.1.1 u1.2.1.2.1 kk KX KD sf) ++ mW g o a (updN sc 8 u2.1) (upA (upA (upA ar 9 u2.2.1) 7 u2.2.2.1) 28 u2.2.2.2)) := hD
  refine lv_pop hx hb dL_law_447 rfl ?_
  refine lv_goto (tgt := 958) hx hb dL_law_448 (by decide) ?_
  exact K u1.1 kb len tx pl oc da ds pa ps u1.2.2.1 u1.2.2.2 ga gz u1.2.1.2.2 u1.2.1.1 u1.2.1.2.1 kk KX KD sf (updN sc 8 u2.1) (upA (upA (upA ar 9 u2.2.1) 7 u2.2.2.1) 28 u2.2.2.2) (R_alter hR h1 h2) _ _ hP hD hS _ (lv_sub hl [0, 1, 2, 3] rfl)
set_option maxHeartbeats 1000000 in
set_option maxRecDepth 100000 in
theorem L_undo {p : Program} {l : Launch} {e : Env} {s : State} {m : MethodId} {below : List Frame} {meth : Method} {c : Code} {Q : State → Prop} {A : Nat → Prop} {g : GG} {ad : Nat → Nat → Nat} {o : Nat} {a : Nat → Nat} {b L i : Nat} {xs : Nat → Int32} (LC : LCx p s m meth c b L xs A g) (hi : i + 4 ≤ L) (hL : L ≤ 256) (K : LKx p l e s m below meth c Q A g ad o a b i) {ub : Nat → Nat → Nat} {kb : Nat → Nat → Nat} {len : Nat} {tx : Nat → Int32} {pl : Nat} {oc : Nat} {da : Nat → Nat → Int32} {ds : Nat → Nat} {pa : Nat → Nat → Int32} {ps : Nat → Nat} {x : Nat → Nat → Int32} {dy : Nat} {ga : Nat → Nat → Int32} {gz : Nat} {uk : Nat} {UX : Nat → Nat → Nat → Int32} {UD : Nat → Nat} {kk : Nat} {KX : Nat → Nat → Nat → Int32} {KD : Nat → Nat} {sf : Nat → Int32} {sc : Nat → Nat} {ar : Nat → Nat → Int32} (hR : (Rl len tx pa ps x dy ga gz uk UX UD kk KX KD sc ar)) (H : Heap) (locs : List Loc) (hP : va_P g.1 vwCl ((xW g ad ub kb len tx pl oc da ds pa ps x dy ga gz uk UX UD kk KX KD sf) ++ mW g o a sc ar) H) (hD : va_D A ((xW g ad ub kb len tx pl oc da ds pa ps x dy ga gz uk UX UD kk KX KD sf) ++ mW g o a sc ar)) (hS : va_S A s.heap H locs) (ls : Array Slot) (hl : lv_has ls 4 [(3, .int (nI i)), (2, .ref o), (1, .ref (ad 0 0)), (0, .ref b)]) : W p l e room_1 s m #[Value.ref b] below meth c H locs 96 3558 Q (F0 m 451 ls []) := by
  obtain ⟨hx, hb, hml, hown, hts, hKK, hX, hbl, hbA⟩ := LC
  have ctx : CallFix p m c code 4 s #[Value.ref b] wsL_law RL := ⟨hx, hb, hml, hown, hts⟩
  obtain ⟨⟨hlen, hsg, hP8, hD5, hW6, hgz, huk, hkk⟩, ⟨⟨mP0, mP8⟩, ⟨mD0, mD5⟩, mW6, mB9, mA8, mK2, mS8, mT, mho, mpt⟩, hRX⟩ := id hR
  refine lv_aload_n hx hb dL_law_451 rfl (lv_at hl 2 rfl) ?_
  refine wr_callL (As := []) (rest := []) (b := ad 0 0) ⟨Nat.le_of_ble_eq_true rfl, Nat.le_of_ble_eq_true rfl⟩ ctx hKK hP hD hS (lx_undo l g ad ub kb len tx pl oc da ds pa ps x dy ga gz uk UX UD kk KX KD sf (by assumption) (by assumption) (by assumption) (by assumption) (by assumption)) gL_law_X7_undo rfl rfl rfl hdX7_undo ⟨Nat.le_of_ble_eq_true rfl, Nat.le_of_ble_eq_true rfl⟩ (ci := 7) (q0 := 0) rfl rfl hl.1 rfl rfl (Nat.le_of_ble_eq_true rfl) dL_law_452 (fun r1 u1 H locs h1 hP hD hS => ?_)
  have hP : va_P g.1 vwCl ((xW g ad u1.1 kb len tx pl oc da ds pa ps u1.2.2.1 u1.2.2.2 ga gz u1.2.1.2.2 u1.2.1.1 u1.2.1.2.1 kk KX KD sf) ++ mW g o a sc ar) H := hP
  have hD : va_D A ((xW g ad u1.1 kb len tx pl oc da ds pa ps u1.2.2.1 u1.2.2.2 ga gz u1.2.1.2.2 u1.2.1.1 u1.2.1.2.1 kk KX KD sf) ++ mW g o a sc ar) := hD
  refine lv_pop hx hb dL_law_455 rfl ?_
  refine lv_aload_n hx hb dL_law_456 rfl (lv_at hl 1 rfl) ?_
  refine wr_callR (As := []) (rest := []) (b := o) ⟨Nat.le_of_ble_eq_true rfl, Nat.le_of_ble_eq_true rfl⟩ ctx hKK hP hD hS (c_X8_undo l g o a sc ar (by assumption)) gL_law_X8_undo rfl rfl rfl hdX8_undo ⟨Nat.le_of_ble_eq_true rfl, Nat.le_of_ble_eq_true rfl⟩ (ci := 8) (q0 := 0) rfl rfl hl.1 rfl rfl (Nat.le_of_ble_eq_true rfl) dL_law_457 (fun r2 u2 H locs h2 hP hD hS => ?_)
  have hP : va_P g.1 vwCl ((xW g ad u1.1 kb len tx pl oc da ds pa ps u1.2.2.1 u1.2.2.2 ga gz u1.2.1.2.2 u1.2.1.1 u1.2.1.2.1 kk KX KD sf) ++ mW g o a (updN sc 8 u2.1) (upA ar 7 u2.2)) H := hP
  have hD : va_D A ((xW g ad u1.1 kb len tx pl oc da ds pa ps u1.2.2.1 u1.2.2.2 ga gz u1.2.1.2.2 u1.2.1.1 u1.2.1.2.1 kk KX KD sf) ++ mW g o a (updN sc 8 u2.1) (upA ar 7 u2.2)) := hD
  refine lv_pop hx hb dL_law_460 rfl ?_
  refine lv_goto (tgt := 958) hx hb dL_law_461 (by decide) ?_
  exact K u1.1 kb len tx pl oc da ds pa ps u1.2.2.1 u1.2.2.2 ga gz u1.2.1.2.2 u1.2.1.1 u1.2.1.2.1 kk KX KD sf (updN sc 8 u2.1) (upA ar 7 u2.2) (R_undo hR h1 h2) _ _ hP hD hS _ (lv_sub hl [0, 1, 2, 3] rfl)
set_option maxHeartbeats 1000000 in
set_option maxRecDepth 100000 in
theorem L_shutOut {p : Program} {l : Launch} {e : Env} {s : State} {m : MethodId} {below : List Frame} {meth : Method} {c : Code} {Q : State → Prop} {A : Nat → Prop} {g : GG} {ad : Nat → Nat → Nat} {o : Nat} {a : Nat → Nat} {b L i : Nat} {xs : Nat → Int32} (LC : LCx p s m meth c b L xs A g) (hi : i + 4 ≤ L) (hL : L ≤ 256) (K : LKx p l e s m below meth c Q A g ad o a b i) {ub : Nat → Nat → Nat} {kb : Nat → Nat → Nat} {len : Nat} {tx : Nat → Int32} {pl : Nat} {oc : Nat} {da : Nat → Nat → Int32} {ds : Nat → Nat} {pa : Nat → Nat → Int32} {ps : Nat → Nat} {x : Nat → Nat → Int32} {dy : Nat} {ga : Nat → Nat → Int32} {gz : Nat} {uk : Nat} {UX : Nat → Nat → Nat → Int32} {UD : Nat → Nat} {kk : Nat} {KX : Nat → Nat → Nat → Int32} {KD : Nat → Nat} {sf : Nat → Int32} {sc : Nat → Nat} {ar : Nat → Nat → Int32} (hR : (Rl len tx pa ps x dy ga gz uk UX UD kk KX KD sc ar)) (H : Heap) (locs : List Loc) (hP : va_P g.1 vwCl ((xW g ad ub kb len tx pl oc da ds pa ps x dy ga gz uk UX UD kk KX KD sf) ++ mW g o a sc ar) H) (hD : va_D A ((xW g ad ub kb len tx pl oc da ds pa ps x dy ga gz uk UX UD kk KX KD sf) ++ mW g o a sc ar)) (hS : va_S A s.heap H locs) (ls : Array Slot) (hl : lv_has ls 4 [(3, .int (nI i)), (2, .ref o), (1, .ref (ad 0 0)), (0, .ref b)]) : W p l e room_1 s m #[Value.ref b] below meth c H locs 96 3558 Q (F0 m 464 ls []) := by
  obtain ⟨hx, hb, hml, hown, hts, hKK, hX, hbl, hbA⟩ := LC
  have ctx : CallFix p m c code 4 s #[Value.ref b] wsL_law RL := ⟨hx, hb, hml, hown, hts⟩
  obtain ⟨⟨hlen, hsg, hP8, hD5, hW6, hgz, huk, hkk⟩, ⟨⟨mP0, mP8⟩, ⟨mD0, mD5⟩, mW6, mB9, mA8, mK2, mS8, mT, mho, mpt⟩, hRX⟩ := id hR
  refine lv_aload_n hx hb dL_law_464 rfl (lv_at hl 2 rfl) ?_
  refine ro_callV0K (As := []) (rest := []) (b := ad 0 0) ⟨Nat.le_of_ble_eq_true rfl, Nat.le_of_ble_eq_true rfl⟩ ctx hKK (P_l hP) (lx_shutOut l g ad ub kb len tx pl oc da ds pa ps x dy ga gz uk UX UD kk KX KD sf (by assumption) (by assumption) (by assumption) (by assumption)) gL_law_X7_shutOut rfl rfl rfl hdX7_shutOut ⟨Nat.le_of_ble_eq_true rfl, Nat.le_of_ble_eq_true rfl⟩ (ci := 7) (q0 := 0) rfl rfl hl.1 rfl rfl (Nat.le_of_ble_eq_true rfl) dL_law_465 (fun r1 h1 => ?_)
  refine lv_pop hx hb dL_law_468 rfl ?_
  refine lv_aload_n hx hb dL_law_469 rfl (lv_at hl 1 rfl) ?_
  refine wr_callR (As := []) (rest := []) (b := o) ⟨Nat.le_of_ble_eq_true rfl, Nat.le_of_ble_eq_true rfl⟩ ctx hKK hP hD hS (c_X8_shutOut l g o a sc ar (by assumption)) gL_law_X8_shutOut rfl rfl rfl hdX8_shutOut ⟨Nat.le_of_ble_eq_true rfl, Nat.le_of_ble_eq_true rfl⟩ (ci := 8) (q0 := 0) rfl rfl hl.1 rfl rfl (Nat.le_of_ble_eq_true rfl) dL_law_470 (fun r2 u2 H locs h2 hP hD hS => ?_)
  have hP : va_P g.1 vwCl ((xW g ad ub kb len tx pl oc da ds pa ps x dy ga gz uk UX UD kk KX KD sf) ++ mW g o a sc (upA ar 28 u2)) H := hP
  have hD : va_D A ((xW g ad ub kb len tx pl oc da ds pa ps x dy ga gz uk UX UD kk KX KD sf) ++ mW g o a sc (upA ar 28 u2)) := hD
  refine lv_pop hx hb dL_law_473 rfl ?_
  refine lv_goto (tgt := 958) hx hb dL_law_474 (by decide) ?_
  exact K ub kb len tx pl oc da ds pa ps x dy ga gz uk UX UD kk KX KD sf sc (upA ar 28 u2) (R_shutOut hR h1 h2) _ _ hP hD hS _ (lv_sub hl [0, 1, 2, 3] rfl)
set_option maxHeartbeats 1000000 in
set_option maxRecDepth 100000 in
theorem L_knowsBy {p : Program} {l : Launch} {e : Env} {s : State} {m : MethodId} {below : List Frame} {meth : Method} {c : Code} {Q : State → Prop} {A : Nat → Prop} {g : GG} {ad : Nat → Nat → Nat} {o : Nat} {a : Nat → Nat} {b L i : Nat} {xs : Nat → Int32} (LC : LCx p s m meth c b L xs A g) (hi : i + 4 ≤ L) (hL : L ≤ 256) (K : LKx p l e s m below meth c Q A g ad o a b i) {ub : Nat → Nat → Nat} {kb : Nat → Nat → Nat} {len : Nat} {tx : Nat → Int32} {pl : Nat} {oc : Nat} {da : Nat → Nat → Int32} {ds : Nat → Nat} {pa : Nat → Nat → Int32} {ps : Nat → Nat} {x : Nat → Nat → Int32} {dy : Nat} {ga : Nat → Nat → Int32} {gz : Nat} {uk : Nat} {UX : Nat → Nat → Nat → Int32} {UD : Nat → Nat} {kk : Nat} {KX : Nat → Nat → Nat → Int32} {KD : Nat → Nat} {sf : Nat → Int32} {sc : Nat → Nat} {ar : Nat → Nat → Int32} (hR : (Rl len tx pa ps x dy ga gz uk UX UD kk KX KD sc ar)) (H : Heap) (locs : List Loc) (hP : va_P g.1 vwCl ((xW g ad ub kb len tx pl oc da ds pa ps x dy ga gz uk UX UD kk KX KD sf) ++ mW g o a sc ar) H) (hD : va_D A ((xW g ad ub kb len tx pl oc da ds pa ps x dy ga gz uk UX UD kk KX KD sf) ++ mW g o a sc ar)) (hS : va_S A s.heap H locs) (ls : Array Slot) (hl : lv_has ls 4 [(3, .int (nI i)), (2, .ref o), (1, .ref (ad 0 0)), (0, .ref b)]) : W p l e room_1 s m #[Value.ref b] below meth c H locs 96 3558 Q (F0 m 477 ls []) := by
  obtain ⟨hx, hb, hml, hown, hts, hKK, hX, hbl, hbA⟩ := LC
  have ctx : CallFix p m c code 4 s #[Value.ref b] wsL_law RL := ⟨hx, hb, hml, hown, hts⟩
  obtain ⟨⟨hlen, hsg, hP8, hD5, hW6, hgz, huk, hkk⟩, ⟨⟨mP0, mP8⟩, ⟨mD0, mD5⟩, mW6, mB9, mA8, mK2, mS8, mT, mho, mpt⟩, hRX⟩ := id hR
  refine lv_aload_n hx hb dL_law_477 rfl (lv_at hl 2 rfl) ?_
  refine lv_aload_n hx hb dL_law_478 rfl (lv_at hl 3 rfl) ?_
  refine lv_iload_n hx hb dL_law_479 rfl (lv_at hl 0 rfl) ?_
  refine lv_iconst (v := nI 1) hx hb dL_law_480 (by decide) ?_
  refine lv_iadd hx hb dL_law_481 ?_
  refine lv_is (nI_add i 1) ?_
  refine va_sld hx hb hX hbl hbA hS (i := nI (i + 1)) (vp_in_nI (by omega) (by omega)) dL_law_482 ?_
  refine lv_aload_n hx hb dL_law_483 rfl (lv_at hl 3 rfl) ?_
  refine lv_iload_n hx hb dL_law_484 rfl (lv_at hl 0 rfl) ?_
  refine lv_iconst (v := nI 2) hx hb dL_law_485 (by decide) ?_
  refine lv_iadd hx hb dL_law_486 ?_
  refine lv_is (nI_add i 2) ?_
  refine va_sld hx hb hX hbl hbA hS (i := nI (i + 2)) (vp_in_nI (by omega) (by omega)) dL_law_487 ?_
  refine ro_callV0K (As := [.int (xs (nI (i + 1)).toNatClampNeg), .int (xs (nI (i + 2)).toNatClampNeg)]) (rest := []) (b := ad 0 0) ⟨Nat.le_of_ble_eq_true rfl, Nat.le_of_ble_eq_true rfl⟩ ctx hKK (P_l hP) (lx_knowsBy l g ad ub kb len tx pl oc da ds pa ps x dy ga gz uk UX UD kk KX KD sf (xs (nI (i + 1)).toNatClampNeg) (xs (nI (i + 2)).toNatClampNeg) (by assumption) (by assumption) (by assumption) (by assumption)) gL_law_X7_knowsBy rfl rfl rfl hdX7_knowsBy ⟨Nat.le_of_ble_eq_true rfl, Nat.le_of_ble_eq_true rfl⟩ (ci := 7) (q0 := 0) rfl rfl hl.1 rfl rfl (Nat.le_of_ble_eq_true rfl) dL_law_488 (fun r1 h1 => ?_)
  refine lv_pop hx hb dL_law_491 rfl ?_
  refine lv_aload_n hx hb dL_law_492 rfl (lv_at hl 1 rfl) ?_
  refine lv_aload_n hx hb dL_law_493 rfl (lv_at hl 3 rfl) ?_
  refine lv_iload_n hx hb dL_law_494 rfl (lv_at hl 0 rfl) ?_
  refine lv_iconst (v := nI 1) hx hb dL_law_495 (by decide) ?_
  refine lv_iadd hx hb dL_law_496 ?_
  refine lv_is (nI_add i 1) ?_
  refine va_sld hx hb hX hbl hbA hS (i := nI (i + 1)) (vp_in_nI (by omega) (by omega)) dL_law_497 ?_
  refine lv_aload_n hx hb dL_law_498 rfl (lv_at hl 3 rfl) ?_
  refine lv_iload_n hx hb dL_law_499 rfl (lv_at hl 0 rfl) ?_
  refine lv_iconst (v := nI 2) hx hb dL_law_500 (by decide) ?_
  refine lv_iadd hx hb dL_law_501 ?_
  refine lv_is (nI_add i 2) ?_
  refine va_sld hx hb hX hbl hbA hS (i := nI (i + 2)) (vp_in_nI (by omega) (by omega)) dL_law_502 ?_
  refine wr_callR (As := [.int (xs (nI (i + 1)).toNatClampNeg), .int (xs (nI (i + 2)).toNatClampNeg)]) (rest := []) (b := o) ⟨Nat.le_of_ble_eq_true rfl, Nat.le_of_ble_eq_true rfl⟩ ctx hKK hP hD hS (c_X8_knowsBy l g o a sc ar (xs (nI (i + 1)).toNatClampNeg) (xs (nI (i + 2)).toNatClampNeg) (by assumption) (by assumption)) gL_law_X8_knowsBy rfl rfl rfl hdX8_knowsBy ⟨Nat.le_of_ble_eq_true rfl, Nat.le_of_ble_eq_true rfl⟩ (ci := 8) (q0 := 0) rfl rfl hl.1 rfl rfl (Nat.le_of_ble_eq_true rfl) dL_law_503 (fun r2 u2 H locs h2 hP hD hS => ?_)
  have hP : va_P g.1 vwCl ((xW g ad ub kb len tx pl oc da ds pa ps x dy ga gz uk UX UD kk KX KD sf) ++ mW g o a sc (upA ar 28 u2)) H := hP
  have hD : va_D A ((xW g ad ub kb len tx pl oc da ds pa ps x dy ga gz uk UX UD kk KX KD sf) ++ mW g o a sc (upA ar 28 u2)) := hD
  refine lv_pop hx hb dL_law_506 rfl ?_
  refine lv_goto (tgt := 958) hx hb dL_law_507 (by decide) ?_
  exact K ub kb len tx pl oc da ds pa ps x dy ga gz uk UX UD kk KX KD sf sc (upA ar 28 u2) (R_knowsBy hR h1 h2) _ _ hP hD hS _ (lv_sub hl [0, 1, 2, 3] rfl)
set_option maxHeartbeats 1000000 in
set_option maxRecDepth 100000 in
theorem L_when {p : Program} {l : Launch} {e : Env} {s : State} {m : MethodId} {below : List Frame} {meth : Method} {c : Code} {Q : State → Prop} {A : Nat → Prop} {g : GG} {ad : Nat → Nat → Nat} {o : Nat} {a : Nat → Nat} {b L i : Nat} {xs : Nat → Int32} (LC : LCx p s m meth c b L xs A g) (hi : i + 4 ≤ L) (hL : L ≤ 256) (K : LKx p l e s m below meth c Q A g ad o a b i) {ub : Nat → Nat → Nat} {kb : Nat → Nat → Nat} {len : Nat} {tx : Nat → Int32} {pl : Nat} {oc : Nat} {da : Nat → Nat → Int32} {ds : Nat → Nat} {pa : Nat → Nat → Int32} {ps : Nat → Nat} {x : Nat → Nat → Int32} {dy : Nat} {ga : Nat → Nat → Int32} {gz : Nat} {uk : Nat} {UX : Nat → Nat → Nat → Int32} {UD : Nat → Nat} {kk : Nat} {KX : Nat → Nat → Nat → Int32} {KD : Nat → Nat} {sf : Nat → Int32} {sc : Nat → Nat} {ar : Nat → Nat → Int32} (hR : (Rl len tx pa ps x dy ga gz uk UX UD kk KX KD sc ar)) (H : Heap) (locs : List Loc) (hP : va_P g.1 vwCl ((xW g ad ub kb len tx pl oc da ds pa ps x dy ga gz uk UX UD kk KX KD sf) ++ mW g o a sc ar) H) (hD : va_D A ((xW g ad ub kb len tx pl oc da ds pa ps x dy ga gz uk UX UD kk KX KD sf) ++ mW g o a sc ar)) (hS : va_S A s.heap H locs) (ls : Array Slot) (hl : lv_has ls 4 [(3, .int (nI i)), (2, .ref o), (1, .ref (ad 0 0)), (0, .ref b)]) : W p l e room_1 s m #[Value.ref b] below meth c H locs 96 3558 Q (F0 m 510 ls []) := by
  obtain ⟨hx, hb, hml, hown, hts, hKK, hX, hbl, hbA⟩ := LC
  have ctx : CallFix p m c code 4 s #[Value.ref b] wsL_law RL := ⟨hx, hb, hml, hown, hts⟩
  obtain ⟨⟨hlen, hsg, hP8, hD5, hW6, hgz, huk, hkk⟩, ⟨⟨mP0, mP8⟩, ⟨mD0, mD5⟩, mW6, mB9, mA8, mK2, mS8, mT, mho, mpt⟩, hRX⟩ := id hR
  refine lv_aload_n hx hb dL_law_510 rfl (lv_at hl 2 rfl) ?_
  refine lv_aload_n hx hb dL_law_511 rfl (lv_at hl 3 rfl) ?_
  refine lv_iload_n hx hb dL_law_512 rfl (lv_at hl 0 rfl) ?_
  refine lv_iconst (v := nI 1) hx hb dL_law_513 (by decide) ?_
  refine lv_iadd hx hb dL_law_514 ?_
  refine lv_is (nI_add i 1) ?_
  refine va_sld hx hb hX hbl hbA hS (i := nI (i + 1)) (vp_in_nI (by omega) (by omega)) dL_law_515 ?_
  refine lv_aload_n hx hb dL_law_516 rfl (lv_at hl 3 rfl) ?_
  refine lv_iload_n hx hb dL_law_517 rfl (lv_at hl 0 rfl) ?_
  refine lv_iconst (v := nI 2) hx hb dL_law_518 (by decide) ?_
  refine lv_iadd hx hb dL_law_519 ?_
  refine lv_is (nI_add i 2) ?_
  refine va_sld hx hb hX hbl hbA hS (i := nI (i + 2)) (vp_in_nI (by omega) (by omega)) dL_law_520 ?_
  refine ro_callV0K (As := [.int (xs (nI (i + 1)).toNatClampNeg), .int (xs (nI (i + 2)).toNatClampNeg)]) (rest := []) (b := ad 0 0) ⟨Nat.le_of_ble_eq_true rfl, Nat.le_of_ble_eq_true rfl⟩ ctx hKK (P_l hP) (lx_when l g ad ub kb len tx pl oc da ds pa ps x dy ga gz uk UX UD kk KX KD sf (xs (nI (i + 1)).toNatClampNeg) (xs (nI (i + 2)).toNatClampNeg) (by assumption) (by assumption) (by assumption) (by assumption)) gL_law_X7_when rfl rfl rfl hdX7_when ⟨Nat.le_of_ble_eq_true rfl, Nat.le_of_ble_eq_true rfl⟩ (ci := 7) (q0 := 0) rfl rfl hl.1 rfl rfl (Nat.le_of_ble_eq_true rfl) dL_law_521 (fun r1 h1 => ?_)
  refine lv_pop hx hb dL_law_524 rfl ?_
  refine lv_aload_n hx hb dL_law_525 rfl (lv_at hl 1 rfl) ?_
  refine lv_aload_n hx hb dL_law_526 rfl (lv_at hl 3 rfl) ?_
  refine lv_iload_n hx hb dL_law_527 rfl (lv_at hl 0 rfl) ?_
  refine lv_iconst (v := nI 1) hx hb dL_law_528 (by decide) ?_
  refine lv_iadd hx hb dL_law_529 ?_
  refine lv_is (nI_add i 1) ?_
  refine va_sld hx hb hX hbl hbA hS (i := nI (i + 1)) (vp_in_nI (by omega) (by omega)) dL_law_530 ?_
  refine lv_aload_n hx hb dL_law_531 rfl (lv_at hl 3 rfl) ?_
  refine lv_iload_n hx hb dL_law_532 rfl (lv_at hl 0 rfl) ?_
  refine lv_iconst (v := nI 2) hx hb dL_law_533 (by decide) ?_
  refine lv_iadd hx hb dL_law_534 ?_
  refine lv_is (nI_add i 2) ?_
  refine va_sld hx hb hX hbl hbA hS (i := nI (i + 2)) (vp_in_nI (by omega) (by omega)) dL_law_535 ?_
  refine wr_callR (As := [.int (xs (nI (i + 1)).toNatClampNeg), .int (xs (nI (i + 2)).toNatClampNeg)]) (rest := []) (b := o) ⟨Nat.le_of_ble_eq_true rfl, Nat.le_of_ble_eq_true rfl⟩ ctx hKK hP hD hS (c_X8_when l g o a sc ar (xs (nI (i + 1)).toNatClampNeg) (xs (nI (i + 2)).toNatClampNeg) (by assumption) (by assumption)) gL_law_X8_when rfl rfl rfl hdX8_when ⟨Nat.le_of_ble_eq_true rfl, Nat.le_of_ble_eq_true rfl⟩ (ci := 8) (q0 := 0) rfl rfl hl.1 rfl rfl (Nat.le_of_ble_eq_true rfl) dL_law_536 (fun r2 u2 H locs h2 hP hD hS => ?_)
  have hP : va_P g.1 vwCl ((xW g ad ub kb len tx pl oc da ds pa ps x dy ga gz uk UX UD kk KX KD sf) ++ mW g o a sc (upA ar 28 u2)) H := hP
  have hD : va_D A ((xW g ad ub kb len tx pl oc da ds pa ps x dy ga gz uk UX UD kk KX KD sf) ++ mW g o a sc (upA ar 28 u2)) := hD
  refine lv_pop hx hb dL_law_539 rfl ?_
  refine lv_goto (tgt := 958) hx hb dL_law_540 (by decide) ?_
  exact K ub kb len tx pl oc da ds pa ps x dy ga gz uk UX UD kk KX KD sf sc (upA ar 28 u2) (R_when hR h1 h2) _ _ hP hD hS _ (lv_sub hl [0, 1, 2, 3] rfl)
set_option maxHeartbeats 1000000 in
set_option maxRecDepth 100000 in
theorem L_lets {p : Program} {l : Launch} {e : Env} {s : State} {m : MethodId} {below : List Frame} {meth : Method} {c : Code} {Q : State → Prop} {A : Nat → Prop} {g : GG} {ad : Nat → Nat → Nat} {o : Nat} {a : Nat → Nat} {b L i : Nat} {xs : Nat → Int32} (LC : LCx p s m meth c b L xs A g) (hi : i + 4 ≤ L) (hL : L ≤ 256) (K : LKx p l e s m below meth c Q A g ad o a b i) {ub : Nat → Nat → Nat} {kb : Nat → Nat → Nat} {len : Nat} {tx : Nat → Int32} {pl : Nat} {oc : Nat} {da : Nat → Nat → Int32} {ds : Nat → Nat} {pa : Nat → Nat → Int32} {ps : Nat → Nat} {x : Nat → Nat → Int32} {dy : Nat} {ga : Nat → Nat → Int32} {gz : Nat} {uk : Nat} {UX : Nat → Nat → Nat → Int32} {UD : Nat → Nat} {kk : Nat} {KX : Nat → Nat → Nat → Int32} {KD : Nat → Nat} {sf : Nat → Int32} {sc : Nat → Nat} {ar : Nat → Nat → Int32} (hR : (Rl len tx pa ps x dy ga gz uk UX UD kk KX KD sc ar)) (H : Heap) (locs : List Loc) (hP : va_P g.1 vwCl ((xW g ad ub kb len tx pl oc da ds pa ps x dy ga gz uk UX UD kk KX KD sf) ++ mW g o a sc ar) H) (hD : va_D A ((xW g ad ub kb len tx pl oc da ds pa ps x dy ga gz uk UX UD kk KX KD sf) ++ mW g o a sc ar)) (hS : va_S A s.heap H locs) (ls : Array Slot) (hl : lv_has ls 4 [(3, .int (nI i)), (2, .ref o), (1, .ref (ad 0 0)), (0, .ref b)]) : W p l e room_1 s m #[Value.ref b] below meth c H locs 96 3558 Q (F0 m 543 ls []) := by
  obtain ⟨hx, hb, hml, hown, hts, hKK, hX, hbl, hbA⟩ := LC
  have ctx : CallFix p m c code 4 s #[Value.ref b] wsL_law RL := ⟨hx, hb, hml, hown, hts⟩
  obtain ⟨⟨hlen, hsg, hP8, hD5, hW6, hgz, huk, hkk⟩, ⟨⟨mP0, mP8⟩, ⟨mD0, mD5⟩, mW6, mB9, mA8, mK2, mS8, mT, mho, mpt⟩, hRX⟩ := id hR
  refine lv_aload_n hx hb dL_law_543 rfl (lv_at hl 2 rfl) ?_
  refine lv_aload_n hx hb dL_law_544 rfl (lv_at hl 3 rfl) ?_
  refine lv_iload_n hx hb dL_law_545 rfl (lv_at hl 0 rfl) ?_
  refine lv_iconst (v := nI 1) hx hb dL_law_546 (by decide) ?_
  refine lv_iadd hx hb dL_law_547 ?_
  refine lv_is (nI_add i 1) ?_
  refine va_sld hx hb hX hbl hbA hS (i := nI (i + 1)) (vp_in_nI (by omega) (by omega)) dL_law_548 ?_
  refine lv_aload_n hx hb dL_law_549 rfl (lv_at hl 3 rfl) ?_
  refine lv_iload_n hx hb dL_law_550 rfl (lv_at hl 0 rfl) ?_
  refine lv_iconst (v := nI 2) hx hb dL_law_551 (by decide) ?_
  refine lv_iadd hx hb dL_law_552 ?_
  refine lv_is (nI_add i 2) ?_
  refine va_sld hx hb hX hbl hbA hS (i := nI (i + 2)) (vp_in_nI (by omega) (by omega)) dL_law_553 ?_
  refine ro_callV0K (As := [.int (xs (nI (i + 1)).toNatClampNeg), .int (xs (nI (i + 2)).toNatClampNeg)]) (rest := []) (b := ad 0 0) ⟨Nat.le_of_ble_eq_true rfl, Nat.le_of_ble_eq_true rfl⟩ ctx hKK (P_l hP) (lx_lets l g ad ub kb len tx pl oc da ds pa ps x dy ga gz uk UX UD kk KX KD sf (xs (nI (i + 1)).toNatClampNeg) (xs (nI (i + 2)).toNatClampNeg) (by assumption) (by assumption) (by assumption) (by assumption)) gL_law_X7_lets rfl rfl rfl hdX7_lets ⟨Nat.le_of_ble_eq_true rfl, Nat.le_of_ble_eq_true rfl⟩ (ci := 7) (q0 := 0) rfl rfl hl.1 rfl rfl (Nat.le_of_ble_eq_true rfl) dL_law_554 (fun r1 h1 => ?_)
  refine lv_pop hx hb dL_law_557 rfl ?_
  refine lv_aload_n hx hb dL_law_558 rfl (lv_at hl 1 rfl) ?_
  refine lv_aload_n hx hb dL_law_559 rfl (lv_at hl 3 rfl) ?_
  refine lv_iload_n hx hb dL_law_560 rfl (lv_at hl 0 rfl) ?_
  refine lv_iconst (v := nI 1) hx hb dL_law_561 (by decide) ?_
  refine lv_iadd hx hb dL_law_562 ?_
  refine lv_is (nI_add i 1) ?_
  refine va_sld hx hb hX hbl hbA hS (i := nI (i + 1)) (vp_in_nI (by omega) (by omega)) dL_law_563 ?_
  refine lv_aload_n hx hb dL_law_564 rfl (lv_at hl 3 rfl) ?_
  refine lv_iload_n hx hb dL_law_565 rfl (lv_at hl 0 rfl) ?_
  refine lv_iconst (v := nI 2) hx hb dL_law_566 (by decide) ?_
  refine lv_iadd hx hb dL_law_567 ?_
  refine lv_is (nI_add i 2) ?_
  refine va_sld hx hb hX hbl hbA hS (i := nI (i + 2)) (vp_in_nI (by omega) (by omega)) dL_law_568 ?_
  refine wr_callR (As := [.int (xs (nI (i + 1)).toNatClampNeg), .int (xs (nI (i + 2)).toNatClampNeg)]) (rest := []) (b := o) ⟨Nat.le_of_ble_eq_true rfl, Nat.le_of_ble_eq_true rfl⟩ ctx hKK hP hD hS (c_X8_lets l g o a sc ar (xs (nI (i + 1)).toNatClampNeg) (xs (nI (i + 2)).toNatClampNeg) (by assumption) (by assumption)) gL_law_X8_lets rfl rfl rfl hdX8_lets ⟨Nat.le_of_ble_eq_true rfl, Nat.le_of_ble_eq_true rfl⟩ (ci := 8) (q0 := 0) rfl rfl hl.1 rfl rfl (Nat.le_of_ble_eq_true rfl) dL_law_569 (fun r2 u2 H locs h2 hP hD hS => ?_)
  have hP : va_P g.1 vwCl ((xW g ad ub kb len tx pl oc da ds pa ps x dy ga gz uk UX UD kk KX KD sf) ++ mW g o a sc (upA ar 28 u2)) H := hP
  have hD : va_D A ((xW g ad ub kb len tx pl oc da ds pa ps x dy ga gz uk UX UD kk KX KD sf) ++ mW g o a sc (upA ar 28 u2)) := hD
  refine lv_pop hx hb dL_law_572 rfl ?_
  refine lv_goto (tgt := 958) hx hb dL_law_573 (by decide) ?_
  exact K ub kb len tx pl oc da ds pa ps x dy ga gz uk UX UD kk KX KD sf sc (upA ar 28 u2) (R_lets hR h1 h2) _ _ hP hD hS _ (lv_sub hl [0, 1, 2, 3] rfl)
set_option maxHeartbeats 1000000 in
set_option maxRecDepth 100000 in
theorem L_keeps {p : Program} {l : Launch} {e : Env} {s : State} {m : MethodId} {below : List Frame} {meth : Method} {c : Code} {Q : State → Prop} {A : Nat → Prop} {g : GG} {ad : Nat → Nat → Nat} {o : Nat} {a : Nat → Nat} {b L i : Nat} {xs : Nat → Int32} (LC : LCx p s m meth c b L xs A g) (hi : i + 4 ≤ L) (hL : L ≤ 256) (K : LKx p l e s m below meth c Q A g ad o a b i) {ub : Nat → Nat → Nat} {kb : Nat → Nat → Nat} {len : Nat} {tx : Nat → Int32} {pl : Nat} {oc : Nat} {da : Nat → Nat → Int32} {ds : Nat → Nat} {pa : Nat → Nat → Int32} {ps : Nat → Nat} {x : Nat → Nat → Int32} {dy : Nat} {ga : Nat → Nat → Int32} {gz : Nat} {uk : Nat} {UX : Nat → Nat → Nat → Int32} {UD : Nat → Nat} {kk : Nat} {KX : Nat → Nat → Nat → Int32} {KD : Nat → Nat} {sf : Nat → Int32} {sc : Nat → Nat} {ar : Nat → Nat → Int32} (hR : (Rl len tx pa ps x dy ga gz uk UX UD kk KX KD sc ar)) (H : Heap) (locs : List Loc) (hP : va_P g.1 vwCl ((xW g ad ub kb len tx pl oc da ds pa ps x dy ga gz uk UX UD kk KX KD sf) ++ mW g o a sc ar) H) (hD : va_D A ((xW g ad ub kb len tx pl oc da ds pa ps x dy ga gz uk UX UD kk KX KD sf) ++ mW g o a sc ar)) (hS : va_S A s.heap H locs) (ls : Array Slot) (hl : lv_has ls 4 [(3, .int (nI i)), (2, .ref o), (1, .ref (ad 0 0)), (0, .ref b)]) : W p l e room_1 s m #[Value.ref b] below meth c H locs 96 3558 Q (F0 m 576 ls []) := by
  obtain ⟨hx, hb, hml, hown, hts, hKK, hX, hbl, hbA⟩ := LC
  have ctx : CallFix p m c code 4 s #[Value.ref b] wsL_law RL := ⟨hx, hb, hml, hown, hts⟩
  obtain ⟨⟨hlen, hsg, hP8, hD5, hW6, hgz, huk, hkk⟩, ⟨⟨mP0, mP8⟩, ⟨mD0, mD5⟩, mW6, mB9, mA8, mK2, mS8, mT, mho, mpt⟩, hRX⟩ := id hR
  refine lv_aload_n hx hb dL_law_576 rfl (lv_at hl 2 rfl) ?_
  refine lv_aload_n hx hb dL_law_577 rfl (lv_at hl 3 rfl) ?_
  refine lv_iload_n hx hb dL_law_578 rfl (lv_at hl 0 rfl) ?_
  refine lv_iconst (v := nI 1) hx hb dL_law_579 (by decide) ?_
  refine lv_iadd hx hb dL_law_580 ?_
  refine lv_is (nI_add i 1) ?_
  refine va_sld hx hb hX hbl hbA hS (i := nI (i + 1)) (vp_in_nI (by omega) (by omega)) dL_law_581 ?_
  refine lv_aload_n hx hb dL_law_582 rfl (lv_at hl 3 rfl) ?_
  refine lv_iload_n hx hb dL_law_583 rfl (lv_at hl 0 rfl) ?_
  refine lv_iconst (v := nI 2) hx hb dL_law_584 (by decide) ?_
  refine lv_iadd hx hb dL_law_585 ?_
  refine lv_is (nI_add i 2) ?_
  refine va_sld hx hb hX hbl hbA hS (i := nI (i + 2)) (vp_in_nI (by omega) (by omega)) dL_law_586 ?_
  refine lv_aload_n hx hb dL_law_587 rfl (lv_at hl 3 rfl) ?_
  refine lv_iload_n hx hb dL_law_588 rfl (lv_at hl 0 rfl) ?_
  refine lv_iconst (v := nI 3) hx hb dL_law_589 (by decide) ?_
  refine lv_iadd hx hb dL_law_590 ?_
  refine lv_is (nI_add i 3) ?_
  refine va_sld hx hb hX hbl hbA hS (i := nI (i + 3)) (vp_in_nI (by omega) (by omega)) dL_law_591 ?_
  refine ro_callV0K (As := [.int (xs (nI (i + 1)).toNatClampNeg), .int (xs (nI (i + 2)).toNatClampNeg), .int (xs (nI (i + 3)).toNatClampNeg)]) (rest := []) (b := ad 0 0) ⟨Nat.le_of_ble_eq_true rfl, Nat.le_of_ble_eq_true rfl⟩ ctx hKK (P_l hP) (lx_keeps l g ad ub kb len tx pl oc da ds pa ps x dy ga gz uk UX UD kk KX KD sf (xs (nI (i + 1)).toNatClampNeg) (xs (nI (i + 2)).toNatClampNeg) (xs (nI (i + 3)).toNatClampNeg) (by assumption) (by assumption) (by assumption) (by assumption)) gL_law_X7_keeps rfl rfl rfl hdX7_keeps ⟨Nat.le_of_ble_eq_true rfl, Nat.le_of_ble_eq_true rfl⟩ (ci := 7) (q0 := 0) rfl rfl hl.1 rfl rfl (Nat.le_of_ble_eq_true rfl) dL_law_592 (fun r1 h1 => ?_)
  refine lv_pop hx hb dL_law_595 rfl ?_
  refine lv_aload_n hx hb dL_law_596 rfl (lv_at hl 1 rfl) ?_
  refine lv_aload_n hx hb dL_law_597 rfl (lv_at hl 3 rfl) ?_
  refine lv_iload_n hx hb dL_law_598 rfl (lv_at hl 0 rfl) ?_
  refine lv_iconst (v := nI 1) hx hb dL_law_599 (by decide) ?_
  refine lv_iadd hx hb dL_law_600 ?_
  refine lv_is (nI_add i 1) ?_
  refine va_sld hx hb hX hbl hbA hS (i := nI (i + 1)) (vp_in_nI (by omega) (by omega)) dL_law_601 ?_
  refine lv_aload_n hx hb dL_law_602 rfl (lv_at hl 3 rfl) ?_
  refine lv_iload_n hx hb dL_law_603 rfl (lv_at hl 0 rfl) ?_
  refine lv_iconst (v := nI 2) hx hb dL_law_604 (by decide) ?_
  refine lv_iadd hx hb dL_law_605 ?_
  refine lv_is (nI_add i 2) ?_
  refine va_sld hx hb hX hbl hbA hS (i := nI (i + 2)) (vp_in_nI (by omega) (by omega)) dL_law_606 ?_
  refine lv_aload_n hx hb dL_law_607 rfl (lv_at hl 3 rfl) ?_
  refine lv_iload_n hx hb dL_law_608 rfl (lv_at hl 0 rfl) ?_
  refine lv_iconst (v := nI 3) hx hb dL_law_609 (by decide) ?_
  refine lv_iadd hx hb dL_law_610 ?_
  refine lv_is (nI_add i 3) ?_
  refine va_sld hx hb hX hbl hbA hS (i := nI (i + 3)) (vp_in_nI (by omega) (by omega)) dL_law_611 ?_
  refine wr_callR (As := [.int (xs (nI (i + 1)).toNatClampNeg), .int (xs (nI (i + 2)).toNatClampNeg), .int (xs (nI (i + 3)).toNatClampNeg)]) (rest := []) (b := o) ⟨Nat.le_of_ble_eq_true rfl, Nat.le_of_ble_eq_true rfl⟩ ctx hKK hP hD hS (c_X8_keeps l g o a sc ar (xs (nI (i + 1)).toNatClampNeg) (xs (nI (i + 2)).toNatClampNeg) (xs (nI (i + 3)).toNatClampNeg) (by assumption) (by assumption)) gL_law_X8_keeps rfl rfl rfl hdX8_keeps ⟨Nat.le_of_ble_eq_true rfl, Nat.le_of_ble_eq_true rfl⟩ (ci := 8) (q0 := 0) rfl rfl hl.1 rfl rfl (Nat.le_of_ble_eq_true rfl) dL_law_612 (fun r2 u2 H locs h2 hP hD hS => ?_)
  have hP : va_P g.1 vwCl ((xW g ad ub kb len tx pl oc da ds pa ps x dy ga gz uk UX UD kk KX KD sf) ++ mW g o a sc (upA ar 28 u2)) H := hP
  have hD : va_D A ((xW g ad ub kb len tx pl oc da ds pa ps x dy ga gz uk UX UD kk KX KD sf) ++ mW g o a sc (upA ar 28 u2)) := hD
  refine lv_pop hx hb dL_law_615 rfl ?_
  refine lv_goto (tgt := 958) hx hb dL_law_616 (by decide) ?_
  exact K ub kb len tx pl oc da ds pa ps x dy ga gz uk UX UD kk KX KD sf sc (upA ar 28 u2) (R_keeps hR h1 h2) _ _ hP hD hS _ (lv_sub hl [0, 1, 2, 3] rfl)
set_option maxHeartbeats 1000000 in
set_option maxRecDepth 100000 in
theorem L_allIn {p : Program} {l : Launch} {e : Env} {s : State} {m : MethodId} {below : List Frame} {meth : Method} {c : Code} {Q : State → Prop} {A : Nat → Prop} {g : GG} {ad : Nat → Nat → Nat} {o : Nat} {a : Nat → Nat} {b L i : Nat} {xs : Nat → Int32} (LC : LCx p s m meth c b L xs A g) (hi : i + 4 ≤ L) (hL : L ≤ 256) (K : LKx p l e s m below meth c Q A g ad o a b i) {ub : Nat → Nat → Nat} {kb : Nat → Nat → Nat} {len : Nat} {tx : Nat → Int32} {pl : Nat} {oc : Nat} {da : Nat → Nat → Int32} {ds : Nat → Nat} {pa : Nat → Nat → Int32} {ps : Nat → Nat} {x : Nat → Nat → Int32} {dy : Nat} {ga : Nat → Nat → Int32} {gz : Nat} {uk : Nat} {UX : Nat → Nat → Nat → Int32} {UD : Nat → Nat} {kk : Nat} {KX : Nat → Nat → Nat → Int32} {KD : Nat → Nat} {sf : Nat → Int32} {sc : Nat → Nat} {ar : Nat → Nat → Int32} (hR : (Rl len tx pa ps x dy ga gz uk UX UD kk KX KD sc ar)) (H : Heap) (locs : List Loc) (hP : va_P g.1 vwCl ((xW g ad ub kb len tx pl oc da ds pa ps x dy ga gz uk UX UD kk KX KD sf) ++ mW g o a sc ar) H) (hD : va_D A ((xW g ad ub kb len tx pl oc da ds pa ps x dy ga gz uk UX UD kk KX KD sf) ++ mW g o a sc ar)) (hS : va_S A s.heap H locs) (ls : Array Slot) (hl : lv_has ls 4 [(3, .int (nI i)), (2, .ref o), (1, .ref (ad 0 0)), (0, .ref b)]) : W p l e room_1 s m #[Value.ref b] below meth c H locs 96 3558 Q (F0 m 619 ls []) := by
  obtain ⟨hx, hb, hml, hown, hts, hKK, hX, hbl, hbA⟩ := LC
  have ctx : CallFix p m c code 4 s #[Value.ref b] wsL_law RL := ⟨hx, hb, hml, hown, hts⟩
  obtain ⟨⟨hlen, hsg, hP8, hD5, hW6, hgz, huk, hkk⟩, ⟨⟨mP0, mP8⟩, ⟨mD0, mD5⟩, mW6, mB9, mA8, mK2, mS8, mT, mho, mpt⟩, hRX⟩ := id hR
  refine lv_aload_n hx hb dL_law_619 rfl (lv_at hl 2 rfl) ?_
  refine lv_aload_n hx hb dL_law_620 rfl (lv_at hl 3 rfl) ?_
  refine lv_iload_n hx hb dL_law_621 rfl (lv_at hl 0 rfl) ?_
  refine lv_iconst (v := nI 1) hx hb dL_law_622 (by decide) ?_
  refine lv_iadd hx hb dL_law_623 ?_
  refine lv_is (nI_add i 1) ?_
  refine va_sld hx hb hX hbl hbA hS (i := nI (i + 1)) (vp_in_nI (by omega) (by omega)) dL_law_624 ?_
  refine ro_callV0K (As := [.int (xs (nI (i + 1)).toNatClampNeg)]) (rest := []) (b := ad 0 0) ⟨Nat.le_of_ble_eq_true rfl, Nat.le_of_ble_eq_true rfl⟩ ctx hKK (P_l hP) (lx_allIn l g ad ub kb len tx pl oc da ds pa ps x dy ga gz uk UX UD kk KX KD sf (xs (nI (i + 1)).toNatClampNeg) (by assumption) (by assumption) (by assumption) (by assumption)) gL_law_X7_allIn rfl rfl rfl hdX7_allIn ⟨Nat.le_of_ble_eq_true rfl, Nat.le_of_ble_eq_true rfl⟩ (ci := 7) (q0 := 0) rfl rfl hl.1 rfl rfl (Nat.le_of_ble_eq_true rfl) dL_law_625 (fun r1 h1 => ?_)
  refine lv_pop hx hb dL_law_628 rfl ?_
  refine lv_aload_n hx hb dL_law_629 rfl (lv_at hl 1 rfl) ?_
  refine lv_aload_n hx hb dL_law_630 rfl (lv_at hl 3 rfl) ?_
  refine lv_iload_n hx hb dL_law_631 rfl (lv_at hl 0 rfl) ?_
  refine lv_iconst (v := nI 1) hx hb dL_law_632 (by decide) ?_
  refine lv_iadd hx hb dL_law_633 ?_
  refine lv_is (nI_add i 1) ?_
  refine va_sld hx hb hX hbl hbA hS (i := nI (i + 1)) (vp_in_nI (by omega) (by omega)) dL_law_634 ?_
  refine wr_callR (As := [.int (xs (nI (i + 1)).toNatClampNeg)]) (rest := []) (b := o) ⟨Nat.le_of_ble_eq_true rfl, Nat.le_of_ble_eq_true rfl⟩ ctx hKK hP hD hS (c_X8_allIn l g o a sc ar (xs (nI (i + 1)).toNatClampNeg) (by assumption) (by assumption) (by assumption)) gL_law_X8_allIn rfl rfl rfl hdX8_allIn ⟨Nat.le_of_ble_eq_true rfl, Nat.le_of_ble_eq_true rfl⟩ (ci := 8) (q0 := 0) rfl rfl hl.1 rfl rfl (Nat.le_of_ble_eq_true rfl) dL_law_635 (fun r2 u2 H locs h2 hP hD hS => ?_)
  have hP : va_P g.1 vwCl ((xW g ad ub kb len tx pl oc da ds pa ps x dy ga gz uk UX UD kk KX KD sf) ++ mW g o a sc (upA ar 28 u2)) H := hP
  have hD : va_D A ((xW g ad ub kb len tx pl oc da ds pa ps x dy ga gz uk UX UD kk KX KD sf) ++ mW g o a sc (upA ar 28 u2)) := hD
  refine lv_pop hx hb dL_law_638 rfl ?_
  refine lv_goto (tgt := 958) hx hb dL_law_639 (by decide) ?_
  exact K ub kb len tx pl oc da ds pa ps x dy ga gz uk UX UD kk KX KD sf sc (upA ar 28 u2) (R_allIn hR h1 h2) _ _ hP hD hS _ (lv_sub hl [0, 1, 2, 3] rfl)
set_option maxHeartbeats 1000000 in
set_option maxRecDepth 100000 in
theorem L_friend {p : Program} {l : Launch} {e : Env} {s : State} {m : MethodId} {below : List Frame} {meth : Method} {c : Code} {Q : State → Prop} {A : Nat → Prop} {g : GG} {ad : Nat → Nat → Nat} {o : Nat} {a : Nat → Nat} {b L i : Nat} {xs : Nat → Int32} (LC : LCx p s m meth c b L xs A g) (hi : i + 4 ≤ L) (hL : L ≤ 256) (K : LKx p l e s m below meth c Q A g ad o a b i) {ub : Nat → Nat → Nat} {kb : Nat → Nat → Nat} {len : Nat} {tx : Nat → Int32} {pl : Nat} {oc : Nat} {da : Nat → Nat → Int32} {ds : Nat → Nat} {pa : Nat → Nat → Int32} {ps : Nat → Nat} {x : Nat → Nat → Int32} {dy : Nat} {ga : Nat → Nat → Int32} {gz : Nat} {uk : Nat} {UX : Nat → Nat → Nat → Int32} {UD : Nat → Nat} {kk : Nat} {KX : Nat → Nat → Nat → Int32} {KD : Nat → Nat} {sf : Nat → Int32} {sc : Nat → Nat} {ar : Nat → Nat → Int32} (hR : (Rl len tx pa ps x dy ga gz uk UX UD kk KX KD sc ar)) (H : Heap) (locs : List Loc) (hP : va_P g.1 vwCl ((xW g ad ub kb len tx pl oc da ds pa ps x dy ga gz uk UX UD kk KX KD sf) ++ mW g o a sc ar) H) (hD : va_D A ((xW g ad ub kb len tx pl oc da ds pa ps x dy ga gz uk UX UD kk KX KD sf) ++ mW g o a sc ar)) (hS : va_S A s.heap H locs) (ls : Array Slot) (hl : lv_has ls 4 [(3, .int (nI i)), (2, .ref o), (1, .ref (ad 0 0)), (0, .ref b)]) : W p l e room_1 s m #[Value.ref b] below meth c H locs 96 3558 Q (F0 m 642 ls []) := by
  obtain ⟨hx, hb, hml, hown, hts, hKK, hX, hbl, hbA⟩ := LC
  have ctx : CallFix p m c code 4 s #[Value.ref b] wsL_law RL := ⟨hx, hb, hml, hown, hts⟩
  obtain ⟨⟨hlen, hsg, hP8, hD5, hW6, hgz, huk, hkk⟩, ⟨⟨mP0, mP8⟩, ⟨mD0, mD5⟩, mW6, mB9, mA8, mK2, mS8, mT, mho, mpt⟩, hRX⟩ := id hR
  refine lv_aload_n hx hb dL_law_642 rfl (lv_at hl 2 rfl) ?_
  refine lv_aload_n hx hb dL_law_643 rfl (lv_at hl 3 rfl) ?_
  refine lv_iload_n hx hb dL_law_644 rfl (lv_at hl 0 rfl) ?_
  refine lv_iconst (v := nI 1) hx hb dL_law_645 (by decide) ?_
  refine lv_iadd hx hb dL_law_646 ?_
  refine lv_is (nI_add i 1) ?_
  refine va_sld hx hb hX hbl hbA hS (i := nI (i + 1)) (vp_in_nI (by omega) (by omega)) dL_law_647 ?_
  refine lv_aload_n hx hb dL_law_648 rfl (lv_at hl 3 rfl) ?_
  refine lv_iload_n hx hb dL_law_649 rfl (lv_at hl 0 rfl) ?_
  refine lv_iconst (v := nI 2) hx hb dL_law_650 (by decide) ?_
  refine lv_iadd hx hb dL_law_651 ?_
  refine lv_is (nI_add i 2) ?_
  refine va_sld hx hb hX hbl hbA hS (i := nI (i + 2)) (vp_in_nI (by omega) (by omega)) dL_law_652 ?_
  refine ro_callV0K (As := [.int (xs (nI (i + 1)).toNatClampNeg), .int (xs (nI (i + 2)).toNatClampNeg)]) (rest := []) (b := ad 0 0) ⟨Nat.le_of_ble_eq_true rfl, Nat.le_of_ble_eq_true rfl⟩ ctx hKK (P_l hP) (lx_friend l g ad ub kb len tx pl oc da ds pa ps x dy ga gz uk UX UD kk KX KD sf (xs (nI (i + 1)).toNatClampNeg) (xs (nI (i + 2)).toNatClampNeg) (by assumption) (by assumption) (by assumption) (by assumption)) gL_law_X7_friend rfl rfl rfl hdX7_friend ⟨Nat.le_of_ble_eq_true rfl, Nat.le_of_ble_eq_true rfl⟩ (ci := 7) (q0 := 0) rfl rfl hl.1 rfl rfl (Nat.le_of_ble_eq_true rfl) dL_law_653 (fun r1 h1 => ?_)
  refine lv_pop hx hb dL_law_656 rfl ?_
  refine lv_aload_n hx hb dL_law_657 rfl (lv_at hl 1 rfl) ?_
  refine lv_aload_n hx hb dL_law_658 rfl (lv_at hl 3 rfl) ?_
  refine lv_iload_n hx hb dL_law_659 rfl (lv_at hl 0 rfl) ?_
  refine lv_iconst (v := nI 1) hx hb dL_law_660 (by decide) ?_
  refine lv_iadd hx hb dL_law_661 ?_
  refine lv_is (nI_add i 1) ?_
  refine va_sld hx hb hX hbl hbA hS (i := nI (i + 1)) (vp_in_nI (by omega) (by omega)) dL_law_662 ?_
  refine lv_aload_n hx hb dL_law_663 rfl (lv_at hl 3 rfl) ?_
  refine lv_iload_n hx hb dL_law_664 rfl (lv_at hl 0 rfl) ?_
  refine lv_iconst (v := nI 2) hx hb dL_law_665 (by decide) ?_
  refine lv_iadd hx hb dL_law_666 ?_
  refine lv_is (nI_add i 2) ?_
  refine va_sld hx hb hX hbl hbA hS (i := nI (i + 2)) (vp_in_nI (by omega) (by omega)) dL_law_667 ?_
  refine ro_callV0K (As := [.int (xs (nI (i + 1)).toNatClampNeg), .int (xs (nI (i + 2)).toNatClampNeg)]) (rest := []) (b := o) ⟨Nat.le_of_ble_eq_true rfl, Nat.le_of_ble_eq_true rfl⟩ ctx hKK (P_r hP) (c_X8_friend l g o a sc ar (xs (nI (i + 1)).toNatClampNeg) (xs (nI (i + 2)).toNatClampNeg) (by assumption)) gL_law_X8_friend rfl rfl rfl hdX8_friend ⟨Nat.le_of_ble_eq_true rfl, Nat.le_of_ble_eq_true rfl⟩ (ci := 8) (q0 := 0) rfl rfl hl.1 rfl rfl (Nat.le_of_ble_eq_true rfl) dL_law_668 (fun r2 h2 => ?_)
  refine lv_pop hx hb dL_law_671 rfl ?_
  refine lv_goto (tgt := 958) hx hb dL_law_672 (by decide) ?_
  exact K ub kb len tx pl oc da ds pa ps x dy ga gz uk UX UD kk KX KD sf sc ar (R_friend hR h1 h2) _ _ hP hD hS _ (lv_sub hl [0, 1, 2, 3] rfl)
set_option maxHeartbeats 1000000 in
set_option maxRecDepth 100000 in
theorem L_seen {p : Program} {l : Launch} {e : Env} {s : State} {m : MethodId} {below : List Frame} {meth : Method} {c : Code} {Q : State → Prop} {A : Nat → Prop} {g : GG} {ad : Nat → Nat → Nat} {o : Nat} {a : Nat → Nat} {b L i : Nat} {xs : Nat → Int32} (LC : LCx p s m meth c b L xs A g) (hi : i + 4 ≤ L) (hL : L ≤ 256) (K : LKx p l e s m below meth c Q A g ad o a b i) {ub : Nat → Nat → Nat} {kb : Nat → Nat → Nat} {len : Nat} {tx : Nat → Int32} {pl : Nat} {oc : Nat} {da : Nat → Nat → Int32} {ds : Nat → Nat} {pa : Nat → Nat → Int32} {ps : Nat → Nat} {x : Nat → Nat → Int32} {dy : Nat} {ga : Nat → Nat → Int32} {gz : Nat} {uk : Nat} {UX : Nat → Nat → Nat → Int32} {UD : Nat → Nat} {kk : Nat} {KX : Nat → Nat → Nat → Int32} {KD : Nat → Nat} {sf : Nat → Int32} {sc : Nat → Nat} {ar : Nat → Nat → Int32} (hR : (Rl len tx pa ps x dy ga gz uk UX UD kk KX KD sc ar)) (H : Heap) (locs : List Loc) (hP : va_P g.1 vwCl ((xW g ad ub kb len tx pl oc da ds pa ps x dy ga gz uk UX UD kk KX KD sf) ++ mW g o a sc ar) H) (hD : va_D A ((xW g ad ub kb len tx pl oc da ds pa ps x dy ga gz uk UX UD kk KX KD sf) ++ mW g o a sc ar)) (hS : va_S A s.heap H locs) (ls : Array Slot) (hl : lv_has ls 4 [(3, .int (nI i)), (2, .ref o), (1, .ref (ad 0 0)), (0, .ref b)]) : W p l e room_1 s m #[Value.ref b] below meth c H locs 96 3558 Q (F0 m 675 ls []) := by
  obtain ⟨hx, hb, hml, hown, hts, hKK, hX, hbl, hbA⟩ := LC
  have ctx : CallFix p m c code 4 s #[Value.ref b] wsL_law RL := ⟨hx, hb, hml, hown, hts⟩
  obtain ⟨⟨hlen, hsg, hP8, hD5, hW6, hgz, huk, hkk⟩, ⟨⟨mP0, mP8⟩, ⟨mD0, mD5⟩, mW6, mB9, mA8, mK2, mS8, mT, mho, mpt⟩, hRX⟩ := id hR
  refine lv_aload_n hx hb dL_law_675 rfl (lv_at hl 2 rfl) ?_
  refine lv_aload_n hx hb dL_law_676 rfl (lv_at hl 3 rfl) ?_
  refine lv_iload_n hx hb dL_law_677 rfl (lv_at hl 0 rfl) ?_
  refine lv_iconst (v := nI 1) hx hb dL_law_678 (by decide) ?_
  refine lv_iadd hx hb dL_law_679 ?_
  refine lv_is (nI_add i 1) ?_
  refine va_sld hx hb hX hbl hbA hS (i := nI (i + 1)) (vp_in_nI (by omega) (by omega)) dL_law_680 ?_
  refine lv_aload_n hx hb dL_law_681 rfl (lv_at hl 3 rfl) ?_
  refine lv_iload_n hx hb dL_law_682 rfl (lv_at hl 0 rfl) ?_
  refine lv_iconst (v := nI 2) hx hb dL_law_683 (by decide) ?_
  refine lv_iadd hx hb dL_law_684 ?_
  refine lv_is (nI_add i 2) ?_
  refine va_sld hx hb hX hbl hbA hS (i := nI (i + 2)) (vp_in_nI (by omega) (by omega)) dL_law_685 ?_
  refine lv_aload_n hx hb dL_law_686 rfl (lv_at hl 3 rfl) ?_
  refine lv_iload_n hx hb dL_law_687 rfl (lv_at hl 0 rfl) ?_
  refine lv_iconst (v := nI 3) hx hb dL_law_688 (by decide) ?_
  refine lv_iadd hx hb dL_law_689 ?_
  refine lv_is (nI_add i 3) ?_
  refine va_sld hx hb hX hbl hbA hS (i := nI (i + 3)) (vp_in_nI (by omega) (by omega)) dL_law_690 ?_
  refine wr_callL (As := [.int (xs (nI (i + 1)).toNatClampNeg), .int (xs (nI (i + 2)).toNatClampNeg), .int (xs (nI (i + 3)).toNatClampNeg)]) (rest := []) (b := ad 0 0) ⟨Nat.le_of_ble_eq_true rfl, Nat.le_of_ble_eq_true rfl⟩ ctx hKK hP hD hS (lx_seen l g ad ub kb len tx pl oc da ds pa ps x dy ga gz uk UX UD kk KX KD sf (xs (nI (i + 1)).toNatClampNeg) (xs (nI (i + 2)).toNatClampNeg) (xs (nI (i + 3)).toNatClampNeg) (by assumption) (by assumption) (by assumption) (by assumption)) gL_law_X7_seen rfl rfl rfl hdX7_seen ⟨Nat.le_of_ble_eq_true rfl, Nat.le_of_ble_eq_true rfl⟩ (ci := 7) (q0 := 0) rfl rfl hl.1 rfl rfl (Nat.le_of_ble_eq_true rfl) dL_law_691 (fun r1 u1 H locs h1 hP hD hS => ?_)
  have hP : va_P g.1 vwCl ((xW g ad ub kb len tx pl oc da ds pa ps x dy u1.1 u1.2 uk UX UD kk KX KD sf) ++ mW g o a sc ar) H := hP
  have hD : va_D A ((xW g ad ub kb len tx pl oc da ds pa ps x dy u1.1 u1.2 uk UX UD kk KX KD sf) ++ mW g o a sc ar) := hD
  refine lv_pop hx hb dL_law_694 rfl ?_
  refine lv_aload_n hx hb dL_law_695 rfl (lv_at hl 1 rfl) ?_
  refine lv_aload_n hx hb dL_law_696 rfl (lv_at hl 3 rfl) ?_
  refine lv_iload_n hx hb dL_law_697 rfl (lv_at hl 0 rfl) ?_
  refine lv_iconst (v := nI 1) hx hb dL_law_698 (by decide) ?_
  refine lv_iadd hx hb dL_law_699 ?_
  refine lv_is (nI_add i 1) ?_
  refine va_sld hx hb hX hbl hbA hS (i := nI (i + 1)) (vp_in_nI (by omega) (by omega)) dL_law_700 ?_
  refine lv_aload_n hx hb dL_law_701 rfl (lv_at hl 3 rfl) ?_
  refine lv_iload_n hx hb dL_law_702 rfl (lv_at hl 0 rfl) ?_
  refine lv_iconst (v := nI 2) hx hb dL_law_703 (by decide) ?_
  refine lv_iadd hx hb dL_law_704 ?_
  refine lv_is (nI_add i 2) ?_
  refine va_sld hx hb hX hbl hbA hS (i := nI (i + 2)) (vp_in_nI (by omega) (by omega)) dL_law_705 ?_
  refine lv_aload_n hx hb dL_law_706 rfl (lv_at hl 3 rfl) ?_
  refine lv_iload_n hx hb dL_law_707 rfl (lv_at hl 0 rfl) ?_
  refine lv_iconst (v := nI 3) hx hb dL_law_708 (by decide) ?_
  refine lv_iadd hx hb dL_law_709 ?_
  refine lv_is (nI_add i 3) ?_
  refine va_sld hx hb hX hbl hbA hS (i := nI (i + 3)) (vp_in_nI (by omega) (by omega)) dL_law_710 ?_
  refine wr_callR (As := [.int (xs (nI (i + 1)).toNatClampNeg), .int (xs (nI (i + 2)).toNatClampNeg), .int (xs (nI (i + 3)).toNatClampNeg)]) (rest := []) (b := o) ⟨Nat.le_of_ble_eq_true rfl, Nat.le_of_ble_eq_true rfl⟩ ctx hKK hP hD hS (c_X8_seen l g o a sc ar (xs (nI (i + 1)).toNatClampNeg) (xs (nI (i + 2)).toNatClampNeg) (xs (nI (i + 3)).toNatClampNeg) (by assumption) (by assumption) (by assumption)) gL_law_X8_seen rfl rfl rfl hdX8_seen ⟨Nat.le_of_ble_eq_true rfl, Nat.le_of_ble_eq_true rfl⟩ (ci := 8) (q0 := 0) rfl rfl hl.1 rfl rfl (Nat.le_of_ble_eq_true rfl) dL_law_711 (fun r2 u2 H locs h2 hP hD hS => ?_)
  have hP : va_P g.1 vwCl ((xW g ad ub kb len tx pl oc da ds pa ps x dy u1.1 u1.2 uk UX UD kk KX KD sf) ++ mW g o a (updN sc 12 u2.1) (upA ar 13 u2.2)) H := hP
  have hD : va_D A ((xW g ad ub kb len tx pl oc da ds pa ps x dy u1.1 u1.2 uk UX UD kk KX KD sf) ++ mW g o a (updN sc 12 u2.1) (upA ar 13 u2.2)) := hD
  refine lv_pop hx hb dL_law_714 rfl ?_
  refine lv_goto (tgt := 958) hx hb dL_law_715 (by decide) ?_
  exact K ub kb len tx pl oc da ds pa ps x dy u1.1 u1.2 uk UX UD kk KX KD sf (updN sc 12 u2.1) (upA ar 13 u2.2) (R_seen hR h1 h2) _ _ hP hD hS _ (lv_sub hl [0, 1, 2, 3] rfl)
set_option maxHeartbeats 1000000 in
set_option maxRecDepth 100000 in
theorem L_forget {p : Program} {l : Launch} {e : Env} {s : State} {m : MethodId} {below : List Frame} {meth : Method} {c : Code} {Q : State → Prop} {A : Nat → Prop} {g : GG} {ad : Nat → Nat → Nat} {o : Nat} {a : Nat → Nat} {b L i : Nat} {xs : Nat → Int32} (LC : LCx p s m meth c b L xs A g) (hi : i + 4 ≤ L) (hL : L ≤ 256) (K : LKx p l e s m below meth c Q A g ad o a b i) {ub : Nat → Nat → Nat} {kb : Nat → Nat → Nat} {len : Nat} {tx : Nat → Int32} {pl : Nat} {oc : Nat} {da : Nat → Nat → Int32} {ds : Nat → Nat} {pa : Nat → Nat → Int32} {ps : Nat → Nat} {x : Nat → Nat → Int32} {dy : Nat} {ga : Nat → Nat → Int32} {gz : Nat} {uk : Nat} {UX : Nat → Nat → Nat → Int32} {UD : Nat → Nat} {kk : Nat} {KX : Nat → Nat → Nat → Int32} {KD : Nat → Nat} {sf : Nat → Int32} {sc : Nat → Nat} {ar : Nat → Nat → Int32} (hR : (Rl len tx pa ps x dy ga gz uk UX UD kk KX KD sc ar)) (H : Heap) (locs : List Loc) (hP : va_P g.1 vwCl ((xW g ad ub kb len tx pl oc da ds pa ps x dy ga gz uk UX UD kk KX KD sf) ++ mW g o a sc ar) H) (hD : va_D A ((xW g ad ub kb len tx pl oc da ds pa ps x dy ga gz uk UX UD kk KX KD sf) ++ mW g o a sc ar)) (hS : va_S A s.heap H locs) (ls : Array Slot) (hl : lv_has ls 4 [(3, .int (nI i)), (2, .ref o), (1, .ref (ad 0 0)), (0, .ref b)]) : W p l e room_1 s m #[Value.ref b] below meth c H locs 96 3558 Q (F0 m 718 ls []) := by
  obtain ⟨hx, hb, hml, hown, hts, hKK, hX, hbl, hbA⟩ := LC
  have ctx : CallFix p m c code 4 s #[Value.ref b] wsL_law RL := ⟨hx, hb, hml, hown, hts⟩
  obtain ⟨⟨hlen, hsg, hP8, hD5, hW6, hgz, huk, hkk⟩, ⟨⟨mP0, mP8⟩, ⟨mD0, mD5⟩, mW6, mB9, mA8, mK2, mS8, mT, mho, mpt⟩, hRX⟩ := id hR
  refine lv_aload_n hx hb dL_law_718 rfl (lv_at hl 2 rfl) ?_
  refine wr_callL (As := []) (rest := []) (b := ad 0 0) ⟨Nat.le_of_ble_eq_true rfl, Nat.le_of_ble_eq_true rfl⟩ ctx hKK hP hD hS (lx_forget l g ad ub kb len tx pl oc da ds pa ps x dy ga gz uk UX UD kk KX KD sf) gL_law_X7_forget rfl rfl rfl hdX7_forget ⟨Nat.le_of_ble_eq_true rfl, Nat.le_of_ble_eq_true rfl⟩ (ci := 7) (q0 := 0) rfl rfl hl.1 rfl rfl (Nat.le_of_ble_eq_true rfl) dL_law_719 (fun r1 u1 H locs h1 hP hD hS => ?_)
  have hP : va_P g.1 vwCl ((xW g ad ub kb len tx pl oc da ds pa ps x dy ga 0 uk UX UD kk KX KD sf) ++ mW g o a sc ar) H := hP
  have hD : va_D A ((xW g ad ub kb len tx pl oc da ds pa ps x dy ga 0 uk UX UD kk KX KD sf) ++ mW g o a sc ar) := hD
  refine lv_pop hx hb dL_law_722 rfl ?_
  refine lv_aload_n hx hb dL_law_723 rfl (lv_at hl 1 rfl) ?_
  refine wr_callR (As := []) (rest := []) (b := o) ⟨Nat.le_of_ble_eq_true rfl, Nat.le_of_ble_eq_true rfl⟩ ctx hKK hP hD hS (c_X8_forget l g o a sc ar) gL_law_X8_forget rfl rfl rfl hdX8_forget ⟨Nat.le_of_ble_eq_true rfl, Nat.le_of_ble_eq_true rfl⟩ (ci := 8) (q0 := 0) rfl rfl hl.1 rfl rfl (Nat.le_of_ble_eq_true rfl) dL_law_724 (fun r2 u2 H locs h2 hP hD hS => ?_)
  have hP : va_P g.1 vwCl ((xW g ad ub kb len tx pl oc da ds pa ps x dy ga 0 uk UX UD kk KX KD sf) ++ mW g o a (updN sc 12 0) ar) H := hP
  have hD : va_D A ((xW g ad ub kb len tx pl oc da ds pa ps x dy ga 0 uk UX UD kk KX KD sf) ++ mW g o a (updN sc 12 0) ar) := hD
  refine lv_pop hx hb dL_law_727 rfl ?_
  refine lv_goto (tgt := 958) hx hb dL_law_728 (by decide) ?_
  exact K ub kb len tx pl oc da ds pa ps x dy ga 0 uk UX UD kk KX KD sf (updN sc 12 0) ar (R_forget hR h1 h2) _ _ hP hD hS _ (lv_sub hl [0, 1, 2, 3] rfl)
set_option maxHeartbeats 1000000 in
set_option maxRecDepth 100000 in
theorem L_called {p : Program} {l : Launch} {e : Env} {s : State} {m : MethodId} {below : List Frame} {meth : Method} {c : Code} {Q : State → Prop} {A : Nat → Prop} {g : GG} {ad : Nat → Nat → Nat} {o : Nat} {a : Nat → Nat} {b L i : Nat} {xs : Nat → Int32} (LC : LCx p s m meth c b L xs A g) (hi : i + 4 ≤ L) (hL : L ≤ 256) (K : LKx p l e s m below meth c Q A g ad o a b i) {ub : Nat → Nat → Nat} {kb : Nat → Nat → Nat} {len : Nat} {tx : Nat → Int32} {pl : Nat} {oc : Nat} {da : Nat → Nat → Int32} {ds : Nat → Nat} {pa : Nat → Nat → Int32} {ps : Nat → Nat} {x : Nat → Nat → Int32} {dy : Nat} {ga : Nat → Nat → Int32} {gz : Nat} {uk : Nat} {UX : Nat → Nat → Nat → Int32} {UD : Nat → Nat} {kk : Nat} {KX : Nat → Nat → Nat → Int32} {KD : Nat → Nat} {sf : Nat → Int32} {sc : Nat → Nat} {ar : Nat → Nat → Int32} (hR : (Rl len tx pa ps x dy ga gz uk UX UD kk KX KD sc ar)) (H : Heap) (locs : List Loc) (hP : va_P g.1 vwCl ((xW g ad ub kb len tx pl oc da ds pa ps x dy ga gz uk UX UD kk KX KD sf) ++ mW g o a sc ar) H) (hD : va_D A ((xW g ad ub kb len tx pl oc da ds pa ps x dy ga gz uk UX UD kk KX KD sf) ++ mW g o a sc ar)) (hS : va_S A s.heap H locs) (ls : Array Slot) (hl : lv_has ls 4 [(3, .int (nI i)), (2, .ref o), (1, .ref (ad 0 0)), (0, .ref b)]) : W p l e room_1 s m #[Value.ref b] below meth c H locs 96 3558 Q (F0 m 731 ls []) := by
  obtain ⟨hx, hb, hml, hown, hts, hKK, hX, hbl, hbA⟩ := LC
  have ctx : CallFix p m c code 4 s #[Value.ref b] wsL_law RL := ⟨hx, hb, hml, hown, hts⟩
  obtain ⟨⟨hlen, hsg, hP8, hD5, hW6, hgz, huk, hkk⟩, ⟨⟨mP0, mP8⟩, ⟨mD0, mD5⟩, mW6, mB9, mA8, mK2, mS8, mT, mho, mpt⟩, hRX⟩ := id hR
  refine lv_aload_n hx hb dL_law_731 rfl (lv_at hl 2 rfl) ?_
  refine lv_aload_n hx hb dL_law_732 rfl (lv_at hl 3 rfl) ?_
  refine lv_iload_n hx hb dL_law_733 rfl (lv_at hl 0 rfl) ?_
  refine lv_iconst (v := nI 1) hx hb dL_law_734 (by decide) ?_
  refine lv_iadd hx hb dL_law_735 ?_
  refine lv_is (nI_add i 1) ?_
  refine va_sld hx hb hX hbl hbA hS (i := nI (i + 1)) (vp_in_nI (by omega) (by omega)) dL_law_736 ?_
  refine ro_callV0K (As := [.int (xs (nI (i + 1)).toNatClampNeg)]) (rest := []) (b := ad 0 0) ⟨Nat.le_of_ble_eq_true rfl, Nat.le_of_ble_eq_true rfl⟩ ctx hKK (P_l hP) (lx_called l g ad ub kb len tx pl oc da ds pa ps x dy ga gz uk UX UD kk KX KD sf (xs (nI (i + 1)).toNatClampNeg) (by assumption) (by assumption) (by assumption) (by assumption)) gL_law_X7_called rfl rfl rfl hdX7_called ⟨Nat.le_of_ble_eq_true rfl, Nat.le_of_ble_eq_true rfl⟩ (ci := 7) (q0 := 0) rfl rfl hl.1 rfl rfl (Nat.le_of_ble_eq_true rfl) dL_law_737 (fun r1 h1 => ?_)
  refine lv_pop hx hb dL_law_740 rfl ?_
  refine lv_aload_n hx hb dL_law_741 rfl (lv_at hl 1 rfl) ?_
  refine lv_aload_n hx hb dL_law_742 rfl (lv_at hl 3 rfl) ?_
  refine lv_iload_n hx hb dL_law_743 rfl (lv_at hl 0 rfl) ?_
  refine lv_iconst (v := nI 1) hx hb dL_law_744 (by decide) ?_
  refine lv_iadd hx hb dL_law_745 ?_
  refine lv_is (nI_add i 1) ?_
  refine va_sld hx hb hX hbl hbA hS (i := nI (i + 1)) (vp_in_nI (by omega) (by omega)) dL_law_746 ?_
  refine wr_callR (As := [.int (xs (nI (i + 1)).toNatClampNeg)]) (rest := []) (b := o) ⟨Nat.le_of_ble_eq_true rfl, Nat.le_of_ble_eq_true rfl⟩ ctx hKK hP hD hS (c_X8_called l g o a sc ar (xs (nI (i + 1)).toNatClampNeg) (by assumption) (by assumption) (by assumption)) gL_law_X8_called rfl rfl rfl hdX8_called ⟨Nat.le_of_ble_eq_true rfl, Nat.le_of_ble_eq_true rfl⟩ (ci := 8) (q0 := 0) rfl rfl hl.1 rfl rfl (Nat.le_of_ble_eq_true rfl) dL_law_747 (fun r2 u2 H locs h2 hP hD hS => ?_)
  have hP : va_P g.1 vwCl ((xW g ad ub kb len tx pl oc da ds pa ps x dy ga gz uk UX UD kk KX KD sf) ++ mW g o a sc (upA ar 28 u2)) H := hP
  have hD : va_D A ((xW g ad ub kb len tx pl oc da ds pa ps x dy ga gz uk UX UD kk KX KD sf) ++ mW g o a sc (upA ar 28 u2)) := hD
  refine lv_pop hx hb dL_law_750 rfl ?_
  refine lv_goto (tgt := 958) hx hb dL_law_751 (by decide) ?_
  exact K ub kb len tx pl oc da ds pa ps x dy ga gz uk UX UD kk KX KD sf sc (upA ar 28 u2) (R_called hR h1 h2) _ _ hP hD hS _ (lv_sub hl [0, 1, 2, 3] rfl)
set_option maxHeartbeats 1000000 in
set_option maxRecDepth 100000 in
theorem L_guess {p : Program} {l : Launch} {e : Env} {s : State} {m : MethodId} {below : List Frame} {meth : Method} {c : Code} {Q : State → Prop} {A : Nat → Prop} {g : GG} {ad : Nat → Nat → Nat} {o : Nat} {a : Nat → Nat} {b L i : Nat} {xs : Nat → Int32} (LC : LCx p s m meth c b L xs A g) (hi : i + 4 ≤ L) (hL : L ≤ 256) (K : LKx p l e s m below meth c Q A g ad o a b i) {ub : Nat → Nat → Nat} {kb : Nat → Nat → Nat} {len : Nat} {tx : Nat → Int32} {pl : Nat} {oc : Nat} {da : Nat → Nat → Int32} {ds : Nat → Nat} {pa : Nat → Nat → Int32} {ps : Nat → Nat} {x : Nat → Nat → Int32} {dy : Nat} {ga : Nat → Nat → Int32} {gz : Nat} {uk : Nat} {UX : Nat → Nat → Nat → Int32} {UD : Nat → Nat} {kk : Nat} {KX : Nat → Nat → Nat → Int32} {KD : Nat → Nat} {sf : Nat → Int32} {sc : Nat → Nat} {ar : Nat → Nat → Int32} (hR : (Rl len tx pa ps x dy ga gz uk UX UD kk KX KD sc ar)) (H : Heap) (locs : List Loc) (hP : va_P g.1 vwCl ((xW g ad ub kb len tx pl oc da ds pa ps x dy ga gz uk UX UD kk KX KD sf) ++ mW g o a sc ar) H) (hD : va_D A ((xW g ad ub kb len tx pl oc da ds pa ps x dy ga gz uk UX UD kk KX KD sf) ++ mW g o a sc ar)) (hS : va_S A s.heap H locs) (ls : Array Slot) (hl : lv_has ls 4 [(3, .int (nI i)), (2, .ref o), (1, .ref (ad 0 0)), (0, .ref b)]) : W p l e room_1 s m #[Value.ref b] below meth c H locs 96 3558 Q (F0 m 754 ls []) := by
  obtain ⟨hx, hb, hml, hown, hts, hKK, hX, hbl, hbA⟩ := LC
  have ctx : CallFix p m c code 4 s #[Value.ref b] wsL_law RL := ⟨hx, hb, hml, hown, hts⟩
  obtain ⟨⟨hlen, hsg, hP8, hD5, hW6, hgz, huk, hkk⟩, ⟨⟨mP0, mP8⟩, ⟨mD0, mD5⟩, mW6, mB9, mA8, mK2, mS8, mT, mho, mpt⟩, hRX⟩ := id hR
  refine lv_aload_n hx hb dL_law_754 rfl (lv_at hl 2 rfl) ?_
  refine lv_aload_n hx hb dL_law_755 rfl (lv_at hl 3 rfl) ?_
  refine lv_iload_n hx hb dL_law_756 rfl (lv_at hl 0 rfl) ?_
  refine lv_iconst (v := nI 1) hx hb dL_law_757 (by decide) ?_
  refine lv_iadd hx hb dL_law_758 ?_
  refine lv_is (nI_add i 1) ?_
  refine va_sld hx hb hX hbl hbA hS (i := nI (i + 1)) (vp_in_nI (by omega) (by omega)) dL_law_759 ?_
  refine ro_callV0K (As := [.int (xs (nI (i + 1)).toNatClampNeg)]) (rest := []) (b := ad 0 0) ⟨Nat.le_of_ble_eq_true rfl, Nat.le_of_ble_eq_true rfl⟩ ctx hKK (P_l hP) (lx_guess l g ad ub kb len tx pl oc da ds pa ps x dy ga gz uk UX UD kk KX KD sf (xs (nI (i + 1)).toNatClampNeg) (by assumption) (by assumption) (by assumption) (by assumption)) gL_law_X7_guess rfl rfl rfl hdX7_guess ⟨Nat.le_of_ble_eq_true rfl, Nat.le_of_ble_eq_true rfl⟩ (ci := 7) (q0 := 0) rfl rfl hl.1 rfl rfl (Nat.le_of_ble_eq_true rfl) dL_law_760 (fun r1 h1 => ?_)
  refine lv_pop hx hb dL_law_763 rfl ?_
  refine lv_aload_n hx hb dL_law_764 rfl (lv_at hl 1 rfl) ?_
  refine lv_aload_n hx hb dL_law_765 rfl (lv_at hl 3 rfl) ?_
  refine lv_iload_n hx hb dL_law_766 rfl (lv_at hl 0 rfl) ?_
  refine lv_iconst (v := nI 1) hx hb dL_law_767 (by decide) ?_
  refine lv_iadd hx hb dL_law_768 ?_
  refine lv_is (nI_add i 1) ?_
  refine va_sld hx hb hX hbl hbA hS (i := nI (i + 1)) (vp_in_nI (by omega) (by omega)) dL_law_769 ?_
  refine ro_callV0K (As := [.int (xs (nI (i + 1)).toNatClampNeg)]) (rest := []) (b := o) ⟨Nat.le_of_ble_eq_true rfl, Nat.le_of_ble_eq_true rfl⟩ ctx hKK (P_r hP) (c_X8_guess l g o a sc ar (xs (nI (i + 1)).toNatClampNeg) (by assumption)) gL_law_X8_guess rfl rfl rfl hdX8_guess ⟨Nat.le_of_ble_eq_true rfl, Nat.le_of_ble_eq_true rfl⟩ (ci := 8) (q0 := 0) rfl rfl hl.1 rfl rfl (Nat.le_of_ble_eq_true rfl) dL_law_770 (fun r2 h2 => ?_)
  refine lv_pop hx hb dL_law_773 rfl ?_
  refine lv_goto (tgt := 958) hx hb dL_law_774 (by decide) ?_
  exact K ub kb len tx pl oc da ds pa ps x dy ga gz uk UX UD kk KX KD sf sc ar (R_guess hR h1 h2) _ _ hP hD hS _ (lv_sub hl [0, 1, 2, 3] rfl)
set_option maxHeartbeats 1000000 in
set_option maxRecDepth 100000 in
theorem L_mean {p : Program} {l : Launch} {e : Env} {s : State} {m : MethodId} {below : List Frame} {meth : Method} {c : Code} {Q : State → Prop} {A : Nat → Prop} {g : GG} {ad : Nat → Nat → Nat} {o : Nat} {a : Nat → Nat} {b L i : Nat} {xs : Nat → Int32} (LC : LCx p s m meth c b L xs A g) (hi : i + 4 ≤ L) (hL : L ≤ 256) (K : LKx p l e s m below meth c Q A g ad o a b i) {ub : Nat → Nat → Nat} {kb : Nat → Nat → Nat} {len : Nat} {tx : Nat → Int32} {pl : Nat} {oc : Nat} {da : Nat → Nat → Int32} {ds : Nat → Nat} {pa : Nat → Nat → Int32} {ps : Nat → Nat} {x : Nat → Nat → Int32} {dy : Nat} {ga : Nat → Nat → Int32} {gz : Nat} {uk : Nat} {UX : Nat → Nat → Nat → Int32} {UD : Nat → Nat} {kk : Nat} {KX : Nat → Nat → Nat → Int32} {KD : Nat → Nat} {sf : Nat → Int32} {sc : Nat → Nat} {ar : Nat → Nat → Int32} (hR : (Rl len tx pa ps x dy ga gz uk UX UD kk KX KD sc ar)) (H : Heap) (locs : List Loc) (hP : va_P g.1 vwCl ((xW g ad ub kb len tx pl oc da ds pa ps x dy ga gz uk UX UD kk KX KD sf) ++ mW g o a sc ar) H) (hD : va_D A ((xW g ad ub kb len tx pl oc da ds pa ps x dy ga gz uk UX UD kk KX KD sf) ++ mW g o a sc ar)) (hS : va_S A s.heap H locs) (ls : Array Slot) (hl : lv_has ls 4 [(3, .int (nI i)), (2, .ref o), (1, .ref (ad 0 0)), (0, .ref b)]) : W p l e room_1 s m #[Value.ref b] below meth c H locs 96 3558 Q (F0 m 777 ls []) := by
  obtain ⟨hx, hb, hml, hown, hts, hKK, hX, hbl, hbA⟩ := LC
  have ctx : CallFix p m c code 4 s #[Value.ref b] wsL_law RL := ⟨hx, hb, hml, hown, hts⟩
  obtain ⟨⟨hlen, hsg, hP8, hD5, hW6, hgz, huk, hkk⟩, ⟨⟨mP0, mP8⟩, ⟨mD0, mD5⟩, mW6, mB9, mA8, mK2, mS8, mT, mho, mpt⟩, hRX⟩ := id hR
  refine lv_aload_n hx hb dL_law_777 rfl (lv_at hl 2 rfl) ?_
  refine lv_aload_n hx hb dL_law_778 rfl (lv_at hl 3 rfl) ?_
  refine lv_iload_n hx hb dL_law_779 rfl (lv_at hl 0 rfl) ?_
  refine lv_iconst (v := nI 1) hx hb dL_law_780 (by decide) ?_
  refine lv_iadd hx hb dL_law_781 ?_
  refine lv_is (nI_add i 1) ?_
  refine va_sld hx hb hX hbl hbA hS (i := nI (i + 1)) (vp_in_nI (by omega) (by omega)) dL_law_782 ?_
  refine ro_callV0K (As := [.int (xs (nI (i + 1)).toNatClampNeg)]) (rest := []) (b := ad 0 0) ⟨Nat.le_of_ble_eq_true rfl, Nat.le_of_ble_eq_true rfl⟩ ctx hKK (P_l hP) (lx_mean l g ad ub kb len tx pl oc da ds pa ps x dy ga gz uk UX UD kk KX KD sf (xs (nI (i + 1)).toNatClampNeg) (by assumption) (by assumption) (by assumption) (by assumption)) gL_law_X7_mean rfl rfl rfl hdX7_mean ⟨Nat.le_of_ble_eq_true rfl, Nat.le_of_ble_eq_true rfl⟩ (ci := 7) (q0 := 0) rfl rfl hl.1 rfl rfl (Nat.le_of_ble_eq_true rfl) dL_law_783 (fun r1 h1 => ?_)
  refine lv_pop hx hb dL_law_786 rfl ?_
  refine lv_aload_n hx hb dL_law_787 rfl (lv_at hl 1 rfl) ?_
  refine lv_aload_n hx hb dL_law_788 rfl (lv_at hl 3 rfl) ?_
  refine lv_iload_n hx hb dL_law_789 rfl (lv_at hl 0 rfl) ?_
  refine lv_iconst (v := nI 1) hx hb dL_law_790 (by decide) ?_
  refine lv_iadd hx hb dL_law_791 ?_
  refine lv_is (nI_add i 1) ?_
  refine va_sld hx hb hX hbl hbA hS (i := nI (i + 1)) (vp_in_nI (by omega) (by omega)) dL_law_792 ?_
  refine ro_callV0K (As := [.int (xs (nI (i + 1)).toNatClampNeg)]) (rest := []) (b := o) ⟨Nat.le_of_ble_eq_true rfl, Nat.le_of_ble_eq_true rfl⟩ ctx hKK (P_r hP) (c_X8_mean l g o a sc ar (xs (nI (i + 1)).toNatClampNeg) (by assumption) (by assumption) (by assumption)) gL_law_X8_mean rfl rfl rfl hdX8_mean ⟨Nat.le_of_ble_eq_true rfl, Nat.le_of_ble_eq_true rfl⟩ (ci := 8) (q0 := 0) rfl rfl hl.1 rfl rfl (Nat.le_of_ble_eq_true rfl) dL_law_793 (fun r2 h2 => ?_)
  refine lv_pop hx hb dL_law_796 rfl ?_
  refine lv_goto (tgt := 958) hx hb dL_law_797 (by decide) ?_
  exact K ub kb len tx pl oc da ds pa ps x dy ga gz uk UX UD kk KX KD sf sc ar (R_mean hR h1 h2) _ _ hP hD hS _ (lv_sub hl [0, 1, 2, 3] rfl)
set_option maxHeartbeats 1000000 in
set_option maxRecDepth 100000 in
theorem L_inTime {p : Program} {l : Launch} {e : Env} {s : State} {m : MethodId} {below : List Frame} {meth : Method} {c : Code} {Q : State → Prop} {A : Nat → Prop} {g : GG} {ad : Nat → Nat → Nat} {o : Nat} {a : Nat → Nat} {b L i : Nat} {xs : Nat → Int32} (LC : LCx p s m meth c b L xs A g) (hi : i + 4 ≤ L) (hL : L ≤ 256) (K : LKx p l e s m below meth c Q A g ad o a b i) {ub : Nat → Nat → Nat} {kb : Nat → Nat → Nat} {len : Nat} {tx : Nat → Int32} {pl : Nat} {oc : Nat} {da : Nat → Nat → Int32} {ds : Nat → Nat} {pa : Nat → Nat → Int32} {ps : Nat → Nat} {x : Nat → Nat → Int32} {dy : Nat} {ga : Nat → Nat → Int32} {gz : Nat} {uk : Nat} {UX : Nat → Nat → Nat → Int32} {UD : Nat → Nat} {kk : Nat} {KX : Nat → Nat → Nat → Int32} {KD : Nat → Nat} {sf : Nat → Int32} {sc : Nat → Nat} {ar : Nat → Nat → Int32} (hR : (Rl len tx pa ps x dy ga gz uk UX UD kk KX KD sc ar)) (H : Heap) (locs : List Loc) (hP : va_P g.1 vwCl ((xW g ad ub kb len tx pl oc da ds pa ps x dy ga gz uk UX UD kk KX KD sf) ++ mW g o a sc ar) H) (hD : va_D A ((xW g ad ub kb len tx pl oc da ds pa ps x dy ga gz uk UX UD kk KX KD sf) ++ mW g o a sc ar)) (hS : va_S A s.heap H locs) (ls : Array Slot) (hl : lv_has ls 4 [(3, .int (nI i)), (2, .ref o), (1, .ref (ad 0 0)), (0, .ref b)]) : W p l e room_1 s m #[Value.ref b] below meth c H locs 96 3558 Q (F0 m 800 ls []) := by
  obtain ⟨hx, hb, hml, hown, hts, hKK, hX, hbl, hbA⟩ := LC
  have ctx : CallFix p m c code 4 s #[Value.ref b] wsL_law RL := ⟨hx, hb, hml, hown, hts⟩
  obtain ⟨⟨hlen, hsg, hP8, hD5, hW6, hgz, huk, hkk⟩, ⟨⟨mP0, mP8⟩, ⟨mD0, mD5⟩, mW6, mB9, mA8, mK2, mS8, mT, mho, mpt⟩, hRX⟩ := id hR
  refine lv_aload_n hx hb dL_law_800 rfl (lv_at hl 2 rfl) ?_
  refine lv_aload_n hx hb dL_law_801 rfl (lv_at hl 3 rfl) ?_
  refine lv_iload_n hx hb dL_law_802 rfl (lv_at hl 0 rfl) ?_
  refine lv_iconst (v := nI 1) hx hb dL_law_803 (by decide) ?_
  refine lv_iadd hx hb dL_law_804 ?_
  refine lv_is (nI_add i 1) ?_
  refine va_sld hx hb hX hbl hbA hS (i := nI (i + 1)) (vp_in_nI (by omega) (by omega)) dL_law_805 ?_
  refine ro_callV0K (As := [.int (xs (nI (i + 1)).toNatClampNeg)]) (rest := []) (b := ad 0 0) ⟨Nat.le_of_ble_eq_true rfl, Nat.le_of_ble_eq_true rfl⟩ ctx hKK (P_l hP) (lx_inTime l g ad ub kb len tx pl oc da ds pa ps x dy ga gz uk UX UD kk KX KD sf (xs (nI (i + 1)).toNatClampNeg) (by assumption) (by assumption) (by assumption) (by assumption)) gL_law_X7_inTime rfl rfl rfl hdX7_inTime ⟨Nat.le_of_ble_eq_true rfl, Nat.le_of_ble_eq_true rfl⟩ (ci := 7) (q0 := 0) rfl rfl hl.1 rfl rfl (Nat.le_of_ble_eq_true rfl) dL_law_806 (fun r1 h1 => ?_)
  refine lv_pop hx hb dL_law_809 rfl ?_
  refine lv_aload_n hx hb dL_law_810 rfl (lv_at hl 1 rfl) ?_
  refine lv_aload_n hx hb dL_law_811 rfl (lv_at hl 3 rfl) ?_
  refine lv_iload_n hx hb dL_law_812 rfl (lv_at hl 0 rfl) ?_
  refine lv_iconst (v := nI 1) hx hb dL_law_813 (by decide) ?_
  refine lv_iadd hx hb dL_law_814 ?_
  refine lv_is (nI_add i 1) ?_
  refine va_sld hx hb hX hbl hbA hS (i := nI (i + 1)) (vp_in_nI (by omega) (by omega)) dL_law_815 ?_
  refine ro_callV0K (As := [.int (xs (nI (i + 1)).toNatClampNeg)]) (rest := []) (b := o) ⟨Nat.le_of_ble_eq_true rfl, Nat.le_of_ble_eq_true rfl⟩ ctx hKK (P_r hP) (c_X8_inTime l g o a sc ar (xs (nI (i + 1)).toNatClampNeg) (by assumption) (by assumption) (by assumption)) gL_law_X8_inTime rfl rfl rfl hdX8_inTime ⟨Nat.le_of_ble_eq_true rfl, Nat.le_of_ble_eq_true rfl⟩ (ci := 8) (q0 := 0) rfl rfl hl.1 rfl rfl (Nat.le_of_ble_eq_true rfl) dL_law_816 (fun r2 h2 => ?_)
  refine lv_pop hx hb dL_law_819 rfl ?_
  refine lv_goto (tgt := 958) hx hb dL_law_820 (by decide) ?_
  exact K ub kb len tx pl oc da ds pa ps x dy ga gz uk UX UD kk KX KD sf sc ar (R_inTime hR h1 h2) _ _ hP hD hS _ (lv_sub hl [0, 1, 2, 3] rfl)
set_option maxHeartbeats 1000000 in
set_option maxRecDepth 100000 in
theorem L_likely {p : Program} {l : Launch} {e : Env} {s : State} {m : MethodId} {below : List Frame} {meth : Method} {c : Code} {Q : State → Prop} {A : Nat → Prop} {g : GG} {ad : Nat → Nat → Nat} {o : Nat} {a : Nat → Nat} {b L i : Nat} {xs : Nat → Int32} (LC : LCx p s m meth c b L xs A g) (hi : i + 4 ≤ L) (hL : L ≤ 256) (K : LKx p l e s m below meth c Q A g ad o a b i) {ub : Nat → Nat → Nat} {kb : Nat → Nat → Nat} {len : Nat} {tx : Nat → Int32} {pl : Nat} {oc : Nat} {da : Nat → Nat → Int32} {ds : Nat → Nat} {pa : Nat → Nat → Int32} {ps : Nat → Nat} {x : Nat → Nat → Int32} {dy : Nat} {ga : Nat → Nat → Int32} {gz : Nat} {uk : Nat} {UX : Nat → Nat → Nat → Int32} {UD : Nat → Nat} {kk : Nat} {KX : Nat → Nat → Nat → Int32} {KD : Nat → Nat} {sf : Nat → Int32} {sc : Nat → Nat} {ar : Nat → Nat → Int32} (hR : (Rl len tx pa ps x dy ga gz uk UX UD kk KX KD sc ar)) (H : Heap) (locs : List Loc) (hP : va_P g.1 vwCl ((xW g ad ub kb len tx pl oc da ds pa ps x dy ga gz uk UX UD kk KX KD sf) ++ mW g o a sc ar) H) (hD : va_D A ((xW g ad ub kb len tx pl oc da ds pa ps x dy ga gz uk UX UD kk KX KD sf) ++ mW g o a sc ar)) (hS : va_S A s.heap H locs) (ls : Array Slot) (hl : lv_has ls 4 [(3, .int (nI i)), (2, .ref o), (1, .ref (ad 0 0)), (0, .ref b)]) : W p l e room_1 s m #[Value.ref b] below meth c H locs 96 3558 Q (F0 m 823 ls []) := by
  obtain ⟨hx, hb, hml, hown, hts, hKK, hX, hbl, hbA⟩ := LC
  have ctx : CallFix p m c code 4 s #[Value.ref b] wsL_law RL := ⟨hx, hb, hml, hown, hts⟩
  obtain ⟨⟨hlen, hsg, hP8, hD5, hW6, hgz, huk, hkk⟩, ⟨⟨mP0, mP8⟩, ⟨mD0, mD5⟩, mW6, mB9, mA8, mK2, mS8, mT, mho, mpt⟩, hRX⟩ := id hR
  refine lv_aload_n hx hb dL_law_823 rfl (lv_at hl 2 rfl) ?_
  refine lv_aload_n hx hb dL_law_824 rfl (lv_at hl 3 rfl) ?_
  refine lv_iload_n hx hb dL_law_825 rfl (lv_at hl 0 rfl) ?_
  refine lv_iconst (v := nI 1) hx hb dL_law_826 (by decide) ?_
  refine lv_iadd hx hb dL_law_827 ?_
  refine lv_is (nI_add i 1) ?_
  refine va_sld hx hb hX hbl hbA hS (i := nI (i + 1)) (vp_in_nI (by omega) (by omega)) dL_law_828 ?_
  refine lv_aload_n hx hb dL_law_829 rfl (lv_at hl 3 rfl) ?_
  refine lv_iload_n hx hb dL_law_830 rfl (lv_at hl 0 rfl) ?_
  refine lv_iconst (v := nI 2) hx hb dL_law_831 (by decide) ?_
  refine lv_iadd hx hb dL_law_832 ?_
  refine lv_is (nI_add i 2) ?_
  refine va_sld hx hb hX hbl hbA hS (i := nI (i + 2)) (vp_in_nI (by omega) (by omega)) dL_law_833 ?_
  refine lv_aload_n hx hb dL_law_834 rfl (lv_at hl 3 rfl) ?_
  refine lv_iload_n hx hb dL_law_835 rfl (lv_at hl 0 rfl) ?_
  refine lv_iconst (v := nI 3) hx hb dL_law_836 (by decide) ?_
  refine lv_iadd hx hb dL_law_837 ?_
  refine lv_is (nI_add i 3) ?_
  refine va_sld hx hb hX hbl hbA hS (i := nI (i + 3)) (vp_in_nI (by omega) (by omega)) dL_law_838 ?_
  refine ro_callV0K (As := [.int (xs (nI (i + 1)).toNatClampNeg), .int (xs (nI (i + 2)).toNatClampNeg), .int (xs (nI (i + 3)).toNatClampNeg)]) (rest := []) (b := ad 0 0) ⟨Nat.le_of_ble_eq_true rfl, Nat.le_of_ble_eq_true rfl⟩ ctx hKK (P_l hP) (lx_likely l g ad ub kb len tx pl oc da ds pa ps x dy ga gz uk UX UD kk KX KD sf (xs (nI (i + 1)).toNatClampNeg) (xs (nI (i + 2)).toNatClampNeg) (xs (nI (i + 3)).toNatClampNeg) (by assumption) (by assumption) (by assumption) (by assumption)) gL_law_X7_likely rfl rfl rfl hdX7_likely ⟨Nat.le_of_ble_eq_true rfl, Nat.le_of_ble_eq_true rfl⟩ (ci := 7) (q0 := 0) rfl rfl hl.1 rfl rfl (Nat.le_of_ble_eq_true rfl) dL_law_839 (fun r1 h1 => ?_)
  refine lv_pop hx hb dL_law_842 rfl ?_
  refine lv_aload_n hx hb dL_law_843 rfl (lv_at hl 1 rfl) ?_
  refine lv_aload_n hx hb dL_law_844 rfl (lv_at hl 3 rfl) ?_
  refine lv_iload_n hx hb dL_law_845 rfl (lv_at hl 0 rfl) ?_
  refine lv_iconst (v := nI 1) hx hb dL_law_846 (by decide) ?_
  refine lv_iadd hx hb dL_law_847 ?_
  refine lv_is (nI_add i 1) ?_
  refine va_sld hx hb hX hbl hbA hS (i := nI (i + 1)) (vp_in_nI (by omega) (by omega)) dL_law_848 ?_
  refine lv_aload_n hx hb dL_law_849 rfl (lv_at hl 3 rfl) ?_
  refine lv_iload_n hx hb dL_law_850 rfl (lv_at hl 0 rfl) ?_
  refine lv_iconst (v := nI 2) hx hb dL_law_851 (by decide) ?_
  refine lv_iadd hx hb dL_law_852 ?_
  refine lv_is (nI_add i 2) ?_
  refine va_sld hx hb hX hbl hbA hS (i := nI (i + 2)) (vp_in_nI (by omega) (by omega)) dL_law_853 ?_
  refine lv_aload_n hx hb dL_law_854 rfl (lv_at hl 3 rfl) ?_
  refine lv_iload_n hx hb dL_law_855 rfl (lv_at hl 0 rfl) ?_
  refine lv_iconst (v := nI 3) hx hb dL_law_856 (by decide) ?_
  refine lv_iadd hx hb dL_law_857 ?_
  refine lv_is (nI_add i 3) ?_
  refine va_sld hx hb hX hbl hbA hS (i := nI (i + 3)) (vp_in_nI (by omega) (by omega)) dL_law_858 ?_
  refine wr_callR (As := [.int (xs (nI (i + 1)).toNatClampNeg), .int (xs (nI (i + 2)).toNatClampNeg), .int (xs (nI (i + 3)).toNatClampNeg)]) (rest := []) (b := o) ⟨Nat.le_of_ble_eq_true rfl, Nat.le_of_ble_eq_true rfl⟩ ctx hKK hP hD hS (c_X8_likely l g o a sc ar (xs (nI (i + 1)).toNatClampNeg) (xs (nI (i + 2)).toNatClampNeg) (xs (nI (i + 3)).toNatClampNeg) (by assumption) (by assumption) (by assumption)) gL_law_X8_likely rfl rfl rfl hdX8_likely ⟨Nat.le_of_ble_eq_true rfl, Nat.le_of_ble_eq_true rfl⟩ (ci := 8) (q0 := 0) rfl rfl hl.1 rfl rfl (Nat.le_of_ble_eq_true rfl) dL_law_859 (fun r2 u2 H locs h2 hP hD hS => ?_)
  have hP : va_P g.1 vwCl ((xW g ad ub kb len tx pl oc da ds pa ps x dy ga gz uk UX UD kk KX KD sf) ++ mW g o a sc (upA ar 28 u2)) H := hP
  have hD : va_D A ((xW g ad ub kb len tx pl oc da ds pa ps x dy ga gz uk UX UD kk KX KD sf) ++ mW g o a sc (upA ar 28 u2)) := hD
  refine lv_pop hx hb dL_law_862 rfl ?_
  refine lv_goto (tgt := 958) hx hb dL_law_863 (by decide) ?_
  exact K ub kb len tx pl oc da ds pa ps x dy ga gz uk UX UD kk KX KD sf sc (upA ar 28 u2) (R_likely hR h1 h2) _ _ hP hD hS _ (lv_sub hl [0, 1, 2, 3] rfl)
set_option maxHeartbeats 1000000 in
set_option maxRecDepth 100000 in
theorem L_street {p : Program} {l : Launch} {e : Env} {s : State} {m : MethodId} {below : List Frame} {meth : Method} {c : Code} {Q : State → Prop} {A : Nat → Prop} {g : GG} {ad : Nat → Nat → Nat} {o : Nat} {a : Nat → Nat} {b L i : Nat} {xs : Nat → Int32} (LC : LCx p s m meth c b L xs A g) (hi : i + 4 ≤ L) (hL : L ≤ 256) (K : LKx p l e s m below meth c Q A g ad o a b i) {ub : Nat → Nat → Nat} {kb : Nat → Nat → Nat} {len : Nat} {tx : Nat → Int32} {pl : Nat} {oc : Nat} {da : Nat → Nat → Int32} {ds : Nat → Nat} {pa : Nat → Nat → Int32} {ps : Nat → Nat} {x : Nat → Nat → Int32} {dy : Nat} {ga : Nat → Nat → Int32} {gz : Nat} {uk : Nat} {UX : Nat → Nat → Nat → Int32} {UD : Nat → Nat} {kk : Nat} {KX : Nat → Nat → Nat → Int32} {KD : Nat → Nat} {sf : Nat → Int32} {sc : Nat → Nat} {ar : Nat → Nat → Int32} (hR : (Rl len tx pa ps x dy ga gz uk UX UD kk KX KD sc ar)) (H : Heap) (locs : List Loc) (hP : va_P g.1 vwCl ((xW g ad ub kb len tx pl oc da ds pa ps x dy ga gz uk UX UD kk KX KD sf) ++ mW g o a sc ar) H) (hD : va_D A ((xW g ad ub kb len tx pl oc da ds pa ps x dy ga gz uk UX UD kk KX KD sf) ++ mW g o a sc ar)) (hS : va_S A s.heap H locs) (ls : Array Slot) (hl : lv_has ls 4 [(3, .int (nI i)), (2, .ref o), (1, .ref (ad 0 0)), (0, .ref b)]) : W p l e room_1 s m #[Value.ref b] below meth c H locs 96 3558 Q (F0 m 866 ls []) := by
  obtain ⟨hx, hb, hml, hown, hts, hKK, hX, hbl, hbA⟩ := LC
  have ctx : CallFix p m c code 4 s #[Value.ref b] wsL_law RL := ⟨hx, hb, hml, hown, hts⟩
  obtain ⟨⟨hlen, hsg, hP8, hD5, hW6, hgz, huk, hkk⟩, ⟨⟨mP0, mP8⟩, ⟨mD0, mD5⟩, mW6, mB9, mA8, mK2, mS8, mT, mho, mpt⟩, hRX⟩ := id hR
  refine lv_aload_n hx hb dL_law_866 rfl (lv_at hl 2 rfl) ?_
  refine lv_aload_n hx hb dL_law_867 rfl (lv_at hl 3 rfl) ?_
  refine lv_iload_n hx hb dL_law_868 rfl (lv_at hl 0 rfl) ?_
  refine lv_iconst (v := nI 1) hx hb dL_law_869 (by decide) ?_
  refine lv_iadd hx hb dL_law_870 ?_
  refine lv_is (nI_add i 1) ?_
  refine va_sld hx hb hX hbl hbA hS (i := nI (i + 1)) (vp_in_nI (by omega) (by omega)) dL_law_871 ?_
  refine lv_aload_n hx hb dL_law_872 rfl (lv_at hl 3 rfl) ?_
  refine lv_iload_n hx hb dL_law_873 rfl (lv_at hl 0 rfl) ?_
  refine lv_iconst (v := nI 2) hx hb dL_law_874 (by decide) ?_
  refine lv_iadd hx hb dL_law_875 ?_
  refine lv_is (nI_add i 2) ?_
  refine va_sld hx hb hX hbl hbA hS (i := nI (i + 2)) (vp_in_nI (by omega) (by omega)) dL_law_876 ?_
  refine lv_aload_n hx hb dL_law_877 rfl (lv_at hl 3 rfl) ?_
  refine lv_iload_n hx hb dL_law_878 rfl (lv_at hl 0 rfl) ?_
  refine lv_iconst (v := nI 3) hx hb dL_law_879 (by decide) ?_
  refine lv_iadd hx hb dL_law_880 ?_
  refine lv_is (nI_add i 3) ?_
  refine va_sld hx hb hX hbl hbA hS (i := nI (i + 3)) (vp_in_nI (by omega) (by omega)) dL_law_881 ?_
  refine wr_callL (As := [.int (xs (nI (i + 1)).toNatClampNeg), .int (xs (nI (i + 2)).toNatClampNeg), .int (xs (nI (i + 3)).toNatClampNeg)]) (rest := []) (b := ad 0 0) ⟨Nat.le_of_ble_eq_true rfl, Nat.le_of_ble_eq_true rfl⟩ ctx hKK hP hD hS (lx_street l g ad ub kb len tx pl oc da ds pa ps x dy ga gz uk UX UD kk KX KD sf (xs (nI (i + 1)).toNatClampNeg) (xs (nI (i + 2)).toNatClampNeg) (xs (nI (i + 3)).toNatClampNeg) (by assumption) (by assumption) (by assumption) (by assumption)) gL_law_X7_street rfl rfl rfl hdX7_street ⟨Nat.le_of_ble_eq_true rfl, Nat.le_of_ble_eq_true rfl⟩ (ci := 7) (q0 := 0) rfl rfl hl.1 rfl rfl (Nat.le_of_ble_eq_true rfl) dL_law_882 (fun r1 u1 H locs h1 hP hD hS => ?_)
  have hP : va_P g.1 vwCl ((xW g ad ub kb len tx pl oc da ds pa ps x dy ga gz uk UX UD kk KX KD u1) ++ mW g o a sc ar) H := hP
  have hD : va_D A ((xW g ad ub kb len tx pl oc da ds pa ps x dy ga gz uk UX UD kk KX KD u1) ++ mW g o a sc ar) := hD
  refine lv_pop hx hb dL_law_885 rfl ?_
  refine lv_aload_n hx hb dL_law_886 rfl (lv_at hl 1 rfl) ?_
  refine lv_aload_n hx hb dL_law_887 rfl (lv_at hl 3 rfl) ?_
  refine lv_iload_n hx hb dL_law_888 rfl (lv_at hl 0 rfl) ?_
  refine lv_iconst (v := nI 1) hx hb dL_law_889 (by decide) ?_
  refine lv_iadd hx hb dL_law_890 ?_
  refine lv_is (nI_add i 1) ?_
  refine va_sld hx hb hX hbl hbA hS (i := nI (i + 1)) (vp_in_nI (by omega) (by omega)) dL_law_891 ?_
  refine lv_aload_n hx hb dL_law_892 rfl (lv_at hl 3 rfl) ?_
  refine lv_iload_n hx hb dL_law_893 rfl (lv_at hl 0 rfl) ?_
  refine lv_iconst (v := nI 2) hx hb dL_law_894 (by decide) ?_
  refine lv_iadd hx hb dL_law_895 ?_
  refine lv_is (nI_add i 2) ?_
  refine va_sld hx hb hX hbl hbA hS (i := nI (i + 2)) (vp_in_nI (by omega) (by omega)) dL_law_896 ?_
  refine lv_aload_n hx hb dL_law_897 rfl (lv_at hl 3 rfl) ?_
  refine lv_iload_n hx hb dL_law_898 rfl (lv_at hl 0 rfl) ?_
  refine lv_iconst (v := nI 3) hx hb dL_law_899 (by decide) ?_
  refine lv_iadd hx hb dL_law_900 ?_
  refine lv_is (nI_add i 3) ?_
  refine va_sld hx hb hX hbl hbA hS (i := nI (i + 3)) (vp_in_nI (by omega) (by omega)) dL_law_901 ?_
  refine wr_callR (As := [.int (xs (nI (i + 1)).toNatClampNeg), .int (xs (nI (i + 2)).toNatClampNeg), .int (xs (nI (i + 3)).toNatClampNeg)]) (rest := []) (b := o) ⟨Nat.le_of_ble_eq_true rfl, Nat.le_of_ble_eq_true rfl⟩ ctx hKK hP hD hS (c_X8_street l g o a sc ar (xs (nI (i + 1)).toNatClampNeg) (xs (nI (i + 2)).toNatClampNeg) (xs (nI (i + 3)).toNatClampNeg) (by assumption) (by assumption) (by assumption) (by assumption)) gL_law_X8_street rfl rfl rfl hdX8_street ⟨Nat.le_of_ble_eq_true rfl, Nat.le_of_ble_eq_true rfl⟩ (ci := 8) (q0 := 0) rfl rfl hl.1 rfl rfl (Nat.le_of_ble_eq_true rfl) dL_law_902 (fun r2 u2 H locs h2 hP hD hS => ?_)
  have hP : va_P g.1 vwCl ((xW g ad ub kb len tx pl oc da ds pa ps x dy ga gz uk UX UD kk KX KD u1) ++ mW g o a sc (upA ar 28 u2)) H := hP
  have hD : va_D A ((xW g ad ub kb len tx pl oc da ds pa ps x dy ga gz uk UX UD kk KX KD u1) ++ mW g o a sc (upA ar 28 u2)) := hD
  refine lv_pop hx hb dL_law_905 rfl ?_
  refine lv_goto (tgt := 958) hx hb dL_law_906 (by decide) ?_
  exact K ub kb len tx pl oc da ds pa ps x dy ga gz uk UX UD kk KX KD u1 sc (upA ar 28 u2) (R_street hR h1 h2) _ _ hP hD hS _ (lv_sub hl [0, 1, 2, 3] rfl)
set_option maxHeartbeats 1000000 in
set_option maxRecDepth 100000 in
theorem L_keep {p : Program} {l : Launch} {e : Env} {s : State} {m : MethodId} {below : List Frame} {meth : Method} {c : Code} {Q : State → Prop} {A : Nat → Prop} {g : GG} {ad : Nat → Nat → Nat} {o : Nat} {a : Nat → Nat} {b L i : Nat} {xs : Nat → Int32} (LC : LCx p s m meth c b L xs A g) (hi : i + 4 ≤ L) (hL : L ≤ 256) (K : LKx p l e s m below meth c Q A g ad o a b i) {ub : Nat → Nat → Nat} {kb : Nat → Nat → Nat} {len : Nat} {tx : Nat → Int32} {pl : Nat} {oc : Nat} {da : Nat → Nat → Int32} {ds : Nat → Nat} {pa : Nat → Nat → Int32} {ps : Nat → Nat} {x : Nat → Nat → Int32} {dy : Nat} {ga : Nat → Nat → Int32} {gz : Nat} {uk : Nat} {UX : Nat → Nat → Nat → Int32} {UD : Nat → Nat} {kk : Nat} {KX : Nat → Nat → Nat → Int32} {KD : Nat → Nat} {sf : Nat → Int32} {sc : Nat → Nat} {ar : Nat → Nat → Int32} (hR : (Rl len tx pa ps x dy ga gz uk UX UD kk KX KD sc ar)) (H : Heap) (locs : List Loc) (hP : va_P g.1 vwCl ((xW g ad ub kb len tx pl oc da ds pa ps x dy ga gz uk UX UD kk KX KD sf) ++ mW g o a sc ar) H) (hD : va_D A ((xW g ad ub kb len tx pl oc da ds pa ps x dy ga gz uk UX UD kk KX KD sf) ++ mW g o a sc ar)) (hS : va_S A s.heap H locs) (ls : Array Slot) (hl : lv_has ls 4 [(3, .int (nI i)), (2, .ref o), (1, .ref (ad 0 0)), (0, .ref b)]) : W p l e room_1 s m #[Value.ref b] below meth c H locs 96 3558 Q (F0 m 909 ls []) := by
  obtain ⟨hx, hb, hml, hown, hts, hKK, hX, hbl, hbA⟩ := LC
  have ctx : CallFix p m c code 4 s #[Value.ref b] wsL_law RL := ⟨hx, hb, hml, hown, hts⟩
  obtain ⟨⟨hlen, hsg, hP8, hD5, hW6, hgz, huk, hkk⟩, ⟨⟨mP0, mP8⟩, ⟨mD0, mD5⟩, mW6, mB9, mA8, mK2, mS8, mT, mho, mpt⟩, hRX⟩ := id hR
  refine lv_aload_n hx hb dL_law_909 rfl (lv_at hl 2 rfl) ?_
  refine wr_callL (As := []) (rest := []) (b := ad 0 0) ⟨Nat.le_of_ble_eq_true rfl, Nat.le_of_ble_eq_true rfl⟩ ctx hKK hP hD hS (lx_keep l g ad ub kb len tx pl oc da ds pa ps x dy ga gz uk UX UD kk KX KD sf (by assumption) (by assumption) (by assumption) (by assumption) (by assumption)) gL_law_X7_keep rfl rfl rfl hdX7_keep ⟨Nat.le_of_ble_eq_true rfl, Nat.le_of_ble_eq_true rfl⟩ (ci := 7) (q0 := 0) rfl rfl hl.1 rfl rfl (Nat.le_of_ble_eq_true rfl) dL_law_910 (fun r1 u1 H locs h1 hP hD hS => ?_)
  have hP : va_P g.1 vwCl ((xW g ad ub u1.1 len tx pl oc da ds pa ps x dy ga gz uk UX UD u1.2.2.2 u1.2.1 u1.2.2.1 sf) ++ mW g o a sc ar) H := hP
  have hD : va_D A ((xW g ad ub u1.1 len tx pl oc da ds pa ps x dy ga gz uk UX UD u1.2.2.2 u1.2.1 u1.2.2.1 sf) ++ mW g o a sc ar) := hD
  refine lv_pop hx hb dL_law_913 rfl ?_
  refine lv_aload_n hx hb dL_law_914 rfl (lv_at hl 1 rfl) ?_
  refine wr_callR (As := []) (rest := []) (b := o) ⟨Nat.le_of_ble_eq_true rfl, Nat.le_of_ble_eq_true rfl⟩ ctx hKK hP hD hS (c_X8_keep l g o a sc ar (by assumption)) gL_law_X8_keep rfl rfl rfl hdX8_keep ⟨Nat.le_of_ble_eq_true rfl, Nat.le_of_ble_eq_true rfl⟩ (ci := 8) (q0 := 0) rfl rfl hl.1 rfl rfl (Nat.le_of_ble_eq_true rfl) dL_law_915 (fun r2 u2 H locs h2 hP hD hS => ?_)
  have hP : va_P g.1 vwCl ((xW g ad ub u1.1 len tx pl oc da ds pa ps x dy ga gz uk UX UD u1.2.2.2 u1.2.1 u1.2.2.1 sf) ++ mW g o a (updN sc 10 u2.1) (upA ar 11 u2.2)) H := hP
  have hD : va_D A ((xW g ad ub u1.1 len tx pl oc da ds pa ps x dy ga gz uk UX UD u1.2.2.2 u1.2.1 u1.2.2.1 sf) ++ mW g o a (updN sc 10 u2.1) (upA ar 11 u2.2)) := hD
  refine lv_pop hx hb dL_law_918 rfl ?_
  refine lv_goto (tgt := 958) hx hb dL_law_919 (by decide) ?_
  exact K ub u1.1 len tx pl oc da ds pa ps x dy ga gz uk UX UD u1.2.2.2 u1.2.1 u1.2.2.1 sf (updN sc 10 u2.1) (upA ar 11 u2.2) (R_keep hR h1 h2) _ _ hP hD hS _ (lv_sub hl [0, 1, 2, 3] rfl)
set_option maxHeartbeats 1000000 in
set_option maxRecDepth 100000 in
theorem L_back {p : Program} {l : Launch} {e : Env} {s : State} {m : MethodId} {below : List Frame} {meth : Method} {c : Code} {Q : State → Prop} {A : Nat → Prop} {g : GG} {ad : Nat → Nat → Nat} {o : Nat} {a : Nat → Nat} {b L i : Nat} {xs : Nat → Int32} (LC : LCx p s m meth c b L xs A g) (hi : i + 4 ≤ L) (hL : L ≤ 256) (K : LKx p l e s m below meth c Q A g ad o a b i) {ub : Nat → Nat → Nat} {kb : Nat → Nat → Nat} {len : Nat} {tx : Nat → Int32} {pl : Nat} {oc : Nat} {da : Nat → Nat → Int32} {ds : Nat → Nat} {pa : Nat → Nat → Int32} {ps : Nat → Nat} {x : Nat → Nat → Int32} {dy : Nat} {ga : Nat → Nat → Int32} {gz : Nat} {uk : Nat} {UX : Nat → Nat → Nat → Int32} {UD : Nat → Nat} {kk : Nat} {KX : Nat → Nat → Nat → Int32} {KD : Nat → Nat} {sf : Nat → Int32} {sc : Nat → Nat} {ar : Nat → Nat → Int32} (hR : (Rl len tx pa ps x dy ga gz uk UX UD kk KX KD sc ar)) (H : Heap) (locs : List Loc) (hP : va_P g.1 vwCl ((xW g ad ub kb len tx pl oc da ds pa ps x dy ga gz uk UX UD kk KX KD sf) ++ mW g o a sc ar) H) (hD : va_D A ((xW g ad ub kb len tx pl oc da ds pa ps x dy ga gz uk UX UD kk KX KD sf) ++ mW g o a sc ar)) (hS : va_S A s.heap H locs) (ls : Array Slot) (hl : lv_has ls 4 [(3, .int (nI i)), (2, .ref o), (1, .ref (ad 0 0)), (0, .ref b)]) : W p l e room_1 s m #[Value.ref b] below meth c H locs 96 3558 Q (F0 m 922 ls []) := by
  obtain ⟨hx, hb, hml, hown, hts, hKK, hX, hbl, hbA⟩ := LC
  have ctx : CallFix p m c code 4 s #[Value.ref b] wsL_law RL := ⟨hx, hb, hml, hown, hts⟩
  obtain ⟨⟨hlen, hsg, hP8, hD5, hW6, hgz, huk, hkk⟩, ⟨⟨mP0, mP8⟩, ⟨mD0, mD5⟩, mW6, mB9, mA8, mK2, mS8, mT, mho, mpt⟩, hRX⟩ := id hR
  refine lv_aload_n hx hb dL_law_922 rfl (lv_at hl 2 rfl) ?_
  refine wr_callL (As := []) (rest := []) (b := ad 0 0) ⟨Nat.le_of_ble_eq_true rfl, Nat.le_of_ble_eq_true rfl⟩ ctx hKK hP hD hS (lx_back l g ad ub kb len tx pl oc da ds pa ps x dy ga gz uk UX UD kk KX KD sf (by assumption) (by assumption) (by assumption) (by assumption) (by assumption)) gL_law_X7_back rfl rfl rfl hdX7_back ⟨Nat.le_of_ble_eq_true rfl, Nat.le_of_ble_eq_true rfl⟩ (ci := 7) (q0 := 0) rfl rfl hl.1 rfl rfl (Nat.le_of_ble_eq_true rfl) dL_law_923 (fun r1 u1 H locs h1 hP hD hS => ?_)
  have hP : va_P g.1 vwCl ((xW g ad ub kb len tx pl oc da ds pa ps u1.2.2.1 u1.2.2.2 ga gz u1.1 UX UD u1.2.1.2.2 u1.2.1.1 u1.2.1.2.1 sf) ++ mW g o a sc ar) H := hP
  have hD : va_D A ((xW g ad ub kb len tx pl oc da ds pa ps u1.2.2.1 u1.2.2.2 ga gz u1.1 UX UD u1.2.1.2.2 u1.2.1.1 u1.2.1.2.1 sf) ++ mW g o a sc ar) := hD
  refine lv_pop hx hb dL_law_926 rfl ?_
  refine lv_aload_n hx hb dL_law_927 rfl (lv_at hl 1 rfl) ?_
  refine wr_callR (As := []) (rest := []) (b := o) ⟨Nat.le_of_ble_eq_true rfl, Nat.le_of_ble_eq_true rfl⟩ ctx hKK hP hD hS (c_X8_back l g o a sc ar (by assumption)) gL_law_X8_back rfl rfl rfl hdX8_back ⟨Nat.le_of_ble_eq_true rfl, Nat.le_of_ble_eq_true rfl⟩ (ci := 8) (q0 := 0) rfl rfl hl.1 rfl rfl (Nat.le_of_ble_eq_true rfl) dL_law_928 (fun r2 u2 H locs h2 hP hD hS => ?_)
  have hP : va_P g.1 vwCl ((xW g ad ub kb len tx pl oc da ds pa ps u1.2.2.1 u1.2.2.2 ga gz u1.1 UX UD u1.2.1.2.2 u1.2.1.1 u1.2.1.2.1 sf) ++ mW g o a (updN (updN sc 8 u2.1) 10 u2.2.1) (upA ar 7 u2.2.2)) H := hP
  have hD : va_D A ((xW g ad ub kb len tx pl oc da ds pa ps u1.2.2.1 u1.2.2.2 ga gz u1.1 UX UD u1.2.1.2.2 u1.2.1.1 u1.2.1.2.1 sf) ++ mW g o a (updN (updN sc 8 u2.1) 10 u2.2.1) (upA ar 7 u2.2.2)) := hD
  refine lv_pop hx hb dL_law_931 rfl ?_
  refine lv_goto (tgt := 958) hx hb dL_law_932 (by decide) ?_
  exact K ub kb len tx pl oc da ds pa ps u1.2.2.1 u1.2.2.2 ga gz u1.1 UX UD u1.2.1.2.2 u1.2.1.1 u1.2.1.2.1 sf (updN (updN sc 8 u2.1) 10 u2.2.1) (upA ar 7 u2.2.2) (R_back hR h1 h2) _ _ hP hD hS _ (lv_sub hl [0, 1, 2, 3] rfl)
set_option maxHeartbeats 1000000 in
set_option maxRecDepth 100000 in
theorem L_count {p : Program} {l : Launch} {e : Env} {s : State} {m : MethodId} {below : List Frame} {meth : Method} {c : Code} {Q : State → Prop} {A : Nat → Prop} {g : GG} {ad : Nat → Nat → Nat} {o : Nat} {a : Nat → Nat} {b L i : Nat} {xs : Nat → Int32} (LC : LCx p s m meth c b L xs A g) (hi : i + 4 ≤ L) (hL : L ≤ 256) (K : LKx p l e s m below meth c Q A g ad o a b i) {ub : Nat → Nat → Nat} {kb : Nat → Nat → Nat} {len : Nat} {tx : Nat → Int32} {pl : Nat} {oc : Nat} {da : Nat → Nat → Int32} {ds : Nat → Nat} {pa : Nat → Nat → Int32} {ps : Nat → Nat} {x : Nat → Nat → Int32} {dy : Nat} {ga : Nat → Nat → Int32} {gz : Nat} {uk : Nat} {UX : Nat → Nat → Nat → Int32} {UD : Nat → Nat} {kk : Nat} {KX : Nat → Nat → Nat → Int32} {KD : Nat → Nat} {sf : Nat → Int32} {sc : Nat → Nat} {ar : Nat → Nat → Int32} (hR : (Rl len tx pa ps x dy ga gz uk UX UD kk KX KD sc ar)) (H : Heap) (locs : List Loc) (hP : va_P g.1 vwCl ((xW g ad ub kb len tx pl oc da ds pa ps x dy ga gz uk UX UD kk KX KD sf) ++ mW g o a sc ar) H) (hD : va_D A ((xW g ad ub kb len tx pl oc da ds pa ps x dy ga gz uk UX UD kk KX KD sf) ++ mW g o a sc ar)) (hS : va_S A s.heap H locs) (ls : Array Slot) (hl : lv_has ls 4 [(3, .int (nI i)), (2, .ref o), (1, .ref (ad 0 0)), (0, .ref b)]) : W p l e room_1 s m #[Value.ref b] below meth c H locs 96 3558 Q (F0 m 935 ls []) := by
  obtain ⟨hx, hb, hml, hown, hts, hKK, hX, hbl, hbA⟩ := LC
  have ctx : CallFix p m c code 4 s #[Value.ref b] wsL_law RL := ⟨hx, hb, hml, hown, hts⟩
  obtain ⟨⟨hlen, hsg, hP8, hD5, hW6, hgz, huk, hkk⟩, ⟨⟨mP0, mP8⟩, ⟨mD0, mD5⟩, mW6, mB9, mA8, mK2, mS8, mT, mho, mpt⟩, hRX⟩ := id hR
  refine lv_aload_n hx hb dL_law_935 rfl (lv_at hl 2 rfl) ?_
  refine lv_aload_n hx hb dL_law_936 rfl (lv_at hl 3 rfl) ?_
  refine lv_iload_n hx hb dL_law_937 rfl (lv_at hl 0 rfl) ?_
  refine lv_iconst (v := nI 1) hx hb dL_law_938 (by decide) ?_
  refine lv_iadd hx hb dL_law_939 ?_
  refine lv_is (nI_add i 1) ?_
  refine va_sld hx hb hX hbl hbA hS (i := nI (i + 1)) (vp_in_nI (by omega) (by omega)) dL_law_940 ?_
  refine ro_callV0K (As := [.int (xs (nI (i + 1)).toNatClampNeg)]) (rest := []) (b := ad 0 0) ⟨Nat.le_of_ble_eq_true rfl, Nat.le_of_ble_eq_true rfl⟩ ctx hKK (P_l hP) (lx_count l g ad ub kb len tx pl oc da ds pa ps x dy ga gz uk UX UD kk KX KD sf (xs (nI (i + 1)).toNatClampNeg) (by assumption) (by assumption) (by assumption) (by assumption)) gL_law_X7_count rfl rfl rfl hdX7_count ⟨Nat.le_of_ble_eq_true rfl, Nat.le_of_ble_eq_true rfl⟩ (ci := 7) (q0 := 0) rfl rfl hl.1 rfl rfl (Nat.le_of_ble_eq_true rfl) dL_law_941 (fun r1 h1 => ?_)
  refine lv_aload_n hx hb dL_law_944 rfl (lv_at hl 1 rfl) ?_
  refine lv_aload_n hx hb dL_law_945 rfl (lv_at hl 3 rfl) ?_
  refine lv_iload_n hx hb dL_law_946 rfl (lv_at hl 0 rfl) ?_
  refine lv_iconst (v := nI 1) hx hb dL_law_947 (by decide) ?_
  refine lv_iadd hx hb dL_law_948 ?_
  refine lv_is (nI_add i 1) ?_
  refine va_sld hx hb hX hbl hbA hS (i := nI (i + 1)) (vp_in_nI (by omega) (by omega)) dL_law_949 ?_
  refine ro_callV0K (As := [.int (xs (nI (i + 1)).toNatClampNeg)]) (rest := [.int r1]) (b := o) ⟨Nat.le_of_ble_eq_true rfl, Nat.le_of_ble_eq_true rfl⟩ ctx hKK (P_r hP) (c_X8_count l g o a sc ar (xs (nI (i + 1)).toNatClampNeg)) gL_law_X8_count rfl rfl rfl hdX8_count ⟨Nat.le_of_ble_eq_true rfl, Nat.le_of_ble_eq_true rfl⟩ (ci := 8) (q0 := 0) rfl rfl hl.1 rfl rfl (Nat.le_of_ble_eq_true rfl) dL_law_950 (fun r2 h2 => ?_)
  refine lv_icmp_eq (tgt := 958) hx hb dL_law_953 (by decide) (fun cq => ?_) (fun cq => absurd (E_count hR h1 h2) cq)
  exact K ub kb len tx pl oc da ds pa ps x dy ga gz uk UX UD kk KX KD sf sc ar (R_count hR h1 h2) _ _ hP hD hS _ (lv_sub hl [0, 1, 2, 3] rfl)
