
/-- the model's cells: the object, its arrays -/
def mW (g : GG) (o : Nat) (a : Nat → Nat) (sc : Nat → Nat) (ar : Nat → Nat → Int32) : va_W :=
  [(o, .inr (8, [.int (nI (sc 0)), .ref (a 1), .int (nI (sc 2)), .ref (a 3), .int (nI (sc 4)), .ref (a 5), .int (nI (sc 6)), .ref (a 7), .int (nI (sc 8)), .ref (a 9), .int (nI (sc 10)), .ref (a 11), .int (nI (sc 12)), .ref (a 13), .ref (a 14), .int (nI (sc 15)), .int (nI (sc 16)), .ref (a 17), .int (nI (sc 18)), .int (nI (sc 19)), .int (nI (sc 20)), .ref (a 21), .int (nI (sc 22)), .ref (a 23), .int (nI (sc 24)), .ref (a 25), .int (nI (sc 26)), .ref (a 27), .ref (a 28)])), (a 1, .inl (g.2.1, 8, .inl (ar 1))), (a 3, .inl (g.2.1, 5, .inl (ar 3))), (a 5, .inl (g.2.1, 6, .inl (ar 5))), (a 7, .inl (g.2.1, 115, .inl (ar 7))), (a 9, .inl (g.2.1, 920, .inl (ar 9))), (a 11, .inl (g.2.1, 230, .inl (ar 11))), (a 13, .inl (g.2.1, 24, .inl (ar 13))), (a 14, .inl (g.2.1, 200, .inl (ar 14))), (a 17, .inl (g.2.1, 2, .inl (ar 17))), (a 21, .inl (g.2.1, 8, .inl (ar 21))), (a 23, .inl (g.2.1, 5, .inl (ar 23))), (a 25, .inl (g.2.1, 6, .inl (ar 25))), (a 27, .inl (g.2.1, 115, .inl (ar 27))), (a 28, .inl (g.2.1, 115, .inl (ar 28)))]
section MCALLS
variable {p : Program} {l : Launch} {e : Env} {R : Room} {s : State} {m : MethodId} {args : Array Value} {below : List Frame} {meth : Method} {c : Code} {H : Heap} {locs : List Loc} {Q : State → Prop} {g : GG}
  {y : MethodName} {bytes cc : ByteArray} {maxL nL n index pc b : Nat} {ret : Option FieldType} {ws ws' Ts : List Cond} {rm : Room} {own C : String} {As rest st0 : List Value} {ls : Array Slot} {w W0 : va_W} {A0 : Nat → Prop} {H0 : Heap}
theorem ro_callV0 {post : Int32 → Prop} (ctx : CallFix p m c cc nL s args Ts own) (hKK : KK g s) (hP : va_P g.1 vwCl w H) (hM : Met l y ws rm (ro g (.ref b :: As) w) (vp_Si post) 0 0 (fun _ => False)) (hG : GoodIn Ts (wsV own index C y ws)) (hw : ws = Cond.code y bytes maxL ret :: ws') (hrc : rm.cells = 0) (hrs : rm.slots = 0)
    (hd : y.cls = C ∧ y.cls ≠ "java/lang/invoke/MethodHandle" ∧ y.cls ≠ "java/lang/invoke/VarHandle" ∧ (parseMethodDescriptor y.desc).map (fun d => d.parameters.length) = some n) (hR : rm.frames + 1 ≤ R.frames ∧ 8 + (maxL + 11) + rm.locals ≤ R.locals)
    {ci q0 : Nat} {fs : List Value} {T : u_T} {N : Nat} (hc : vwCl[ci]? = some (C, T, N)) (he : w[q0]? = some (b, .inr (ci, fs))) (hsz : ls.size = nL) (hst : st0 = As.reverse ++ .ref b :: rest) (hn : As.length = n) (hrm : (rest.map fun v => v.category).sum ≤ 8) (hdg : decode cc pc = .ok (.invokevirtual index, 3))
    (kk : ∀ r : Int32, post r → W p l e R s m args below meth c H locs 0 0 Q (F0 m (pc + 3) ls (.int r :: rest))) : W p l e R s m args below meth c H locs 0 0 Q (F0 m pc ls st0) := by
  exact vp_callSi (va_Run.run (va_runV (g := F0 m pc ls st0) (rest := rest) ctx hM (cwV n ctx.2.2.2.2 hG hw hrc hrs hd hR) ⟨ro_blind, va_recv hKK.1 hP hc he, fun U hU hW => ⟨rfl, by rw [hU]; exact hP, hKK.warm hW⟩⟩ rfl hn hsz hst (lv_room hrm) hdg ⟨by omega, by omega⟩)) kk
end MCALLS
theorem tf {α : Prop} (h : true = false) : α := Bool.noConfusion h
theorem ft {α : Prop} (h : false = true) : α := Bool.noConfusion h
def inB (v l m : Int32) : Bool := decide (¬ v < l ∧ v ≤ m)
theorem inB_p {P : Nat} (hP : P ≤ 8) (x : Int32) : inB x (nI 0) (nI P - nI 1) = inPb P x := by
  have key : (¬ x < nI 0 ∧ x ≤ nI P - nI 1) ↔ (¬ x < 0 ∧ ¬ nI P ≤ x) := by
    have h0 : (nI 0).toInt = 0 := by decide
    have h1 : (0 : Int32).toInt = 0 := by decide
    have h2 : (nI P - nI 1).toInt = (P : Int) - 1 ∧ (nI P).toInt = (P : Int) := by
      rcases (by omega : P = 0 ∨ P = 1 ∨ P = 2 ∨ P = 3 ∨ P = 4 ∨ P = 5 ∨ P = 6 ∨ P = 7 ∨ P = 8) with rfl | rfl | rfl | rfl | rfl | rfl | rfl | rfl | rfl <;> decide
    rw [Int32.lt_iff_toInt_lt, Int32.lt_iff_toInt_lt, Int32.le_iff_toInt_le, Int32.le_iff_toInt_le, h0, h1, h2.1, h2.2]
    omega
  rw [inB, inPb]
  simp only [key]
def mBits (x : Int32) : Nat → Int32
  | 0 => nI 0
  | k + 1 => mBits x k + ((x >>> (nI k &&& 31)) &&& nI 1)
def cpL (ft ff : Nat → Int32) (at_ fr : Nat) : Nat → Nat → Int32
  | 0 => ft
  | j + 1 => upd (cpL ft ff at_ fr j) (at_ + j) (ff (fr + j))
theorem cpL_0 (ft ff : Nat → Int32) : ∀ n k, k < n → cpL ft ff 0 0 n k = ff k
  | 0, k, h => absurd h (Nat.not_lt_zero k)
  | n + 1, k, h => by
    rw [cpL]
    by_cases hk : k = 0 + n
    · rw [hk, pk_us]
    · rw [pk_un hk]; exact cpL_0 ft ff n k (by omega)
set_option maxHeartbeats 400000 in
set_option maxRecDepth 100000 in
theorem c_X8_in (l : Launch) (g : GG) (v : Int32) (lo : Int32) (hi : Int32) : Met l yX8_in wsX8_in ({ frames := 0, cells := 0, slots := 0, locals := 0 } : Room) (ro g [.int v, .int lo, .int hi] []) (vp_Si (fun rr => rr = bI (inB v lo hi))) 0 0 (fun _ => False) := by
  refine ro_start (cc := cX8_in) (maxL := 3) (ty := .boolean) (by decide) rfl (Nat.le_of_ble_eq_true rfl) (fun p e s m args below meth c Q C hP hret ls hl => ?_)
  obtain ⟨hx, hb, hml, hr, hown, hts, hlk, hKK⟩ := id C
  have hK := hKK.1
  have hown : s.vm.findClass RX8 = some m.cls := hown
  have ctx : CallFix p m c cX8_in 3 s args wsX8_in RX8 := ⟨hx, hb, hml, hown, hts⟩
  have hl : lv_has ls 3 [(0, .int v), (1, .int lo), (2, .int hi)] := hl
  refine lv_iload_n hx hb dX8_in_0 rfl (lv_at hl 0 rfl) ?_
  refine lv_iload_n hx hb dX8_in_1 rfl (lv_at hl 1 rfl) ?_
  refine lv_icmp_lt (tgt := 14) hx hb dX8_in_2 (by decide) (fun c_1 => ?_) (fun c_1 => ?_)
  · refine lv_iconst (v := nI 0) hx hb dX8_in_14 (by decide) ?_
    exact hret (nI 0) 15 ls (by rw [inB, decide_eq_false (fun h => h.1 c_1)]; rfl) (rfl) dX8_in_15
  · refine lv_iload_n hx hb dX8_in_5 rfl (lv_at hl 0 rfl) ?_
    refine lv_iload_n hx hb dX8_in_6 rfl (lv_at hl 2 rfl) ?_
    refine lv_icmp_gt (tgt := 14) hx hb dX8_in_7 (by decide) (fun c_2 => ?_) (fun c_2 => ?_)
    · refine lv_iconst (v := nI 0) hx hb dX8_in_14 (by decide) ?_
      exact hret (nI 0) 15 ls (by rw [inB, decide_eq_false (fun h => Int32.not_le.mpr c_2 h.2)]; rfl) (rfl) dX8_in_15
    · refine lv_iconst (v := nI 1) hx hb dX8_in_10 (by decide) ?_
      refine lv_goto (tgt := 15) hx hb dX8_in_11 (by decide) ?_
      exact hret (nI 1) 15 ls (by rw [inB, decide_eq_true ⟨c_1, Int32.not_lt.mp c_2⟩]; rfl) (rfl) dX8_in_15
set_option maxHeartbeats 400000 in
set_option maxRecDepth 100000 in
theorem c_X8_has (l : Launch) (g : GG) (x : Int32) (k : Int32) : Met l yX8_has wsX8_has ({ frames := 0, cells := 0, slots := 0, locals := 0 } : Room) (ro g [.int x, .int k] []) (vp_Si (fun rr => rr = bI (hasB x k))) 0 0 (fun _ => False) := by
  refine ro_start (cc := cX8_has) (maxL := 2) (ty := .boolean) (by decide) rfl (Nat.le_of_ble_eq_true rfl) (fun p e s m args below meth c Q C hP hret ls hl => ?_)
  obtain ⟨hx, hb, hml, hr, hown, hts, hlk, hKK⟩ := id C
  have hK := hKK.1
  have hown : s.vm.findClass RX8 = some m.cls := hown
  have ctx : CallFix p m c cX8_has 2 s args wsX8_has RX8 := ⟨hx, hb, hml, hown, hts⟩
  have hl : lv_has ls 2 [(0, .int x), (1, .int k)] := hl
  refine lv_iload_n hx hb dX8_has_0 rfl (lv_at hl 0 rfl) ?_
  refine lv_iload_n hx hb dX8_has_1 rfl (lv_at hl 1 rfl) ?_
  refine lv_ishr hx hb dX8_has_2 ?_
  refine lv_iconst (v := nI 1) hx hb dX8_has_3 (by decide) ?_
  refine lv_iand hx hb dX8_has_4 ?_
  refine lv_iconst (v := nI 1) hx hb dX8_has_5 (by decide) ?_
  refine lv_icmp_ne (tgt := 13) hx hb dX8_has_6 (by decide) (fun c_1 => ?_) (fun c_1 => ?_)
  · refine lv_iconst (v := nI 0) hx hb dX8_has_13 (by decide) ?_
    exact hret (nI 0) 14 ls (by simp [hasB, bI, c_1]) (rfl) dX8_has_14
  · refine lv_iconst (v := nI 1) hx hb dX8_has_9 (by decide) ?_
    refine lv_goto (tgt := 14) hx hb dX8_has_10 (by decide) ?_
    exact hret (nI 1) 14 ls (by simp [hasB, bI, c_1]) (rfl) dX8_has_14
set_option maxHeartbeats 400000 in
set_option maxRecDepth 100000 in
theorem c_X8_bits (l : Launch) (g : GG) (x : Int32) : Met l yX8_bits wsX8_bits ({ frames := 0, cells := 0, slots := 0, locals := 0 } : Room) (ro g [.int x] []) (vp_Si (fun rr => rr = mBits x 8)) 0 0 (fun _ => False) := by
  refine ro_start (cc := cX8_bits) (maxL := 3) (ty := .int) (by decide) rfl (Nat.le_of_ble_eq_true rfl) (fun p e s m args below meth c Q C hP hret ls hl => ?_)
  obtain ⟨hx, hb, hml, hr, hown, hts, hlk, hKK⟩ := id C
  have hK := hKK.1
  have hown : s.vm.findClass RX8 = some m.cls := hown
  have ctx : CallFix p m c cX8_bits 3 s args wsX8_bits RX8 := ⟨hx, hb, hml, hown, hts⟩
  have hl : lv_has ls 3 [(0, .int x)] := hl
  refine lv_iconst (v := nI 0) hx hb dX8_bits_0 (by decide) ?_
  refine lv_istore_n (lv' := [(1, .int (nI 0)), (0, .int x)]) hx hb dX8_bits_1 rfl hl (by decide) rfl (fun ls hl => ?_)
  refine lv_iconst (v := nI 0) hx hb dX8_bits_2 (by decide) ?_
  refine lv_istore_n (lv' := [(2, .int (nI 0)), (1, .int (nI 0)), (0, .int x)]) hx hb dX8_bits_3 rfl hl (by decide) rfl (fun ls hl => ?_)
  have LP4 : ∀ (fu : Nat) (j : Nat) (x1 : Int32), 8 - j < fu → (j ≤ 8) → (x1 = mBits x j) → ∀ (ls : Array Slot), lv_has ls 3 [(2, .int (nI j)), (1, .int x1), (0, .int x)] → W p l e ({ frames := 0, cells := 0, slots := 0, locals := 0 } : Room) s m args below meth c s.heap [] 0 0 Q (F0 m 4 ls []) := by
    intro fu
    induction fu with
    | zero => intro j x1 hfu; exact absurd hfu (Nat.not_lt_zero _)
    | succ fu ih4 =>
      intro j x1 hfu hj e1 ls hl
      refine lv_iload_n hx hb dX8_bits_4 rfl (lv_at hl 0 rfl) ?_
      refine lv_bipush (v := nI 8) hx hb dX8_bits_5 (by decide) ?_
      refine lv_icmp_ge (tgt := 24) hx hb dX8_bits_7 (by decide) (fun c_1 => ?_) (fun c_1 => ?_)
      · replace c_1 : 8 ≤ j := (nI_leI (a := 8) (b := j) (by omega) (by omega)).mp c_1
        refine lv_iload_n hx hb dX8_bits_24 rfl (lv_at hl 1 rfl) ?_
        exact hret x1 25 ls (by rw [e1, show j = 8 by omega]) (rfl) dX8_bits_25
      · replace c_1 : ¬ 8 ≤ j := fun h => c_1 ((nI_leI (a := 8) (b := j) (by omega) (by omega)).mpr h)
        refine lv_iload_n hx hb dX8_bits_10 rfl (lv_at hl 1 rfl) ?_
        refine lv_iload_n hx hb dX8_bits_11 rfl (lv_at hl 2 rfl) ?_
        refine lv_iload_n hx hb dX8_bits_12 rfl (lv_at hl 0 rfl) ?_
        refine lv_ishr hx hb dX8_bits_13 ?_
        refine lv_iconst (v := nI 1) hx hb dX8_bits_14 (by decide) ?_
        refine lv_iand hx hb dX8_bits_15 ?_
        refine lv_iadd hx hb dX8_bits_16 ?_
        refine lv_istore_n (lv' := [(1, .int (x1 + ((x >>> ((nI j) &&& 31)) &&& (nI 1)))), (2, .int (nI j)), (0, .int x)]) hx hb dX8_bits_17 rfl hl (by decide) rfl (fun ls hl => ?_)
        refine lv_iinc (v := nI (j + 1)) (lv' := [(2, .int (nI (j + 1))), (1, .int (x1 + ((x >>> ((nI j) &&& 31)) &&& (nI 1)))), (0, .int x)]) hx hb dX8_bits_18 hl (k := 1) rfl (iincK j 1) (by decide) rfl (fun ls hl => ?_)
        refine lv_goto (tgt := 4) hx hb dX8_bits_21 (by decide) ?_
        exact ih4 (j + 1) (x1 + ((x >>> ((nI j) &&& 31)) &&& (nI 1))) (by omega) (by omega) (by rw [mBits, ← e1]) ls (lv_sub hl [0, 1, 2] rfl)
  exact LP4 9 0 (nI 0) (by omega) (by omega) (rfl) ls (lv_sub hl [0, 1, 2] rfl)
set_option maxHeartbeats 400000 in
set_option maxRecDepth 100000 in
theorem c_X8_isFigure (l : Launch) (g : GG) (v : Int32) : Met l yX8_isFigure wsX8_isFigure ({ frames := 1, cells := 0, slots := 0, locals := 22 } : Room) (ro g [.int v] []) (vp_Si (fun rr => rr = bI (inB v (nI 48) (nI 57)))) 0 0 (fun _ => False) := by
  refine ro_start (cc := cX8_isFigure) (maxL := 1) (ty := .boolean) (by decide) rfl (Nat.le_of_ble_eq_true rfl) (fun p e s m args below meth c Q C hP hret ls hl => ?_)
  obtain ⟨hx, hb, hml, hr, hown, hts, hlk, hKK⟩ := id C
  have hK := hKK.1
  have hown : s.vm.findClass RX8 = some m.cls := hown
  have ctx : CallFix p m c cX8_isFigure 1 s args wsX8_isFigure RX8 := ⟨hx, hb, hml, hown, hts⟩
  have hl : lv_has ls 1 [(0, .int v)] := hl
  refine lv_iload_n hx hb dX8_isFigure_0 rfl (lv_at hl 0 rfl) ?_
  refine lv_bipush (v := nI 48) hx hb dX8_isFigure_1 (by decide) ?_
  refine lv_bipush (v := nI 57) hx hb dX8_isFigure_3 (by decide) ?_
  refine ro_callS (As := [.int v, .int (nI 48), .int (nI 57)]) (rest := []) ctx hKK hP (c_X8_in l g v (nI 48) (nI 57)) gX8_isFigure_X8_in rfl rfl rfl hdX8_in ⟨Nat.le_of_ble_eq_true rfl, Nat.le_of_ble_eq_true rfl⟩ [] rfl hl.1 rfl rfl (Nat.le_of_ble_eq_true rfl) dX8_isFigure_5 (fun r_1 hr_1 => ?_)
  subst hr_1
  exact hret (bI (inB v (nI 48) (nI 57))) 8 ls (rfl) (bI_nar _) dX8_isFigure_8
set_option maxHeartbeats 400000 in
set_option maxRecDepth 100000 in
theorem c_X8_copies_8_8_8w (l : Launch) (g : GG) (to : Nat) (of_ : Nat) (ft : Nat → Int32) (ff_ : Nat → Int32) : Met l yX8_copies wsX8_copies ({ frames := 0, cells := 0, slots := 0, locals := 0 } : Room) (wr g [.ref to, .int (nI 0), .ref of_, .int (nI 0), .int (nI 8)] [(to, .inl (g.2.1, 8, .inl ft)), (of_, .inl (g.2.1, 8, .inl ff_))]) (wQv g [(to, .inl (g.2.1, 8, .inl ft)), (of_, .inl (g.2.1, 8, .inl ff_))] (fun u : Unit => [(to, .inl (g.2.1, 8, .inl ff_)), (of_, .inl (g.2.1, 8, .inl ff_))]) (fun u => True)) 0 0 (cA [(to, .inl (g.2.1, 8, .inl ft)), (of_, .inl (g.2.1, 8, .inl ff_))]) := by
  refine wr_startv (cc := cX8_copies) (maxL := 6) (by decide) rfl (Nat.le_of_ble_eq_true rfl) (fun p e s m args below meth c Q A C hP hD hS hret ls hl => ?_)
  obtain ⟨hx, hb, hml, hr, hown, hts, hlk, hKK⟩ := id C
  have hK := hKK.1
  have hown : s.vm.findClass RX8 = some m.cls := hown
  have ctx : CallFix p m c cX8_copies 6 s args wsX8_copies RX8 := ⟨hx, hb, hml, hown, hts⟩
  have hl : lv_has ls 6 [(0, .ref to), (1, .int (nI 0)), (2, .ref of_), (3, .int (nI 0)), (4, .int (nI 8))] := hl
  obtain ⟨H, hHe⟩ : ∃ H, H = s.heap := ⟨_, rfl⟩
  obtain ⟨locs, hLe⟩ : ∃ L : List Loc, L = [] := ⟨_, rfl⟩
  have hP : va_P g.1 vwCl [(to, .inl (g.2.1, 8, .inl ft)), (of_, .inl (g.2.1, 8, .inl ff_))] H := by rw [hHe]; exact hP
  have hS : va_S A s.heap H locs := by rw [hHe, hLe]; exact hS
  suffices hgo : W p l e ({ frames := 0, cells := 0, slots := 0, locals := 0 } : Room) s m args below meth c H locs 0 0 Q (F0 m 0 ls []) by rw [hHe, hLe] at hgo; exact hgo
  clear hHe hLe
  refine lv_iconst (v := nI 0) hx hb dX8_copies_0 (by decide) ?_
  refine lv_istore (lv' := [(5, .int (nI 0)), (0, .ref to), (1, .int (nI 0)), (2, .ref of_), (3, .int (nI 0)), (4, .int (nI 8))]) hx hb dX8_copies_1 hl (by decide) rfl (fun ls hl => ?_)
  have LP3 : ∀ (fu : Nat) (j : Nat) (f : Nat → Int32), 8 - j < fu → (j ≤ 8) → (f = cpL ft ff_ 0 0 j) → ∀ (H : Heap) (locs : List Loc), va_P g.1 vwCl [(to, .inl (g.2.1, 8, .inl f)), (of_, .inl (g.2.1, 8, .inl ff_))] H → va_D A [(to, .inl (g.2.1, 8, .inl f)), (of_, .inl (g.2.1, 8, .inl ff_))] → va_S A s.heap H locs → ∀ (ls : Array Slot), lv_has ls 6 [(5, .int (nI j)), (0, .ref to), (1, .int (nI 0)), (2, .ref of_), (3, .int (nI 0)), (4, .int (nI 8))] → W p l e ({ frames := 0, cells := 0, slots := 0, locals := 0 } : Room) s m args below meth c H locs 0 0 Q (F0 m 3 ls []) := by
    intro fu
    induction fu with
    | zero => intro j f hfu; exact absurd hfu (Nat.not_lt_zero _)
    | succ fu ih3 =>
      intro j f hfu hj ef H locs hP hD hS ls hl
      refine lv_iload hx hb dX8_copies_3 (lv_at hl 0 rfl) ?_
      refine lv_iload hx hb dX8_copies_5 (lv_at hl 5 rfl) ?_
      refine lv_icmp_ge (tgt := 28) hx hb dX8_copies_7 (by decide) (fun c_1 => ?_) (fun c_1 => ?_)
      · replace c_1 : 8 ≤ j := (nI_leI (a := 8) (b := j) (by omega) (by omega)).mp c_1
        rw [show j = 8 by omega] at ef
        subst ef
        have hP : va_P g.1 vwCl [(to, .inl (g.2.1, 8, .inl (cpL ft ff_ 0 0 8))), (of_, .inl (g.2.1, 8, .inl ff_))] H := hP
        have hD : va_D A [(to, .inl (g.2.1, 8, .inl (cpL ft ff_ 0 0 8))), (of_, .inl (g.2.1, 8, .inl ff_))] := hD
        replace hP := P_at (f := cpL ft ff_ 0 0 8) hP 0 rfl ff_ (fun k hk => cpL_0 ft ff_ 8 k hk)
        replace hD := D_at hD 0 rfl (.inl (g.2.1, 8, .inl ff_))
        have hP : va_P g.1 vwCl [(to, .inl (g.2.1, 8, .inl ff_)), (of_, .inl (g.2.1, 8, .inl ff_))] H := hP
        have hD : va_D A [(to, .inl (g.2.1, 8, .inl ff_)), (of_, .inl (g.2.1, 8, .inl ff_))] := hD
        exact hret () H locs 28 ls (trivial) (hP) (hD) hS dX8_copies_28
      · replace c_1 : ¬ 8 ≤ j := fun h => c_1 ((nI_leI (a := 8) (b := j) (by omega) (by omega)).mpr h)
        refine lv_aload_n hx hb dX8_copies_10 rfl (lv_at hl 1 rfl) ?_
        refine lv_iload_n hx hb dX8_copies_11 rfl (lv_at hl 2 rfl) ?_
        refine lv_iload hx hb dX8_copies_12 (lv_at hl 0 rfl) ?_
        refine lv_iadd hx hb dX8_copies_14 ?_
        refine lv_is (nI_add 0 j) ?_
        refine lv_aload_n hx hb dX8_copies_15 rfl (lv_at hl 3 rfl) ?_
        refine lv_iload_n hx hb dX8_copies_16 rfl (lv_at hl 4 rfl) ?_
        refine lv_iload hx hb dX8_copies_17 (lv_at hl 0 rfl) ?_
        refine lv_iadd hx hb dX8_copies_19 ?_
        refine lv_is (nI_add 0 j) ?_
        refine ald_i (D := g.1) (cl := vwCl) (f := ff_) (i := 0 + j) (n := 8) hx hb hK hP 1 0 rfl rfl (by omega) (by decide) dX8_copies_20 ?_
        refine ast_i (D := g.1) (cl := vwCl) (f := f) (i := 0 + j) (n := 8) (x := ff_ (0 + j)) hx hb hK hP hD hS 0 0 rfl rfl (by omega) (by decide) dX8_copies_21 (fun H locs hP hD hS => ?_)
        have hP : va_P g.1 vwCl [(to, .inl (g.2.1, 8, .inl (upd f (0 + j) (ff_ (0 + j))))), (of_, .inl (g.2.1, 8, .inl ff_))] H := hP
        have hD : va_D A [(to, .inl (g.2.1, 8, .inl (upd f (0 + j) (ff_ (0 + j))))), (of_, .inl (g.2.1, 8, .inl ff_))] := hD
        refine lv_iinc (v := nI (j + 1)) (lv' := [(5, .int (nI (j + 1))), (0, .ref to), (1, .int (nI 0)), (2, .ref of_), (3, .int (nI 0)), (4, .int (nI 8))]) hx hb dX8_copies_22 hl (k := 0) rfl (iincK j 1) (by decide) rfl (fun ls hl => ?_)
        refine lv_goto (tgt := 3) hx hb dX8_copies_25 (by decide) ?_
        exact ih3 (j + 1) (upd f (0 + j) (ff_ (0 + j))) (by omega) (by omega) (by rw [cpL, ← ef]) _ _ hP hD hS ls (lv_sub hl [0, 1, 2, 3, 4, 5] rfl)
  exact LP3 9 0 ft (by omega) (by omega) (rfl) _ _ hP hD hS ls (lv_sub hl [0, 1, 2, 3, 4, 5] rfl)
set_option maxHeartbeats 400000 in
set_option maxRecDepth 100000 in
theorem c_X8_copies_5_5_5w (l : Launch) (g : GG) (to : Nat) (of_ : Nat) (ft : Nat → Int32) (ff_ : Nat → Int32) : Met l yX8_copies wsX8_copies ({ frames := 0, cells := 0, slots := 0, locals := 0 } : Room) (wr g [.ref to, .int (nI 0), .ref of_, .int (nI 0), .int (nI 5)] [(to, .inl (g.2.1, 5, .inl ft)), (of_, .inl (g.2.1, 5, .inl ff_))]) (wQv g [(to, .inl (g.2.1, 5, .inl ft)), (of_, .inl (g.2.1, 5, .inl ff_))] (fun u : Unit => [(to, .inl (g.2.1, 5, .inl ff_)), (of_, .inl (g.2.1, 5, .inl ff_))]) (fun u => True)) 0 0 (cA [(to, .inl (g.2.1, 5, .inl ft)), (of_, .inl (g.2.1, 5, .inl ff_))]) := by
  refine wr_startv (cc := cX8_copies) (maxL := 6) (by decide) rfl (Nat.le_of_ble_eq_true rfl) (fun p e s m args below meth c Q A C hP hD hS hret ls hl => ?_)
  obtain ⟨hx, hb, hml, hr, hown, hts, hlk, hKK⟩ := id C
  have hK := hKK.1
  have hown : s.vm.findClass RX8 = some m.cls := hown
  have ctx : CallFix p m c cX8_copies 6 s args wsX8_copies RX8 := ⟨hx, hb, hml, hown, hts⟩
  have hl : lv_has ls 6 [(0, .ref to), (1, .int (nI 0)), (2, .ref of_), (3, .int (nI 0)), (4, .int (nI 5))] := hl
  obtain ⟨H, hHe⟩ : ∃ H, H = s.heap := ⟨_, rfl⟩
  obtain ⟨locs, hLe⟩ : ∃ L : List Loc, L = [] := ⟨_, rfl⟩
  have hP : va_P g.1 vwCl [(to, .inl (g.2.1, 5, .inl ft)), (of_, .inl (g.2.1, 5, .inl ff_))] H := by rw [hHe]; exact hP
  have hS : va_S A s.heap H locs := by rw [hHe, hLe]; exact hS
  suffices hgo : W p l e ({ frames := 0, cells := 0, slots := 0, locals := 0 } : Room) s m args below meth c H locs 0 0 Q (F0 m 0 ls []) by rw [hHe, hLe] at hgo; exact hgo
  clear hHe hLe
  refine lv_iconst (v := nI 0) hx hb dX8_copies_0 (by decide) ?_
  refine lv_istore (lv' := [(5, .int (nI 0)), (0, .ref to), (1, .int (nI 0)), (2, .ref of_), (3, .int (nI 0)), (4, .int (nI 5))]) hx hb dX8_copies_1 hl (by decide) rfl (fun ls hl => ?_)
  have LP3 : ∀ (fu : Nat) (j : Nat) (f : Nat → Int32), 5 - j < fu → (j ≤ 5) → (f = cpL ft ff_ 0 0 j) → ∀ (H : Heap) (locs : List Loc), va_P g.1 vwCl [(to, .inl (g.2.1, 5, .inl f)), (of_, .inl (g.2.1, 5, .inl ff_))] H → va_D A [(to, .inl (g.2.1, 5, .inl f)), (of_, .inl (g.2.1, 5, .inl ff_))] → va_S A s.heap H locs → ∀ (ls : Array Slot), lv_has ls 6 [(5, .int (nI j)), (0, .ref to), (1, .int (nI 0)), (2, .ref of_), (3, .int (nI 0)), (4, .int (nI 5))] → W p l e ({ frames := 0, cells := 0, slots := 0, locals := 0 } : Room) s m args below meth c H locs 0 0 Q (F0 m 3 ls []) := by
    intro fu
    induction fu with
    | zero => intro j f hfu; exact absurd hfu (Nat.not_lt_zero _)
    | succ fu ih3 =>
      intro j f hfu hj ef H locs hP hD hS ls hl
      refine lv_iload hx hb dX8_copies_3 (lv_at hl 0 rfl) ?_
      refine lv_iload hx hb dX8_copies_5 (lv_at hl 5 rfl) ?_
      refine lv_icmp_ge (tgt := 28) hx hb dX8_copies_7 (by decide) (fun c_1 => ?_) (fun c_1 => ?_)
      · replace c_1 : 5 ≤ j := (nI_leI (a := 5) (b := j) (by omega) (by omega)).mp c_1
        rw [show j = 5 by omega] at ef
        subst ef
        have hP : va_P g.1 vwCl [(to, .inl (g.2.1, 5, .inl (cpL ft ff_ 0 0 5))), (of_, .inl (g.2.1, 5, .inl ff_))] H := hP
        have hD : va_D A [(to, .inl (g.2.1, 5, .inl (cpL ft ff_ 0 0 5))), (of_, .inl (g.2.1, 5, .inl ff_))] := hD
        replace hP := P_at (f := cpL ft ff_ 0 0 5) hP 0 rfl ff_ (fun k hk => cpL_0 ft ff_ 5 k hk)
        replace hD := D_at hD 0 rfl (.inl (g.2.1, 5, .inl ff_))
        have hP : va_P g.1 vwCl [(to, .inl (g.2.1, 5, .inl ff_)), (of_, .inl (g.2.1, 5, .inl ff_))] H := hP
        have hD : va_D A [(to, .inl (g.2.1, 5, .inl ff_)), (of_, .inl (g.2.1, 5, .inl ff_))] := hD
        exact hret () H locs 28 ls (trivial) (hP) (hD) hS dX8_copies_28
      · replace c_1 : ¬ 5 ≤ j := fun h => c_1 ((nI_leI (a := 5) (b := j) (by omega) (by omega)).mpr h)
        refine lv_aload_n hx hb dX8_copies_10 rfl (lv_at hl 1 rfl) ?_
        refine lv_iload_n hx hb dX8_copies_11 rfl (lv_at hl 2 rfl) ?_
        refine lv_iload hx hb dX8_copies_12 (lv_at hl 0 rfl) ?_
        refine lv_iadd hx hb dX8_copies_14 ?_
        refine lv_is (nI_add 0 j) ?_
        refine lv_aload_n hx hb dX8_copies_15 rfl (lv_at hl 3 rfl) ?_
        refine lv_iload_n hx hb dX8_copies_16 rfl (lv_at hl 4 rfl) ?_
        refine lv_iload hx hb dX8_copies_17 (lv_at hl 0 rfl) ?_
        refine lv_iadd hx hb dX8_copies_19 ?_
        refine lv_is (nI_add 0 j) ?_
        refine ald_i (D := g.1) (cl := vwCl) (f := ff_) (i := 0 + j) (n := 5) hx hb hK hP 1 0 rfl rfl (by omega) (by decide) dX8_copies_20 ?_
        refine ast_i (D := g.1) (cl := vwCl) (f := f) (i := 0 + j) (n := 5) (x := ff_ (0 + j)) hx hb hK hP hD hS 0 0 rfl rfl (by omega) (by decide) dX8_copies_21 (fun H locs hP hD hS => ?_)
        have hP : va_P g.1 vwCl [(to, .inl (g.2.1, 5, .inl (upd f (0 + j) (ff_ (0 + j))))), (of_, .inl (g.2.1, 5, .inl ff_))] H := hP
        have hD : va_D A [(to, .inl (g.2.1, 5, .inl (upd f (0 + j) (ff_ (0 + j))))), (of_, .inl (g.2.1, 5, .inl ff_))] := hD
        refine lv_iinc (v := nI (j + 1)) (lv' := [(5, .int (nI (j + 1))), (0, .ref to), (1, .int (nI 0)), (2, .ref of_), (3, .int (nI 0)), (4, .int (nI 5))]) hx hb dX8_copies_22 hl (k := 0) rfl (iincK j 1) (by decide) rfl (fun ls hl => ?_)
        refine lv_goto (tgt := 3) hx hb dX8_copies_25 (by decide) ?_
        exact ih3 (j + 1) (upd f (0 + j) (ff_ (0 + j))) (by omega) (by omega) (by rw [cpL, ← ef]) _ _ hP hD hS ls (lv_sub hl [0, 1, 2, 3, 4, 5] rfl)
  exact LP3 6 0 ft (by omega) (by omega) (rfl) _ _ hP hD hS ls (lv_sub hl [0, 1, 2, 3, 4, 5] rfl)
set_option maxHeartbeats 400000 in
set_option maxRecDepth 100000 in
theorem c_X8_copies_6_6_6w (l : Launch) (g : GG) (to : Nat) (of_ : Nat) (ft : Nat → Int32) (ff_ : Nat → Int32) : Met l yX8_copies wsX8_copies ({ frames := 0, cells := 0, slots := 0, locals := 0 } : Room) (wr g [.ref to, .int (nI 0), .ref of_, .int (nI 0), .int (nI 6)] [(to, .inl (g.2.1, 6, .inl ft)), (of_, .inl (g.2.1, 6, .inl ff_))]) (wQv g [(to, .inl (g.2.1, 6, .inl ft)), (of_, .inl (g.2.1, 6, .inl ff_))] (fun u : Unit => [(to, .inl (g.2.1, 6, .inl ff_)), (of_, .inl (g.2.1, 6, .inl ff_))]) (fun u => True)) 0 0 (cA [(to, .inl (g.2.1, 6, .inl ft)), (of_, .inl (g.2.1, 6, .inl ff_))]) := by
  refine wr_startv (cc := cX8_copies) (maxL := 6) (by decide) rfl (Nat.le_of_ble_eq_true rfl) (fun p e s m args below meth c Q A C hP hD hS hret ls hl => ?_)
  obtain ⟨hx, hb, hml, hr, hown, hts, hlk, hKK⟩ := id C
  have hK := hKK.1
  have hown : s.vm.findClass RX8 = some m.cls := hown
  have ctx : CallFix p m c cX8_copies 6 s args wsX8_copies RX8 := ⟨hx, hb, hml, hown, hts⟩
  have hl : lv_has ls 6 [(0, .ref to), (1, .int (nI 0)), (2, .ref of_), (3, .int (nI 0)), (4, .int (nI 6))] := hl
  obtain ⟨H, hHe⟩ : ∃ H, H = s.heap := ⟨_, rfl⟩
  obtain ⟨locs, hLe⟩ : ∃ L : List Loc, L = [] := ⟨_, rfl⟩
  have hP : va_P g.1 vwCl [(to, .inl (g.2.1, 6, .inl ft)), (of_, .inl (g.2.1, 6, .inl ff_))] H := by rw [hHe]; exact hP
  have hS : va_S A s.heap H locs := by rw [hHe, hLe]; exact hS
  suffices hgo : W p l e ({ frames := 0, cells := 0, slots := 0, locals := 0 } : Room) s m args below meth c H locs 0 0 Q (F0 m 0 ls []) by rw [hHe, hLe] at hgo; exact hgo
  clear hHe hLe
  refine lv_iconst (v := nI 0) hx hb dX8_copies_0 (by decide) ?_
  refine lv_istore (lv' := [(5, .int (nI 0)), (0, .ref to), (1, .int (nI 0)), (2, .ref of_), (3, .int (nI 0)), (4, .int (nI 6))]) hx hb dX8_copies_1 hl (by decide) rfl (fun ls hl => ?_)
  have LP3 : ∀ (fu : Nat) (j : Nat) (f : Nat → Int32), 6 - j < fu → (j ≤ 6) → (f = cpL ft ff_ 0 0 j) → ∀ (H : Heap) (locs : List Loc), va_P g.1 vwCl [(to, .inl (g.2.1, 6, .inl f)), (of_, .inl (g.2.1, 6, .inl ff_))] H → va_D A [(to, .inl (g.2.1, 6, .inl f)), (of_, .inl (g.2.1, 6, .inl ff_))] → va_S A s.heap H locs → ∀ (ls : Array Slot), lv_has ls 6 [(5, .int (nI j)), (0, .ref to), (1, .int (nI 0)), (2, .ref of_), (3, .int (nI 0)), (4, .int (nI 6))] → W p l e ({ frames := 0, cells := 0, slots := 0, locals := 0 } : Room) s m args below meth c H locs 0 0 Q (F0 m 3 ls []) := by
    intro fu
    induction fu with
    | zero => intro j f hfu; exact absurd hfu (Nat.not_lt_zero _)
    | succ fu ih3 =>
      intro j f hfu hj ef H locs hP hD hS ls hl
      refine lv_iload hx hb dX8_copies_3 (lv_at hl 0 rfl) ?_
      refine lv_iload hx hb dX8_copies_5 (lv_at hl 5 rfl) ?_
      refine lv_icmp_ge (tgt := 28) hx hb dX8_copies_7 (by decide) (fun c_1 => ?_) (fun c_1 => ?_)
      · replace c_1 : 6 ≤ j := (nI_leI (a := 6) (b := j) (by omega) (by omega)).mp c_1
        rw [show j = 6 by omega] at ef
        subst ef
        have hP : va_P g.1 vwCl [(to, .inl (g.2.1, 6, .inl (cpL ft ff_ 0 0 6))), (of_, .inl (g.2.1, 6, .inl ff_))] H := hP
        have hD : va_D A [(to, .inl (g.2.1, 6, .inl (cpL ft ff_ 0 0 6))), (of_, .inl (g.2.1, 6, .inl ff_))] := hD
        replace hP := P_at (f := cpL ft ff_ 0 0 6) hP 0 rfl ff_ (fun k hk => cpL_0 ft ff_ 6 k hk)
        replace hD := D_at hD 0 rfl (.inl (g.2.1, 6, .inl ff_))
        have hP : va_P g.1 vwCl [(to, .inl (g.2.1, 6, .inl ff_)), (of_, .inl (g.2.1, 6, .inl ff_))] H := hP
        have hD : va_D A [(to, .inl (g.2.1, 6, .inl ff_)), (of_, .inl (g.2.1, 6, .inl ff_))] := hD
        exact hret () H locs 28 ls (trivial) (hP) (hD) hS dX8_copies_28
      · replace c_1 : ¬ 6 ≤ j := fun h => c_1 ((nI_leI (a := 6) (b := j) (by omega) (by omega)).mpr h)
        refine lv_aload_n hx hb dX8_copies_10 rfl (lv_at hl 1 rfl) ?_
        refine lv_iload_n hx hb dX8_copies_11 rfl (lv_at hl 2 rfl) ?_
        refine lv_iload hx hb dX8_copies_12 (lv_at hl 0 rfl) ?_
        refine lv_iadd hx hb dX8_copies_14 ?_
        refine lv_is (nI_add 0 j) ?_
        refine lv_aload_n hx hb dX8_copies_15 rfl (lv_at hl 3 rfl) ?_
        refine lv_iload_n hx hb dX8_copies_16 rfl (lv_at hl 4 rfl) ?_
        refine lv_iload hx hb dX8_copies_17 (lv_at hl 0 rfl) ?_
        refine lv_iadd hx hb dX8_copies_19 ?_
        refine lv_is (nI_add 0 j) ?_
        refine ald_i (D := g.1) (cl := vwCl) (f := ff_) (i := 0 + j) (n := 6) hx hb hK hP 1 0 rfl rfl (by omega) (by decide) dX8_copies_20 ?_
        refine ast_i (D := g.1) (cl := vwCl) (f := f) (i := 0 + j) (n := 6) (x := ff_ (0 + j)) hx hb hK hP hD hS 0 0 rfl rfl (by omega) (by decide) dX8_copies_21 (fun H locs hP hD hS => ?_)
        have hP : va_P g.1 vwCl [(to, .inl (g.2.1, 6, .inl (upd f (0 + j) (ff_ (0 + j))))), (of_, .inl (g.2.1, 6, .inl ff_))] H := hP
        have hD : va_D A [(to, .inl (g.2.1, 6, .inl (upd f (0 + j) (ff_ (0 + j))))), (of_, .inl (g.2.1, 6, .inl ff_))] := hD
        refine lv_iinc (v := nI (j + 1)) (lv' := [(5, .int (nI (j + 1))), (0, .ref to), (1, .int (nI 0)), (2, .ref of_), (3, .int (nI 0)), (4, .int (nI 6))]) hx hb dX8_copies_22 hl (k := 0) rfl (iincK j 1) (by decide) rfl (fun ls hl => ?_)
        refine lv_goto (tgt := 3) hx hb dX8_copies_25 (by decide) ?_
        exact ih3 (j + 1) (upd f (0 + j) (ff_ (0 + j))) (by omega) (by omega) (by rw [cpL, ← ef]) _ _ hP hD hS ls (lv_sub hl [0, 1, 2, 3, 4, 5] rfl)
  exact LP3 7 0 ft (by omega) (by omega) (rfl) _ _ hP hD hS ls (lv_sub hl [0, 1, 2, 3, 4, 5] rfl)
set_option maxHeartbeats 400000 in
set_option maxRecDepth 100000 in
theorem c_X8_copies_115_115_115w (l : Launch) (g : GG) (to : Nat) (of_ : Nat) (ft : Nat → Int32) (ff_ : Nat → Int32) : Met l yX8_copies wsX8_copies ({ frames := 0, cells := 0, slots := 0, locals := 0 } : Room) (wr g [.ref to, .int (nI 0), .ref of_, .int (nI 0), .int (nI 115)] [(to, .inl (g.2.1, 115, .inl ft)), (of_, .inl (g.2.1, 115, .inl ff_))]) (wQv g [(to, .inl (g.2.1, 115, .inl ft)), (of_, .inl (g.2.1, 115, .inl ff_))] (fun u : Unit => [(to, .inl (g.2.1, 115, .inl ff_)), (of_, .inl (g.2.1, 115, .inl ff_))]) (fun u => True)) 0 0 (cA [(to, .inl (g.2.1, 115, .inl ft)), (of_, .inl (g.2.1, 115, .inl ff_))]) := by
  refine wr_startv (cc := cX8_copies) (maxL := 6) (by decide) rfl (Nat.le_of_ble_eq_true rfl) (fun p e s m args below meth c Q A C hP hD hS hret ls hl => ?_)
  obtain ⟨hx, hb, hml, hr, hown, hts, hlk, hKK⟩ := id C
  have hK := hKK.1
  have hown : s.vm.findClass RX8 = some m.cls := hown
  have ctx : CallFix p m c cX8_copies 6 s args wsX8_copies RX8 := ⟨hx, hb, hml, hown, hts⟩
  have hl : lv_has ls 6 [(0, .ref to), (1, .int (nI 0)), (2, .ref of_), (3, .int (nI 0)), (4, .int (nI 115))] := hl
  obtain ⟨H, hHe⟩ : ∃ H, H = s.heap := ⟨_, rfl⟩
  obtain ⟨locs, hLe⟩ : ∃ L : List Loc, L = [] := ⟨_, rfl⟩
  have hP : va_P g.1 vwCl [(to, .inl (g.2.1, 115, .inl ft)), (of_, .inl (g.2.1, 115, .inl ff_))] H := by rw [hHe]; exact hP
  have hS : va_S A s.heap H locs := by rw [hHe, hLe]; exact hS
  suffices hgo : W p l e ({ frames := 0, cells := 0, slots := 0, locals := 0 } : Room) s m args below meth c H locs 0 0 Q (F0 m 0 ls []) by rw [hHe, hLe] at hgo; exact hgo
  clear hHe hLe
  refine lv_iconst (v := nI 0) hx hb dX8_copies_0 (by decide) ?_
  refine lv_istore (lv' := [(5, .int (nI 0)), (0, .ref to), (1, .int (nI 0)), (2, .ref of_), (3, .int (nI 0)), (4, .int (nI 115))]) hx hb dX8_copies_1 hl (by decide) rfl (fun ls hl => ?_)
  have LP3 : ∀ (fu : Nat) (j : Nat) (f : Nat → Int32), 115 - j < fu → (j ≤ 115) → (f = cpL ft ff_ 0 0 j) → ∀ (H : Heap) (locs : List Loc), va_P g.1 vwCl [(to, .inl (g.2.1, 115, .inl f)), (of_, .inl (g.2.1, 115, .inl ff_))] H → va_D A [(to, .inl (g.2.1, 115, .inl f)), (of_, .inl (g.2.1, 115, .inl ff_))] → va_S A s.heap H locs → ∀ (ls : Array Slot), lv_has ls 6 [(5, .int (nI j)), (0, .ref to), (1, .int (nI 0)), (2, .ref of_), (3, .int (nI 0)), (4, .int (nI 115))] → W p l e ({ frames := 0, cells := 0, slots := 0, locals := 0 } : Room) s m args below meth c H locs 0 0 Q (F0 m 3 ls []) := by
    intro fu
    induction fu with
    | zero => intro j f hfu; exact absurd hfu (Nat.not_lt_zero _)
    | succ fu ih3 =>
      intro j f hfu hj ef H locs hP hD hS ls hl
      refine lv_iload hx hb dX8_copies_3 (lv_at hl 0 rfl) ?_
      refine lv_iload hx hb dX8_copies_5 (lv_at hl 5 rfl) ?_
      refine lv_icmp_ge (tgt := 28) hx hb dX8_copies_7 (by decide) (fun c_1 => ?_) (fun c_1 => ?_)
      · replace c_1 : 115 ≤ j := (nI_leI (a := 115) (b := j) (by omega) (by omega)).mp c_1
        rw [show j = 115 by omega] at ef
        subst ef
        have hP : va_P g.1 vwCl [(to, .inl (g.2.1, 115, .inl (cpL ft ff_ 0 0 115))), (of_, .inl (g.2.1, 115, .inl ff_))] H := hP
        have hD : va_D A [(to, .inl (g.2.1, 115, .inl (cpL ft ff_ 0 0 115))), (of_, .inl (g.2.1, 115, .inl ff_))] := hD
        replace hP := P_at (f := cpL ft ff_ 0 0 115) hP 0 rfl ff_ (fun k hk => cpL_0 ft ff_ 115 k hk)
        replace hD := D_at hD 0 rfl (.inl (g.2.1, 115, .inl ff_))
        have hP : va_P g.1 vwCl [(to, .inl (g.2.1, 115, .inl ff_)), (of_, .inl (g.2.1, 115, .inl ff_))] H := hP
        have hD : va_D A [(to, .inl (g.2.1, 115, .inl ff_)), (of_, .inl (g.2.1, 115, .inl ff_))] := hD
        exact hret () H locs 28 ls (trivial) (hP) (hD) hS dX8_copies_28
      · replace c_1 : ¬ 115 ≤ j := fun h => c_1 ((nI_leI (a := 115) (b := j) (by omega) (by omega)).mpr h)
        refine lv_aload_n hx hb dX8_copies_10 rfl (lv_at hl 1 rfl) ?_
        refine lv_iload_n hx hb dX8_copies_11 rfl (lv_at hl 2 rfl) ?_
        refine lv_iload hx hb dX8_copies_12 (lv_at hl 0 rfl) ?_
        refine lv_iadd hx hb dX8_copies_14 ?_
        refine lv_is (nI_add 0 j) ?_
        refine lv_aload_n hx hb dX8_copies_15 rfl (lv_at hl 3 rfl) ?_
        refine lv_iload_n hx hb dX8_copies_16 rfl (lv_at hl 4 rfl) ?_
        refine lv_iload hx hb dX8_copies_17 (lv_at hl 0 rfl) ?_
        refine lv_iadd hx hb dX8_copies_19 ?_
        refine lv_is (nI_add 0 j) ?_
        refine ald_i (D := g.1) (cl := vwCl) (f := ff_) (i := 0 + j) (n := 115) hx hb hK hP 1 0 rfl rfl (by omega) (by decide) dX8_copies_20 ?_
        refine ast_i (D := g.1) (cl := vwCl) (f := f) (i := 0 + j) (n := 115) (x := ff_ (0 + j)) hx hb hK hP hD hS 0 0 rfl rfl (by omega) (by decide) dX8_copies_21 (fun H locs hP hD hS => ?_)
        have hP : va_P g.1 vwCl [(to, .inl (g.2.1, 115, .inl (upd f (0 + j) (ff_ (0 + j))))), (of_, .inl (g.2.1, 115, .inl ff_))] H := hP
        have hD : va_D A [(to, .inl (g.2.1, 115, .inl (upd f (0 + j) (ff_ (0 + j))))), (of_, .inl (g.2.1, 115, .inl ff_))] := hD
        refine lv_iinc (v := nI (j + 1)) (lv' := [(5, .int (nI (j + 1))), (0, .ref to), (1, .int (nI 0)), (2, .ref of_), (3, .int (nI 0)), (4, .int (nI 115))]) hx hb dX8_copies_22 hl (k := 0) rfl (iincK j 1) (by decide) rfl (fun ls hl => ?_)
        refine lv_goto (tgt := 3) hx hb dX8_copies_25 (by decide) ?_
        exact ih3 (j + 1) (upd f (0 + j) (ff_ (0 + j))) (by omega) (by omega) (by rw [cpL, ← ef]) _ _ hP hD hS ls (lv_sub hl [0, 1, 2, 3, 4, 5] rfl)
  exact LP3 116 0 ft (by omega) (by omega) (rfl) _ _ hP hD hS ls (lv_sub hl [0, 1, 2, 3, 4, 5] rfl)
set_option maxHeartbeats 400000 in
set_option maxRecDepth 100000 in
theorem c_X8_copies_920_115_115 (l : Launch) (g : GG) (to : Nat) (of_ : Nat) (ft : Nat → Int32) (ff_ : Nat → Int32) (ta : Nat) (fa : Nat) (ht : ta + 115 ≤ 920) (hf : fa + 115 ≤ 115) : Met l yX8_copies wsX8_copies ({ frames := 0, cells := 0, slots := 0, locals := 0 } : Room) (wr g [.ref to, .int (nI ta), .ref of_, .int (nI fa), .int (nI 115)] [(to, .inl (g.2.1, 920, .inl ft)), (of_, .inl (g.2.1, 115, .inl ff_))]) (wQv g [(to, .inl (g.2.1, 920, .inl ft)), (of_, .inl (g.2.1, 115, .inl ff_))] (fun u : Unit => [(to, .inl (g.2.1, 920, .inl (cpL ft ff_ ta fa 115))), (of_, .inl (g.2.1, 115, .inl ff_))]) (fun u => True)) 0 0 (cA [(to, .inl (g.2.1, 920, .inl ft)), (of_, .inl (g.2.1, 115, .inl ff_))]) := by
  refine wr_startv (cc := cX8_copies) (maxL := 6) (by decide) rfl (Nat.le_of_ble_eq_true rfl) (fun p e s m args below meth c Q A C hP hD hS hret ls hl => ?_)
  obtain ⟨hx, hb, hml, hr, hown, hts, hlk, hKK⟩ := id C
  have hK := hKK.1
  have hown : s.vm.findClass RX8 = some m.cls := hown
  have ctx : CallFix p m c cX8_copies 6 s args wsX8_copies RX8 := ⟨hx, hb, hml, hown, hts⟩
  have hl : lv_has ls 6 [(0, .ref to), (1, .int (nI ta)), (2, .ref of_), (3, .int (nI fa)), (4, .int (nI 115))] := hl
  obtain ⟨H, hHe⟩ : ∃ H, H = s.heap := ⟨_, rfl⟩
  obtain ⟨locs, hLe⟩ : ∃ L : List Loc, L = [] := ⟨_, rfl⟩
  have hP : va_P g.1 vwCl [(to, .inl (g.2.1, 920, .inl ft)), (of_, .inl (g.2.1, 115, .inl ff_))] H := by rw [hHe]; exact hP
  have hS : va_S A s.heap H locs := by rw [hHe, hLe]; exact hS
  suffices hgo : W p l e ({ frames := 0, cells := 0, slots := 0, locals := 0 } : Room) s m args below meth c H locs 0 0 Q (F0 m 0 ls []) by rw [hHe, hLe] at hgo; exact hgo
  clear hHe hLe
  refine lv_iconst (v := nI 0) hx hb dX8_copies_0 (by decide) ?_
  refine lv_istore (lv' := [(5, .int (nI 0)), (0, .ref to), (1, .int (nI ta)), (2, .ref of_), (3, .int (nI fa)), (4, .int (nI 115))]) hx hb dX8_copies_1 hl (by decide) rfl (fun ls hl => ?_)
  have LP3 : ∀ (fu : Nat) (j : Nat) (f : Nat → Int32), 115 - j < fu → (j ≤ 115) → (f = cpL ft ff_ ta fa j) → ∀ (H : Heap) (locs : List Loc), va_P g.1 vwCl [(to, .inl (g.2.1, 920, .inl f)), (of_, .inl (g.2.1, 115, .inl ff_))] H → va_D A [(to, .inl (g.2.1, 920, .inl f)), (of_, .inl (g.2.1, 115, .inl ff_))] → va_S A s.heap H locs → ∀ (ls : Array Slot), lv_has ls 6 [(5, .int (nI j)), (0, .ref to), (1, .int (nI ta)), (2, .ref of_), (3, .int (nI fa)), (4, .int (nI 115))] → W p l e ({ frames := 0, cells := 0, slots := 0, locals := 0 } : Room) s m args below meth c H locs 0 0 Q (F0 m 3 ls []) := by
    intro fu
    induction fu with
    | zero => intro j f hfu; exact absurd hfu (Nat.not_lt_zero _)
    | succ fu ih3 =>
      intro j f hfu hj ef H locs hP hD hS ls hl
      refine lv_iload hx hb dX8_copies_3 (lv_at hl 0 rfl) ?_
      refine lv_iload hx hb dX8_copies_5 (lv_at hl 5 rfl) ?_
      refine lv_icmp_ge (tgt := 28) hx hb dX8_copies_7 (by decide) (fun c_1 => ?_) (fun c_1 => ?_)
      · replace c_1 : 115 ≤ j := (nI_leI (a := 115) (b := j) (by omega) (by omega)).mp c_1
        rw [show j = 115 by omega] at ef
        subst ef
        have hP : va_P g.1 vwCl [(to, .inl (g.2.1, 920, .inl (cpL ft ff_ ta fa 115))), (of_, .inl (g.2.1, 115, .inl ff_))] H := hP
        have hD : va_D A [(to, .inl (g.2.1, 920, .inl (cpL ft ff_ ta fa 115))), (of_, .inl (g.2.1, 115, .inl ff_))] := hD
        exact hret () H locs 28 ls (trivial) (hP) (hD) hS dX8_copies_28
      · replace c_1 : ¬ 115 ≤ j := fun h => c_1 ((nI_leI (a := 115) (b := j) (by omega) (by omega)).mpr h)
        refine lv_aload_n hx hb dX8_copies_10 rfl (lv_at hl 1 rfl) ?_
        refine lv_iload_n hx hb dX8_copies_11 rfl (lv_at hl 2 rfl) ?_
        refine lv_iload hx hb dX8_copies_12 (lv_at hl 0 rfl) ?_
        refine lv_iadd hx hb dX8_copies_14 ?_
        refine lv_is (nI_add ta j) ?_
        refine lv_aload_n hx hb dX8_copies_15 rfl (lv_at hl 3 rfl) ?_
        refine lv_iload_n hx hb dX8_copies_16 rfl (lv_at hl 4 rfl) ?_
        refine lv_iload hx hb dX8_copies_17 (lv_at hl 0 rfl) ?_
        refine lv_iadd hx hb dX8_copies_19 ?_
        refine lv_is (nI_add fa j) ?_
        refine ald_i (D := g.1) (cl := vwCl) (f := ff_) (i := fa + j) (n := 115) hx hb hK hP 1 0 rfl rfl (by omega) (by decide) dX8_copies_20 ?_
        refine ast_i (D := g.1) (cl := vwCl) (f := f) (i := ta + j) (n := 920) (x := ff_ (fa + j)) hx hb hK hP hD hS 0 0 rfl rfl (by omega) (by decide) dX8_copies_21 (fun H locs hP hD hS => ?_)
        have hP : va_P g.1 vwCl [(to, .inl (g.2.1, 920, .inl (upd f (ta + j) (ff_ (fa + j))))), (of_, .inl (g.2.1, 115, .inl ff_))] H := hP
        have hD : va_D A [(to, .inl (g.2.1, 920, .inl (upd f (ta + j) (ff_ (fa + j))))), (of_, .inl (g.2.1, 115, .inl ff_))] := hD
        refine lv_iinc (v := nI (j + 1)) (lv' := [(5, .int (nI (j + 1))), (0, .ref to), (1, .int (nI ta)), (2, .ref of_), (3, .int (nI fa)), (4, .int (nI 115))]) hx hb dX8_copies_22 hl (k := 0) rfl (iincK j 1) (by decide) rfl (fun ls hl => ?_)
        refine lv_goto (tgt := 3) hx hb dX8_copies_25 (by decide) ?_
        exact ih3 (j + 1) (upd f (ta + j) (ff_ (fa + j))) (by omega) (by omega) (by rw [cpL, ← ef]) _ _ hP hD hS ls (lv_sub hl [0, 1, 2, 3, 4, 5] rfl)
  exact LP3 116 0 ft (by omega) (by omega) (rfl) _ _ hP hD hS ls (lv_sub hl [0, 1, 2, 3, 4, 5] rfl)
set_option maxHeartbeats 400000 in
set_option maxRecDepth 100000 in
theorem c_X8_copies_115_920_115 (l : Launch) (g : GG) (to : Nat) (of_ : Nat) (ft : Nat → Int32) (ff_ : Nat → Int32) (ta : Nat) (fa : Nat) (ht : ta + 115 ≤ 115) (hf : fa + 115 ≤ 920) : Met l yX8_copies wsX8_copies ({ frames := 0, cells := 0, slots := 0, locals := 0 } : Room) (wr g [.ref to, .int (nI ta), .ref of_, .int (nI fa), .int (nI 115)] [(to, .inl (g.2.1, 115, .inl ft)), (of_, .inl (g.2.1, 920, .inl ff_))]) (wQv g [(to, .inl (g.2.1, 115, .inl ft)), (of_, .inl (g.2.1, 920, .inl ff_))] (fun u : Unit => [(to, .inl (g.2.1, 115, .inl (cpL ft ff_ ta fa 115))), (of_, .inl (g.2.1, 920, .inl ff_))]) (fun u => True)) 0 0 (cA [(to, .inl (g.2.1, 115, .inl ft)), (of_, .inl (g.2.1, 920, .inl ff_))]) := by
  refine wr_startv (cc := cX8_copies) (maxL := 6) (by decide) rfl (Nat.le_of_ble_eq_true rfl) (fun p e s m args below meth c Q A C hP hD hS hret ls hl => ?_)
  obtain ⟨hx, hb, hml, hr, hown, hts, hlk, hKK⟩ := id C
  have hK := hKK.1
  have hown : s.vm.findClass RX8 = some m.cls := hown
  have ctx : CallFix p m c cX8_copies 6 s args wsX8_copies RX8 := ⟨hx, hb, hml, hown, hts⟩
  have hl : lv_has ls 6 [(0, .ref to), (1, .int (nI ta)), (2, .ref of_), (3, .int (nI fa)), (4, .int (nI 115))] := hl
  obtain ⟨H, hHe⟩ : ∃ H, H = s.heap := ⟨_, rfl⟩
  obtain ⟨locs, hLe⟩ : ∃ L : List Loc, L = [] := ⟨_, rfl⟩
  have hP : va_P g.1 vwCl [(to, .inl (g.2.1, 115, .inl ft)), (of_, .inl (g.2.1, 920, .inl ff_))] H := by rw [hHe]; exact hP
  have hS : va_S A s.heap H locs := by rw [hHe, hLe]; exact hS
  suffices hgo : W p l e ({ frames := 0, cells := 0, slots := 0, locals := 0 } : Room) s m args below meth c H locs 0 0 Q (F0 m 0 ls []) by rw [hHe, hLe] at hgo; exact hgo
  clear hHe hLe
  refine lv_iconst (v := nI 0) hx hb dX8_copies_0 (by decide) ?_
  refine lv_istore (lv' := [(5, .int (nI 0)), (0, .ref to), (1, .int (nI ta)), (2, .ref of_), (3, .int (nI fa)), (4, .int (nI 115))]) hx hb dX8_copies_1 hl (by decide) rfl (fun ls hl => ?_)
  have LP3 : ∀ (fu : Nat) (j : Nat) (f : Nat → Int32), 115 - j < fu → (j ≤ 115) → (f = cpL ft ff_ ta fa j) → ∀ (H : Heap) (locs : List Loc), va_P g.1 vwCl [(to, .inl (g.2.1, 115, .inl f)), (of_, .inl (g.2.1, 920, .inl ff_))] H → va_D A [(to, .inl (g.2.1, 115, .inl f)), (of_, .inl (g.2.1, 920, .inl ff_))] → va_S A s.heap H locs → ∀ (ls : Array Slot), lv_has ls 6 [(5, .int (nI j)), (0, .ref to), (1, .int (nI ta)), (2, .ref of_), (3, .int (nI fa)), (4, .int (nI 115))] → W p l e ({ frames := 0, cells := 0, slots := 0, locals := 0 } : Room) s m args below meth c H locs 0 0 Q (F0 m 3 ls []) := by
    intro fu
    induction fu with
    | zero => intro j f hfu; exact absurd hfu (Nat.not_lt_zero _)
    | succ fu ih3 =>
      intro j f hfu hj ef H locs hP hD hS ls hl
      refine lv_iload hx hb dX8_copies_3 (lv_at hl 0 rfl) ?_
      refine lv_iload hx hb dX8_copies_5 (lv_at hl 5 rfl) ?_
      refine lv_icmp_ge (tgt := 28) hx hb dX8_copies_7 (by decide) (fun c_1 => ?_) (fun c_1 => ?_)
      · replace c_1 : 115 ≤ j := (nI_leI (a := 115) (b := j) (by omega) (by omega)).mp c_1
        rw [show j = 115 by omega] at ef
        subst ef
        have hP : va_P g.1 vwCl [(to, .inl (g.2.1, 115, .inl (cpL ft ff_ ta fa 115))), (of_, .inl (g.2.1, 920, .inl ff_))] H := hP
        have hD : va_D A [(to, .inl (g.2.1, 115, .inl (cpL ft ff_ ta fa 115))), (of_, .inl (g.2.1, 920, .inl ff_))] := hD
        exact hret () H locs 28 ls (trivial) (hP) (hD) hS dX8_copies_28
      · replace c_1 : ¬ 115 ≤ j := fun h => c_1 ((nI_leI (a := 115) (b := j) (by omega) (by omega)).mpr h)
        refine lv_aload_n hx hb dX8_copies_10 rfl (lv_at hl 1 rfl) ?_
        refine lv_iload_n hx hb dX8_copies_11 rfl (lv_at hl 2 rfl) ?_
        refine lv_iload hx hb dX8_copies_12 (lv_at hl 0 rfl) ?_
        refine lv_iadd hx hb dX8_copies_14 ?_
        refine lv_is (nI_add ta j) ?_
        refine lv_aload_n hx hb dX8_copies_15 rfl (lv_at hl 3 rfl) ?_
        refine lv_iload_n hx hb dX8_copies_16 rfl (lv_at hl 4 rfl) ?_
        refine lv_iload hx hb dX8_copies_17 (lv_at hl 0 rfl) ?_
        refine lv_iadd hx hb dX8_copies_19 ?_
        refine lv_is (nI_add fa j) ?_
        refine ald_i (D := g.1) (cl := vwCl) (f := ff_) (i := fa + j) (n := 920) hx hb hK hP 1 0 rfl rfl (by omega) (by decide) dX8_copies_20 ?_
        refine ast_i (D := g.1) (cl := vwCl) (f := f) (i := ta + j) (n := 115) (x := ff_ (fa + j)) hx hb hK hP hD hS 0 0 rfl rfl (by omega) (by decide) dX8_copies_21 (fun H locs hP hD hS => ?_)
        have hP : va_P g.1 vwCl [(to, .inl (g.2.1, 115, .inl (upd f (ta + j) (ff_ (fa + j))))), (of_, .inl (g.2.1, 920, .inl ff_))] H := hP
        have hD : va_D A [(to, .inl (g.2.1, 115, .inl (upd f (ta + j) (ff_ (fa + j))))), (of_, .inl (g.2.1, 920, .inl ff_))] := hD
        refine lv_iinc (v := nI (j + 1)) (lv' := [(5, .int (nI (j + 1))), (0, .ref to), (1, .int (nI ta)), (2, .ref of_), (3, .int (nI fa)), (4, .int (nI 115))]) hx hb dX8_copies_22 hl (k := 0) rfl (iincK j 1) (by decide) rfl (fun ls hl => ?_)
        refine lv_goto (tgt := 3) hx hb dX8_copies_25 (by decide) ?_
        exact ih3 (j + 1) (upd f (ta + j) (ff_ (fa + j))) (by omega) (by omega) (by rw [cpL, ← ef]) _ _ hP hD hS ls (lv_sub hl [0, 1, 2, 3, 4, 5] rfl)
  exact LP3 116 0 ft (by omega) (by omega) (rfl) _ _ hP hD hS ls (lv_sub hl [0, 1, 2, 3, 4, 5] rfl)
set_option maxHeartbeats 400000 in
set_option maxRecDepth 100000 in
theorem c_X8_copies_230_115_115 (l : Launch) (g : GG) (to : Nat) (of_ : Nat) (ft : Nat → Int32) (ff_ : Nat → Int32) (ta : Nat) (fa : Nat) (ht : ta + 115 ≤ 230) (hf : fa + 115 ≤ 115) : Met l yX8_copies wsX8_copies ({ frames := 0, cells := 0, slots := 0, locals := 0 } : Room) (wr g [.ref to, .int (nI ta), .ref of_, .int (nI fa), .int (nI 115)] [(to, .inl (g.2.1, 230, .inl ft)), (of_, .inl (g.2.1, 115, .inl ff_))]) (wQv g [(to, .inl (g.2.1, 230, .inl ft)), (of_, .inl (g.2.1, 115, .inl ff_))] (fun u : Unit => [(to, .inl (g.2.1, 230, .inl (cpL ft ff_ ta fa 115))), (of_, .inl (g.2.1, 115, .inl ff_))]) (fun u => True)) 0 0 (cA [(to, .inl (g.2.1, 230, .inl ft)), (of_, .inl (g.2.1, 115, .inl ff_))]) := by
  refine wr_startv (cc := cX8_copies) (maxL := 6) (by decide) rfl (Nat.le_of_ble_eq_true rfl) (fun p e s m args below meth c Q A C hP hD hS hret ls hl => ?_)
  obtain ⟨hx, hb, hml, hr, hown, hts, hlk, hKK⟩ := id C
  have hK := hKK.1
  have hown : s.vm.findClass RX8 = some m.cls := hown
  have ctx : CallFix p m c cX8_copies 6 s args wsX8_copies RX8 := ⟨hx, hb, hml, hown, hts⟩
  have hl : lv_has ls 6 [(0, .ref to), (1, .int (nI ta)), (2, .ref of_), (3, .int (nI fa)), (4, .int (nI 115))] := hl
  obtain ⟨H, hHe⟩ : ∃ H, H = s.heap := ⟨_, rfl⟩
  obtain ⟨locs, hLe⟩ : ∃ L : List Loc, L = [] := ⟨_, rfl⟩
  have hP : va_P g.1 vwCl [(to, .inl (g.2.1, 230, .inl ft)), (of_, .inl (g.2.1, 115, .inl ff_))] H := by rw [hHe]; exact hP
  have hS : va_S A s.heap H locs := by rw [hHe, hLe]; exact hS
  suffices hgo : W p l e ({ frames := 0, cells := 0, slots := 0, locals := 0 } : Room) s m args below meth c H locs 0 0 Q (F0 m 0 ls []) by rw [hHe, hLe] at hgo; exact hgo
  clear hHe hLe
  refine lv_iconst (v := nI 0) hx hb dX8_copies_0 (by decide) ?_
  refine lv_istore (lv' := [(5, .int (nI 0)), (0, .ref to), (1, .int (nI ta)), (2, .ref of_), (3, .int (nI fa)), (4, .int (nI 115))]) hx hb dX8_copies_1 hl (by decide) rfl (fun ls hl => ?_)
  have LP3 : ∀ (fu : Nat) (j : Nat) (f : Nat → Int32), 115 - j < fu → (j ≤ 115) → (f = cpL ft ff_ ta fa j) → ∀ (H : Heap) (locs : List Loc), va_P g.1 vwCl [(to, .inl (g.2.1, 230, .inl f)), (of_, .inl (g.2.1, 115, .inl ff_))] H → va_D A [(to, .inl (g.2.1, 230, .inl f)), (of_, .inl (g.2.1, 115, .inl ff_))] → va_S A s.heap H locs → ∀ (ls : Array Slot), lv_has ls 6 [(5, .int (nI j)), (0, .ref to), (1, .int (nI ta)), (2, .ref of_), (3, .int (nI fa)), (4, .int (nI 115))] → W p l e ({ frames := 0, cells := 0, slots := 0, locals := 0 } : Room) s m args below meth c H locs 0 0 Q (F0 m 3 ls []) := by
    intro fu
    induction fu with
    | zero => intro j f hfu; exact absurd hfu (Nat.not_lt_zero _)
    | succ fu ih3 =>
      intro j f hfu hj ef H locs hP hD hS ls hl
      refine lv_iload hx hb dX8_copies_3 (lv_at hl 0 rfl) ?_
      refine lv_iload hx hb dX8_copies_5 (lv_at hl 5 rfl) ?_
      refine lv_icmp_ge (tgt := 28) hx hb dX8_copies_7 (by decide) (fun c_1 => ?_) (fun c_1 => ?_)
      · replace c_1 : 115 ≤ j := (nI_leI (a := 115) (b := j) (by omega) (by omega)).mp c_1
        rw [show j = 115 by omega] at ef
        subst ef
        have hP : va_P g.1 vwCl [(to, .inl (g.2.1, 230, .inl (cpL ft ff_ ta fa 115))), (of_, .inl (g.2.1, 115, .inl ff_))] H := hP
        have hD : va_D A [(to, .inl (g.2.1, 230, .inl (cpL ft ff_ ta fa 115))), (of_, .inl (g.2.1, 115, .inl ff_))] := hD
        exact hret () H locs 28 ls (trivial) (hP) (hD) hS dX8_copies_28
      · replace c_1 : ¬ 115 ≤ j := fun h => c_1 ((nI_leI (a := 115) (b := j) (by omega) (by omega)).mpr h)
        refine lv_aload_n hx hb dX8_copies_10 rfl (lv_at hl 1 rfl) ?_
        refine lv_iload_n hx hb dX8_copies_11 rfl (lv_at hl 2 rfl) ?_
        refine lv_iload hx hb dX8_copies_12 (lv_at hl 0 rfl) ?_
        refine lv_iadd hx hb dX8_copies_14 ?_
        refine lv_is (nI_add ta j) ?_
        refine lv_aload_n hx hb dX8_copies_15 rfl (lv_at hl 3 rfl) ?_
        refine lv_iload_n hx hb dX8_copies_16 rfl (lv_at hl 4 rfl) ?_
        refine lv_iload hx hb dX8_copies_17 (lv_at hl 0 rfl) ?_
        refine lv_iadd hx hb dX8_copies_19 ?_
        refine lv_is (nI_add fa j) ?_
        refine ald_i (D := g.1) (cl := vwCl) (f := ff_) (i := fa + j) (n := 115) hx hb hK hP 1 0 rfl rfl (by omega) (by decide) dX8_copies_20 ?_
        refine ast_i (D := g.1) (cl := vwCl) (f := f) (i := ta + j) (n := 230) (x := ff_ (fa + j)) hx hb hK hP hD hS 0 0 rfl rfl (by omega) (by decide) dX8_copies_21 (fun H locs hP hD hS => ?_)
        have hP : va_P g.1 vwCl [(to, .inl (g.2.1, 230, .inl (upd f (ta + j) (ff_ (fa + j))))), (of_, .inl (g.2.1, 115, .inl ff_))] H := hP
        have hD : va_D A [(to, .inl (g.2.1, 230, .inl (upd f (ta + j) (ff_ (fa + j))))), (of_, .inl (g.2.1, 115, .inl ff_))] := hD
        refine lv_iinc (v := nI (j + 1)) (lv' := [(5, .int (nI (j + 1))), (0, .ref to), (1, .int (nI ta)), (2, .ref of_), (3, .int (nI fa)), (4, .int (nI 115))]) hx hb dX8_copies_22 hl (k := 0) rfl (iincK j 1) (by decide) rfl (fun ls hl => ?_)
        refine lv_goto (tgt := 3) hx hb dX8_copies_25 (by decide) ?_
        exact ih3 (j + 1) (upd f (ta + j) (ff_ (fa + j))) (by omega) (by omega) (by rw [cpL, ← ef]) _ _ hP hD hS ls (lv_sub hl [0, 1, 2, 3, 4, 5] rfl)
  exact LP3 116 0 ft (by omega) (by omega) (rfl) _ _ hP hD hS ls (lv_sub hl [0, 1, 2, 3, 4, 5] rfl)
set_option maxHeartbeats 400000 in
set_option maxRecDepth 100000 in
theorem c_X8_copies_115_230_115 (l : Launch) (g : GG) (to : Nat) (of_ : Nat) (ft : Nat → Int32) (ff_ : Nat → Int32) (ta : Nat) (fa : Nat) (ht : ta + 115 ≤ 115) (hf : fa + 115 ≤ 230) : Met l yX8_copies wsX8_copies ({ frames := 0, cells := 0, slots := 0, locals := 0 } : Room) (wr g [.ref to, .int (nI ta), .ref of_, .int (nI fa), .int (nI 115)] [(to, .inl (g.2.1, 115, .inl ft)), (of_, .inl (g.2.1, 230, .inl ff_))]) (wQv g [(to, .inl (g.2.1, 115, .inl ft)), (of_, .inl (g.2.1, 230, .inl ff_))] (fun u : Unit => [(to, .inl (g.2.1, 115, .inl (cpL ft ff_ ta fa 115))), (of_, .inl (g.2.1, 230, .inl ff_))]) (fun u => True)) 0 0 (cA [(to, .inl (g.2.1, 115, .inl ft)), (of_, .inl (g.2.1, 230, .inl ff_))]) := by
  refine wr_startv (cc := cX8_copies) (maxL := 6) (by decide) rfl (Nat.le_of_ble_eq_true rfl) (fun p e s m args below meth c Q A C hP hD hS hret ls hl => ?_)
  obtain ⟨hx, hb, hml, hr, hown, hts, hlk, hKK⟩ := id C
  have hK := hKK.1
  have hown : s.vm.findClass RX8 = some m.cls := hown
  have ctx : CallFix p m c cX8_copies 6 s args wsX8_copies RX8 := ⟨hx, hb, hml, hown, hts⟩
  have hl : lv_has ls 6 [(0, .ref to), (1, .int (nI ta)), (2, .ref of_), (3, .int (nI fa)), (4, .int (nI 115))] := hl
  obtain ⟨H, hHe⟩ : ∃ H, H = s.heap := ⟨_, rfl⟩
  obtain ⟨locs, hLe⟩ : ∃ L : List Loc, L = [] := ⟨_, rfl⟩
  have hP : va_P g.1 vwCl [(to, .inl (g.2.1, 115, .inl ft)), (of_, .inl (g.2.1, 230, .inl ff_))] H := by rw [hHe]; exact hP
  have hS : va_S A s.heap H locs := by rw [hHe, hLe]; exact hS
  suffices hgo : W p l e ({ frames := 0, cells := 0, slots := 0, locals := 0 } : Room) s m args below meth c H locs 0 0 Q (F0 m 0 ls []) by rw [hHe, hLe] at hgo; exact hgo
  clear hHe hLe
  refine lv_iconst (v := nI 0) hx hb dX8_copies_0 (by decide) ?_
  refine lv_istore (lv' := [(5, .int (nI 0)), (0, .ref to), (1, .int (nI ta)), (2, .ref of_), (3, .int (nI fa)), (4, .int (nI 115))]) hx hb dX8_copies_1 hl (by decide) rfl (fun ls hl => ?_)
  have LP3 : ∀ (fu : Nat) (j : Nat) (f : Nat → Int32), 115 - j < fu → (j ≤ 115) → (f = cpL ft ff_ ta fa j) → ∀ (H : Heap) (locs : List Loc), va_P g.1 vwCl [(to, .inl (g.2.1, 115, .inl f)), (of_, .inl (g.2.1, 230, .inl ff_))] H → va_D A [(to, .inl (g.2.1, 115, .inl f)), (of_, .inl (g.2.1, 230, .inl ff_))] → va_S A s.heap H locs → ∀ (ls : Array Slot), lv_has ls 6 [(5, .int (nI j)), (0, .ref to), (1, .int (nI ta)), (2, .ref of_), (3, .int (nI fa)), (4, .int (nI 115))] → W p l e ({ frames := 0, cells := 0, slots := 0, locals := 0 } : Room) s m args below meth c H locs 0 0 Q (F0 m 3 ls []) := by
    intro fu
    induction fu with
    | zero => intro j f hfu; exact absurd hfu (Nat.not_lt_zero _)
    | succ fu ih3 =>
      intro j f hfu hj ef H locs hP hD hS ls hl
      refine lv_iload hx hb dX8_copies_3 (lv_at hl 0 rfl) ?_
      refine lv_iload hx hb dX8_copies_5 (lv_at hl 5 rfl) ?_
      refine lv_icmp_ge (tgt := 28) hx hb dX8_copies_7 (by decide) (fun c_1 => ?_) (fun c_1 => ?_)
      · replace c_1 : 115 ≤ j := (nI_leI (a := 115) (b := j) (by omega) (by omega)).mp c_1
        rw [show j = 115 by omega] at ef
        subst ef
        have hP : va_P g.1 vwCl [(to, .inl (g.2.1, 115, .inl (cpL ft ff_ ta fa 115))), (of_, .inl (g.2.1, 230, .inl ff_))] H := hP
        have hD : va_D A [(to, .inl (g.2.1, 115, .inl (cpL ft ff_ ta fa 115))), (of_, .inl (g.2.1, 230, .inl ff_))] := hD
        exact hret () H locs 28 ls (trivial) (hP) (hD) hS dX8_copies_28
      · replace c_1 : ¬ 115 ≤ j := fun h => c_1 ((nI_leI (a := 115) (b := j) (by omega) (by omega)).mpr h)
        refine lv_aload_n hx hb dX8_copies_10 rfl (lv_at hl 1 rfl) ?_
        refine lv_iload_n hx hb dX8_copies_11 rfl (lv_at hl 2 rfl) ?_
        refine lv_iload hx hb dX8_copies_12 (lv_at hl 0 rfl) ?_
        refine lv_iadd hx hb dX8_copies_14 ?_
        refine lv_is (nI_add ta j) ?_
        refine lv_aload_n hx hb dX8_copies_15 rfl (lv_at hl 3 rfl) ?_
        refine lv_iload_n hx hb dX8_copies_16 rfl (lv_at hl 4 rfl) ?_
        refine lv_iload hx hb dX8_copies_17 (lv_at hl 0 rfl) ?_
        refine lv_iadd hx hb dX8_copies_19 ?_
        refine lv_is (nI_add fa j) ?_
        refine ald_i (D := g.1) (cl := vwCl) (f := ff_) (i := fa + j) (n := 230) hx hb hK hP 1 0 rfl rfl (by omega) (by decide) dX8_copies_20 ?_
        refine ast_i (D := g.1) (cl := vwCl) (f := f) (i := ta + j) (n := 115) (x := ff_ (fa + j)) hx hb hK hP hD hS 0 0 rfl rfl (by omega) (by decide) dX8_copies_21 (fun H locs hP hD hS => ?_)
        have hP : va_P g.1 vwCl [(to, .inl (g.2.1, 115, .inl (upd f (ta + j) (ff_ (fa + j))))), (of_, .inl (g.2.1, 230, .inl ff_))] H := hP
        have hD : va_D A [(to, .inl (g.2.1, 115, .inl (upd f (ta + j) (ff_ (fa + j))))), (of_, .inl (g.2.1, 230, .inl ff_))] := hD
        refine lv_iinc (v := nI (j + 1)) (lv' := [(5, .int (nI (j + 1))), (0, .ref to), (1, .int (nI ta)), (2, .ref of_), (3, .int (nI fa)), (4, .int (nI 115))]) hx hb dX8_copies_22 hl (k := 0) rfl (iincK j 1) (by decide) rfl (fun ls hl => ?_)
        refine lv_goto (tgt := 3) hx hb dX8_copies_25 (by decide) ?_
        exact ih3 (j + 1) (upd f (ta + j) (ff_ (fa + j))) (by omega) (by omega) (by rw [cpL, ← ef]) _ _ hP hD hS ls (lv_sub hl [0, 1, 2, 3, 4, 5] rfl)
  exact LP3 116 0 ft (by omega) (by omega) (rfl) _ _ hP hD hS ls (lv_sub hl [0, 1, 2, 3, 4, 5] rfl)
theorem kX8_isPerson_f82 : (Cond.fieldLink RX8 82 "LastCallersWordModel" "persons" "I" : Cond) ∈ wsX8_isPerson := List.mem_cons_of_mem _ aw_324
theorem hX8_isPerson_X8 : ∀ w ∈ wsX80, w ∈ wsX8_isPerson := fun w h => List.mem_cons_of_mem _ (ac_X8 w h)
set_option maxHeartbeats 400000 in
set_option maxRecDepth 100000 in
theorem c_X8_isPerson (l : Launch) (g : GG) (o : Nat) (a : Nat → Nat) (sc : Nat → Nat) (ar : Nat → Nat → Int32) (iv : Int32) (hP8 : sc 0 ≤ 8) : Met l yX8_isPerson wsX8_isPerson ({ frames := 1, cells := 0, slots := 0, locals := 22 } : Room) (ro g [.ref o, .int iv] (mW g o a sc ar)) (vp_Si (fun rr => rr = bI (inPb (sc 0) iv))) 0 0 (fun _ => False) := by
  refine ro_start (cc := cX8_isPerson) (maxL := 2) (ty := .boolean) (by decide) rfl (Nat.le_of_ble_eq_true rfl) (fun p e s m args below meth c Q C hP hret ls hl => ?_)
  obtain ⟨hx, hb, hml, hr, hown, hts, hlk, hKK⟩ := id C
  have hK := hKK.1
  have hown : s.vm.findClass RX8 = some m.cls := hown
  have ctx : CallFix p m c cX8_isPerson 2 s args wsX8_isPerson RX8 := ⟨hx, hb, hml, hown, hts⟩
  have hl : lv_has ls 2 [(0, .ref o), (1, .int iv)] := hl
  refine lv_iload_n hx hb dX8_isPerson_0 rfl (lv_at hl 1 rfl) ?_
  refine lv_iconst (v := nI 0) hx hb dX8_isPerson_1 (by decide) ?_
  refine lv_aload_n hx hb dX8_isPerson_2 rfl (lv_at hl 0 rfl) ?_
  refine va_get (D := g.1) (cl := vwCl) (ci := 8) (v := .int (nI (sc 0))) (C := RX8) (T := TX8) (N := 29) hx hb hts hX8_isPerson_X8 hown hK hP 0 rfl rfl 0 (by decide) (hts _ kX8_isPerson_f82) (fun _ h9 => h9) rfl dX8_isPerson_3 ?_
  refine lv_iconst (v := nI 1) hx hb dX8_isPerson_6 (by decide) ?_
  refine lv_isub hx hb dX8_isPerson_7 ?_
  refine ro_callS (As := [.int iv, .int (nI 0), .int ((nI (sc 0)) - (nI 1))]) (rest := []) ctx hKK hP (c_X8_in l g iv (nI 0) ((nI (sc 0)) - (nI 1))) gX8_isPerson_X8_in rfl rfl rfl hdX8_in ⟨Nat.le_of_ble_eq_true rfl, Nat.le_of_ble_eq_true rfl⟩ [] rfl hl.1 rfl rfl (Nat.le_of_ble_eq_true rfl) dX8_isPerson_8 (fun r_1 hr_1 => ?_)
  subst hr_1
  exact hret (bI (inB iv (nI 0) ((nI (sc 0)) - (nI 1)))) 11 ls (by rw [inB_p hP8]) (bI_nar _) dX8_isPerson_11
theorem kX8_isDoor_f89 : (Cond.fieldLink RX8 89 "LastCallersWordModel" "doors" "I" : Cond) ∈ wsX8_isDoor := List.mem_cons_of_mem _ aw_325
theorem hX8_isDoor_X8 : ∀ w ∈ wsX80, w ∈ wsX8_isDoor := fun w h => List.mem_cons_of_mem _ (ac_X8 w h)
set_option maxHeartbeats 400000 in
set_option maxRecDepth 100000 in
theorem c_X8_isDoor (l : Launch) (g : GG) (o : Nat) (a : Nat → Nat) (sc : Nat → Nat) (ar : Nat → Nat → Int32) (dv : Int32) (hD5 : sc 2 ≤ 5) : Met l yX8_isDoor wsX8_isDoor ({ frames := 1, cells := 0, slots := 0, locals := 22 } : Room) (ro g [.ref o, .int dv] (mW g o a sc ar)) (vp_Si (fun rr => rr = bI (inPb (sc 2) dv))) 0 0 (fun _ => False) := by
  refine ro_start (cc := cX8_isDoor) (maxL := 2) (ty := .boolean) (by decide) rfl (Nat.le_of_ble_eq_true rfl) (fun p e s m args below meth c Q C hP hret ls hl => ?_)
  obtain ⟨hx, hb, hml, hr, hown, hts, hlk, hKK⟩ := id C
  have hK := hKK.1
  have hown : s.vm.findClass RX8 = some m.cls := hown
  have ctx : CallFix p m c cX8_isDoor 2 s args wsX8_isDoor RX8 := ⟨hx, hb, hml, hown, hts⟩
  have hl : lv_has ls 2 [(0, .ref o), (1, .int dv)] := hl
  refine lv_iload_n hx hb dX8_isDoor_0 rfl (lv_at hl 1 rfl) ?_
  refine lv_iconst (v := nI 0) hx hb dX8_isDoor_1 (by decide) ?_
  refine lv_aload_n hx hb dX8_isDoor_2 rfl (lv_at hl 0 rfl) ?_
  refine va_get (D := g.1) (cl := vwCl) (ci := 8) (v := .int (nI (sc 2))) (C := RX8) (T := TX8) (N := 29) hx hb hts hX8_isDoor_X8 hown hK hP 0 rfl rfl 2 (by decide) (hts _ kX8_isDoor_f89) (fun _ h9 => h9) rfl dX8_isDoor_3 ?_
  refine lv_iconst (v := nI 1) hx hb dX8_isDoor_6 (by decide) ?_
  refine lv_isub hx hb dX8_isDoor_7 ?_
  refine ro_callS (As := [.int dv, .int (nI 0), .int ((nI (sc 2)) - (nI 1))]) (rest := []) ctx hKK hP (c_X8_in l g dv (nI 0) ((nI (sc 2)) - (nI 1))) gX8_isDoor_X8_in rfl rfl rfl hdX8_in ⟨Nat.le_of_ble_eq_true rfl, Nat.le_of_ble_eq_true rfl⟩ [] rfl hl.1 rfl rfl (Nat.le_of_ble_eq_true rfl) dX8_isDoor_8 (fun r_1 hr_1 => ?_)
  subst hr_1
  exact hret (bI (inB dv (nI 0) ((nI (sc 2)) - (nI 1)))) 11 ls (by rw [inB_p (by omega : sc 2 ≤ 8)]) (bI_nar _) dX8_isDoor_11
theorem kX8_write_f92 : (Cond.fieldLink RX8 92 "LastCallersWordModel" "texted" "I" : Cond) ∈ wsX8_write := List.mem_cons_of_mem _ aw_360
theorem hX8_write_X8 : ∀ w ∈ wsX80, w ∈ wsX8_write := fun w h => List.mem_cons_of_mem _ (ac_X8 w h)
theorem kX8_write_f31 : (Cond.fieldLink RX8 31 "LastCallersWordModel" "text" "[I" : Cond) ∈ wsX8_write := List.mem_cons_of_mem _ aw_295
set_option maxHeartbeats 400000 in
set_option maxRecDepth 100000 in
theorem c_X8_write (l : Launch) (g : GG) (o : Nat) (a : Nat → Nat) (sc : Nat → Nat) (ar : Nat → Nat → Int32) (lv : Int32) (hT : sc 15 ≤ 200) : Met l yX8_write wsX8_write ({ frames := 1, cells := 0, slots := 0, locals := 22 } : Room) (wr g [.ref o, .int lv] (mW g o a sc ar)) (wQi g (mW g o a sc ar) (fun u : Nat × (Nat → Int32) => (mW g o a (updN sc 15 u.1) (upA ar 14 u.2))) (fun rr u => rr = xWrA (sc 15) lv ∧ u = (if xWrB lv = true ∨ 200 ≤ sc 15 then (sc 15, ar 14) else (sc 15 + 1, upd (ar 14) (sc 15) lv)))) 0 0 (cA (mW g o a sc ar)) := by
  refine wr_starti (cc := cX8_write) (maxL := 2) (ty := .int) (by decide) rfl (Nat.le_of_ble_eq_true rfl) (fun p e s m args below meth c Q A C hP hD hS hret ls hl => ?_)
  obtain ⟨hx, hb, hml, hr, hown, hts, hlk, hKK⟩ := id C
  have hK := hKK.1
  have hown : s.vm.findClass RX8 = some m.cls := hown
  have ctx : CallFix p m c cX8_write 2 s args wsX8_write RX8 := ⟨hx, hb, hml, hown, hts⟩
  have hl : lv_has ls 2 [(0, .ref o), (1, .int lv)] := hl
  obtain ⟨H, hHe⟩ : ∃ H, H = s.heap := ⟨_, rfl⟩
  obtain ⟨locs, hLe⟩ : ∃ L : List Loc, L = [] := ⟨_, rfl⟩
  have hP : va_P g.1 vwCl (mW g o a sc ar) H := by rw [hHe]; exact hP
  have hS : va_S A s.heap H locs := by rw [hHe, hLe]; exact hS
  suffices hgo : W p l e ({ frames := 1, cells := 0, slots := 0, locals := 22 } : Room) s m args below meth c H locs 0 0 Q (F0 m 0 ls []) by rw [hHe, hLe] at hgo; exact hgo
  clear hHe hLe
  refine lv_iload_n hx hb dX8_write_0 rfl (lv_at hl 1 rfl) ?_
  refine lv_bipush (v := nI 32) hx hb dX8_write_1 (by decide) ?_
  refine lv_bipush (v := nI 126) hx hb dX8_write_3 (by decide) ?_
  refine ro_callS (As := [.int lv, .int (nI 32), .int (nI 126)]) (rest := []) ctx hKK hP (c_X8_in l g lv (nI 32) (nI 126)) gX8_write_X8_in rfl rfl rfl hdX8_in ⟨Nat.le_of_ble_eq_true rfl, Nat.le_of_ble_eq_true rfl⟩ [] rfl hl.1 rfl rfl (Nat.le_of_ble_eq_true rfl) dX8_write_5 (fun r_1 hr_1 => ?_)
  subst hr_1
  refine lv_if_ne (tgt := 13) hx hb dX8_write_8 (by decide) (fun c_2 => ?_) (fun c_2 => ?_)
  · replace c_2 := bI_t c_2
    have hB : xWrB lv = false := by simpa [inB, xWrB] using c_2
    refine lv_aload_n hx hb dX8_write_13 rfl (lv_at hl 0 rfl) ?_
    refine va_get (D := g.1) (cl := vwCl) (ci := 8) (v := .int (nI (sc 15))) (C := RX8) (T := TX8) (N := 29) hx hb hts hX8_write_X8 hown hK hP 0 rfl rfl 15 (by decide) (hts _ kX8_write_f92) (fun _ h9 => h9) rfl dX8_write_14 ?_
    refine lv_sipush (v := nI 200) hx hb dX8_write_17 (by decide) ?_
    refine lv_icmp_ne (tgt := 26) hx hb dX8_write_20 (by decide) (fun c_3 => ?_) (fun c_3 => ?_)
    · replace c_3 : ¬ (sc 15) = 200 := fun h => c_3 ((nI_eq (a := sc 15) (b := 200) (by omega) (by omega)).mpr h)
      refine lv_aload_n hx hb dX8_write_26 rfl (lv_at hl 0 rfl) ?_
      refine va_get (D := g.1) (cl := vwCl) (ci := 8) (v := .ref (a 14)) (C := RX8) (T := TX8) (N := 29) hx hb hts hX8_write_X8 hown hK hP 0 rfl rfl 14 (by decide) (hts _ kX8_write_f31) (fun _ h9 => h9) rfl dX8_write_27 ?_
      refine lv_aload_n hx hb dX8_write_30 rfl (lv_at hl 0 rfl) ?_
      refine va_get (D := g.1) (cl := vwCl) (ci := 8) (v := .int (nI (sc 15))) (C := RX8) (T := TX8) (N := 29) hx hb hts hX8_write_X8 hown hK hP 0 rfl rfl 15 (by decide) (hts _ kX8_write_f92) (fun _ h9 => h9) rfl dX8_write_31 ?_
      refine lv_iload_n hx hb dX8_write_34 rfl (lv_at hl 1 rfl) ?_
      refine ast_i (D := g.1) (cl := vwCl) (f := ar 14) (i := sc 15) (n := 200) (x := lv) hx hb hK hP hD hS 8 0 rfl rfl (by omega) (by decide) dX8_write_35 (fun H locs hP hD hS => ?_)
      have hP : va_P g.1 vwCl (mW g o a sc (upA ar 14 (upd (ar 14) (sc 15) lv))) H := hP
      have hD : va_D A (mW g o a sc (upA ar 14 (upd (ar 14) (sc 15) lv))) := hD
      refine lv_aload_n hx hb dX8_write_36 rfl (lv_at hl 0 rfl) ?_
      refine lv_dup hx hb dX8_write_37 rfl ?_
      refine va_get (D := g.1) (cl := vwCl) (ci := 8) (v := .int (nI (sc 15))) (C := RX8) (T := TX8) (N := 29) hx hb hts hX8_write_X8 hown hK hP 0 rfl rfl 15 (by decide) (hts _ kX8_write_f92) (fun _ h9 => h9) rfl dX8_write_38 ?_
      refine lv_iconst (v := nI 1) hx hb dX8_write_41 (by decide) ?_
      refine lv_iadd hx hb dX8_write_42 ?_
      refine lv_is (nI_add (sc 15) 1) ?_
      refine va_put (D := g.1) (cl := vwCl) (ci := 8) (v := .int (nI ((sc 15) + 1))) (ty := .int) (C := RX8) (T := TX8) (N := 29) hx hb hts hX8_write_X8 tyX8 tyX8_ok nmX8 hown hK hP hD hS 0 rfl rfl 15 (by decide) (hts _ kX8_write_f92) (fun _ h9 => h9) rfl (by decide +kernel) (rfl) (rfl) (Nat.le_of_ble_eq_true rfl) dX8_write_43 (fun H locs hP hD hS => ?_)
      have hP : va_P g.1 vwCl (mW g o a (updN sc 15 ((sc 15) + 1)) (upA ar 14 (upd (ar 14) (sc 15) lv))) H := hP
      have hD : va_D A (mW g o a (updN sc 15 ((sc 15) + 1)) (upA ar 14 (upd (ar 14) (sc 15) lv))) := hD
      refine lv_aload_n hx hb dX8_write_46 rfl (lv_at hl 0 rfl) ?_
      refine va_get (D := g.1) (cl := vwCl) (ci := 8) (v := .int (nI ((sc 15) + 1))) (C := RX8) (T := TX8) (N := 29) hx hb hts hX8_write_X8 hown hK hP 0 rfl rfl 15 (by decide) (hts _ kX8_write_f92) (fun _ h9 => h9) rfl dX8_write_47 ?_
      exact hret (nI ((sc 15) + 1)) (sc 15 + 1, upd (ar 14) (sc 15) lv) H locs 50 ls (⟨by rw [xWrA, if_neg (by rw [hB]; decide), if_neg (by omega)], by rw [if_neg (by rw [hB]; simp; omega)]⟩) (hP) (hD) hS (rfl) dX8_write_50
    · replace c_3 : (sc 15) = 200 := (nI_eq (a := sc 15) (b := 200) (by omega) (by omega)).mp c_3
      refine lv_bipush (v := (-3)) hx hb dX8_write_23 (by decide) ?_
      exact hret (-3) (sc 15, ar 14) H locs 25 ls (⟨by rw [xWrA, if_neg (by rw [hB]; decide), if_pos (by omega)], by rw [if_pos (Or.inr (by omega))]⟩) (hP) (hD) hS (rfl) dX8_write_25
  · replace c_2 := bI_f c_2
    have hB : xWrB lv = true := by simpa [inB, xWrB, Classical.or_iff_not_imp_left] using c_2
    refine lv_iconst (v := (-1)) hx hb dX8_write_11 (by decide) ?_
    exact hret (-1) (sc 15, ar 14) H locs 12 ls (⟨by simp [xWrA, hB], by simp [hB]⟩) (hP) (hD) hS (rfl) dX8_write_12
theorem kX8_wipe_f92 : (Cond.fieldLink RX8 92 "LastCallersWordModel" "texted" "I" : Cond) ∈ wsX8_wipe := List.mem_cons_of_mem _ aw_360
theorem hX8_wipe_X8 : ∀ w ∈ wsX80, w ∈ wsX8_wipe := fun w h => List.mem_cons_of_mem _ (ac_X8 w h)
set_option maxHeartbeats 400000 in
set_option maxRecDepth 100000 in
theorem c_X8_wipe (l : Launch) (g : GG) (o : Nat) (a : Nat → Nat) (sc : Nat → Nat) (ar : Nat → Nat → Int32) : Met l yX8_wipe wsX8_wipe ({ frames := 0, cells := 0, slots := 0, locals := 0 } : Room) (wr g [.ref o] (mW g o a sc ar)) (wQi g (mW g o a sc ar) (fun u : Unit => (mW g o a (updN sc 15 0) ar)) (fun rr u => rr = nI (sc 15))) 0 0 (cA (mW g o a sc ar)) := by
  refine wr_starti (cc := cX8_wipe) (maxL := 2) (ty := .int) (by decide) rfl (Nat.le_of_ble_eq_true rfl) (fun p e s m args below meth c Q A C hP hD hS hret ls hl => ?_)
  obtain ⟨hx, hb, hml, hr, hown, hts, hlk, hKK⟩ := id C
  have hK := hKK.1
  have hown : s.vm.findClass RX8 = some m.cls := hown
  have ctx : CallFix p m c cX8_wipe 2 s args wsX8_wipe RX8 := ⟨hx, hb, hml, hown, hts⟩
  have hl : lv_has ls 2 [(0, .ref o)] := hl
  obtain ⟨H, hHe⟩ : ∃ H, H = s.heap := ⟨_, rfl⟩
  obtain ⟨locs, hLe⟩ : ∃ L : List Loc, L = [] := ⟨_, rfl⟩
  have hP : va_P g.1 vwCl (mW g o a sc ar) H := by rw [hHe]; exact hP
  have hS : va_S A s.heap H locs := by rw [hHe, hLe]; exact hS
  suffices hgo : W p l e ({ frames := 0, cells := 0, slots := 0, locals := 0 } : Room) s m args below meth c H locs 0 0 Q (F0 m 0 ls []) by rw [hHe, hLe] at hgo; exact hgo
  clear hHe hLe
  refine lv_aload_n hx hb dX8_wipe_0 rfl (lv_at hl 0 rfl) ?_
  refine va_get (D := g.1) (cl := vwCl) (ci := 8) (v := .int (nI (sc 15))) (C := RX8) (T := TX8) (N := 29) hx hb hts hX8_wipe_X8 hown hK hP 0 rfl rfl 15 (by decide) (hts _ kX8_wipe_f92) (fun _ h9 => h9) rfl dX8_wipe_1 ?_
  refine lv_istore_n (lv' := [(1, .int (nI (sc 15))), (0, .ref o)]) hx hb dX8_wipe_4 rfl hl (by decide) rfl (fun ls hl => ?_)
  refine lv_aload_n hx hb dX8_wipe_5 rfl (lv_at hl 1 rfl) ?_
  refine lv_iconst (v := nI 0) hx hb dX8_wipe_6 (by decide) ?_
  refine va_put (D := g.1) (cl := vwCl) (ci := 8) (v := .int (nI 0)) (ty := .int) (C := RX8) (T := TX8) (N := 29) hx hb hts hX8_wipe_X8 tyX8 tyX8_ok nmX8 hown hK hP hD hS 0 rfl rfl 15 (by decide) (hts _ kX8_wipe_f92) (fun _ h9 => h9) rfl (by decide +kernel) (rfl) (rfl) (Nat.le_of_ble_eq_true rfl) dX8_wipe_7 (fun H locs hP hD hS => ?_)
  have hP : va_P g.1 vwCl (mW g o a (updN sc 15 0) ar) H := hP
  have hD : va_D A (mW g o a (updN sc 15 0) ar) := hD
  refine lv_iload_n hx hb dX8_wipe_10 rfl (lv_at hl 0 rfl) ?_
  exact hret (nI (sc 15)) () H locs 11 ls (rfl) (hP) (hD) hS (rfl) dX8_wipe_11

def mLt (tx : Nat → Int32) (n k : Nat) : Int32 := if n ≤ k then -1 else tx k
def mFg (tx : Nat → Int32) (n k : Nat) : Bool := inB (mLt tx n k) (nI 48) (nI 57)
def mNv (tx : Nat → Int32) (n p : Nat) : Int32 := if mFg tx n (p + 1) = true then nI 10 * (mLt tx n p - nI 48) + mLt tx n (p + 1) - nI 48 else mLt tx n p - nI 48
def mNp (tx : Nat → Int32) (n p : Nat) : Nat := if mFg tx n (p + 1) = true then p + 1 + 1 else p + 1
def mN1 (tx : Nat → Int32) (n p : Nat) : Option (Nat × Int32) := if mFg tx n p = true ∧ mLt tx n (mNp tx n p) = nI 59 then some (mNp tx n p + 1, mNv tx n p) else none
def mN2 (tx : Nat → Int32) (n p : Nat) : Option (Nat × Int32 × Int32) := if mFg tx n p = true ∧ mLt tx n (mNp tx n p) = nI 44 ∧ mFg tx n (mNp tx n p + 1) = true ∧ mLt tx n (mNp tx n (mNp tx n p + 1)) = nI 59 then some (mNp tx n (mNp tx n p + 1) + 1, mNv tx n p, mNv tx n (mNp tx n p + 1)) else none
theorem mLt_lt {tx : Nat → Int32} {n k : Nat} {c : Int32} (h : mLt tx n k = c) (hc : ¬ c = -1) : k < n := by
  rcases Nat.lt_or_ge k n with q | q
  · exact q
  · exact absurd (by rw [← h, mLt, if_pos q]) hc
theorem mFg_lt {tx : Nat → Int32} {n k : Nat} (h : mFg tx n k = true) : k < n := by
  rcases Nat.lt_or_ge k n with q | q
  · exact q
  · rw [mFg, mLt, if_pos q] at h; exact absurd h (by decide)
theorem kX8_letterAt_f92 : (Cond.fieldLink RX8 92 "LastCallersWordModel" "texted" "I" : Cond) ∈ wsX8_letterAt := List.mem_cons_of_mem _ aw_360
theorem hX8_letterAt_X8 : ∀ w ∈ wsX80, w ∈ wsX8_letterAt := fun w h => List.mem_cons_of_mem _ (ac_X8 w h)
theorem kX8_letterAt_f31 : (Cond.fieldLink RX8 31 "LastCallersWordModel" "text" "[I" : Cond) ∈ wsX8_letterAt := List.mem_cons_of_mem _ aw_295
set_option maxHeartbeats 400000 in
set_option maxRecDepth 100000 in
theorem c_X8_letterAt (l : Launch) (g : GG) (o : Nat) (a : Nat → Nat) (sc : Nat → Nat) (ar : Nat → Nat → Int32) (k : Nat) (hT : sc 15 ≤ 200) (hk : k ≤ 1000) : Met l yX8_letterAt wsX8_letterAt ({ frames := 0, cells := 0, slots := 0, locals := 0 } : Room) (ro g [.ref o, .int (nI k)] (mW g o a sc ar)) (vp_Si (fun rr => rr = mLt (ar 14) (sc 15) k)) 0 0 (fun _ => False) := by
  refine ro_start (cc := cX8_letterAt) (maxL := 2) (ty := .int) (by decide) rfl (Nat.le_of_ble_eq_true rfl) (fun p e s m args below meth c Q C hP hret ls hl => ?_)
  obtain ⟨hx, hb, hml, hr, hown, hts, hlk, hKK⟩ := id C
  have hK := hKK.1
  have hown : s.vm.findClass RX8 = some m.cls := hown
  have ctx : CallFix p m c cX8_letterAt 2 s args wsX8_letterAt RX8 := ⟨hx, hb, hml, hown, hts⟩
  have hl : lv_has ls 2 [(0, .ref o), (1, .int (nI k))] := hl
  refine lv_iload_n hx hb dX8_letterAt_0 rfl (lv_at hl 1 rfl) ?_
  refine lv_aload_n hx hb dX8_letterAt_1 rfl (lv_at hl 0 rfl) ?_
  refine va_get (D := g.1) (cl := vwCl) (ci := 8) (v := .int (nI (sc 15))) (C := RX8) (T := TX8) (N := 29) hx hb hts hX8_letterAt_X8 hown hK hP 0 rfl rfl 15 (by decide) (hts _ kX8_letterAt_f92) (fun _ h9 => h9) rfl dX8_letterAt_2 ?_
  refine lv_icmp_ge (tgt := 17) hx hb dX8_letterAt_5 (by decide) (fun c_1 => ?_) (fun c_1 => ?_)
  · replace c_1 : (sc 15) ≤ k := (nI_leI (a := sc 15) (b := k) (by omega) (by omega)).mp c_1
    refine lv_iconst (v := (-1)) hx hb dX8_letterAt_17 (by decide) ?_
    exact hret (-1) 18 ls (by simp [mLt, c_1]) (rfl) dX8_letterAt_18
  · replace c_1 : ¬ (sc 15) ≤ k := fun h => c_1 ((nI_leI (a := sc 15) (b := k) (by omega) (by omega)).mpr h)
    refine lv_aload_n hx hb dX8_letterAt_8 rfl (lv_at hl 0 rfl) ?_
    refine va_get (D := g.1) (cl := vwCl) (ci := 8) (v := .ref (a 14)) (C := RX8) (T := TX8) (N := 29) hx hb hts hX8_letterAt_X8 hown hK hP 0 rfl rfl 14 (by decide) (hts _ kX8_letterAt_f31) (fun _ h9 => h9) rfl dX8_letterAt_9 ?_
    refine lv_iload_n hx hb dX8_letterAt_12 rfl (lv_at hl 1 rfl) ?_
    refine ald_i (D := g.1) (cl := vwCl) (f := ar 14) (i := k) (n := 200) hx hb hK hP 8 0 rfl rfl (by omega) (by decide) dX8_letterAt_13 ?_
    refine lv_goto (tgt := 18) hx hb dX8_letterAt_14 (by decide) ?_
    exact hret ((ar 14) k) 18 ls (by simp [mLt, c_1]) (rfl) dX8_letterAt_18
theorem kX8_readNumbers_f95 : (Cond.fieldLink RX8 95 "LastCallersWordModel" "at" "I" : Cond) ∈ wsX8_readNumbers := List.mem_cons_of_mem _ aw_376
theorem hX8_readNumbers_X8 : ∀ w ∈ wsX80, w ∈ wsX8_readNumbers := fun w h => List.mem_cons_of_mem _ (ac_X8 w h)
theorem kX8_readNumbers_f34 : (Cond.fieldLink RX8 34 "LastCallersWordModel" "told" "[I" : Cond) ∈ wsX8_readNumbers := List.mem_cons_of_mem _ aw_296
set_option maxHeartbeats 400000 in
set_option maxRecDepth 100000 in
theorem c_X8_readNumbers1 (l : Launch) (g : GG) (o : Nat) (a : Nat → Nat) (sc : Nat → Nat) (ar : Nat → Nat → Int32) (hT : sc 15 ≤ 200) (hat : sc 16 ≤ sc 15) : Met l yX8_readNumbers wsX8_readNumbers ({ frames := 2, cells := 0, slots := 0, locals := 42 } : Room) (wr g [.ref o, .int (nI 1)] (mW g o a sc ar)) (wQi g (mW g o a sc ar) (fun u : Bool × Nat × (Nat → Int32) => (mW g o a (updN sc 16 u.2.1) (upA ar 17 u.2.2))) (fun rr u => rr = bI u.1 ∧ (u.1 = true → mN1 (ar 14) (sc 15) (sc 16) = some (u.2.1, u.2.2 0)) ∧ (u.1 = false → mN1 (ar 14) (sc 15) (sc 16) = none) ∧ u.2.1 ≤ sc 15)) 0 0 (cA (mW g o a sc ar)) := by
  refine wr_starti (cc := cX8_readNumbers) (maxL := 3) (ty := .boolean) (by decide) rfl (Nat.le_of_ble_eq_true rfl) (fun p e s m args below meth c Q A C hP hD hS hret ls hl => ?_)
  obtain ⟨hx, hb, hml, hr, hown, hts, hlk, hKK⟩ := id C
  have hK := hKK.1
  have hown : s.vm.findClass RX8 = some m.cls := hown
  have ctx : CallFix p m c cX8_readNumbers 3 s args wsX8_readNumbers RX8 := ⟨hx, hb, hml, hown, hts⟩
  have hl : lv_has ls 3 [(0, .ref o), (1, .int (nI 1))] := hl
  obtain ⟨H, hHe⟩ : ∃ H, H = s.heap := ⟨_, rfl⟩
  obtain ⟨locs, hLe⟩ : ∃ L : List Loc, L = [] := ⟨_, rfl⟩
  have hP : va_P g.1 vwCl (mW g o a sc ar) H := by rw [hHe]; exact hP
  have hS : va_S A s.heap H locs := by rw [hHe, hLe]; exact hS
  suffices hgo : W p l e ({ frames := 2, cells := 0, slots := 0, locals := 42 } : Room) s m args below meth c H locs 0 0 Q (F0 m 0 ls []) by rw [hHe, hLe] at hgo; exact hgo
  clear hHe hLe
  refine lv_iconst (v := nI 0) hx hb dX8_readNumbers_0 (by decide) ?_
  refine lv_istore_n (lv' := [(2, .int (nI 0)), (0, .ref o), (1, .int (nI 1))]) hx hb dX8_readNumbers_1 rfl hl (by decide) rfl (fun ls hl => ?_)
  refine lv_iload_n hx hb dX8_readNumbers_2 rfl (lv_at hl 0 rfl) ?_
  refine lv_iload_n hx hb dX8_readNumbers_3 rfl (lv_at hl 2 rfl) ?_
  refine lv_icmp_ge (tgt := 144) hx hb dX8_readNumbers_4 (by decide) (fun c_1 => absurd c_1 (by decide)) (fun c_1 => ?_)
  refine lv_aload_n hx hb dX8_readNumbers_7 rfl (lv_at hl 1 rfl) ?_
  refine lv_aload_n hx hb dX8_readNumbers_8 rfl (lv_at hl 1 rfl) ?_
  refine va_get (D := g.1) (cl := vwCl) (ci := 8) (v := .int (nI (sc 16))) (C := RX8) (T := TX8) (N := 29) hx hb hts hX8_readNumbers_X8 hown hK hP 0 rfl rfl 16 (by decide) (hts _ kX8_readNumbers_f95) (fun _ h9 => h9) rfl dX8_readNumbers_9 ?_
  refine ro_callV0 (As := [.int (nI (sc 16))]) (rest := []) (b := o) ctx hKK hP (c_X8_letterAt l g o a sc ar (sc 16) (show (sc 15) ≤ 200 from by omega) (show (sc 16) ≤ 1000 from by omega)) gX8_readNumbers_X8_letterAt rfl rfl rfl hdX8_letterAt ⟨Nat.le_of_ble_eq_true rfl, Nat.le_of_ble_eq_true rfl⟩ (ci := 8) (q0 := 0) rfl rfl hl.1 rfl rfl (Nat.le_of_ble_eq_true rfl) dX8_readNumbers_12 (fun r_2 hr_2 => ?_)
  have hr_2 : r_2 = mLt ((ar 14)) ((sc 15)) (sc 16) := hr_2
  subst hr_2
  refine ro_callS (As := [.int (mLt ((ar 14)) ((sc 15)) (sc 16))]) (rest := []) ctx hKK hP (c_X8_isFigure l g (mLt ((ar 14)) ((sc 15)) (sc 16))) gX8_readNumbers_X8_isFigure rfl rfl rfl hdX8_isFigure ⟨Nat.le_of_ble_eq_true rfl, Nat.le_of_ble_eq_true rfl⟩ [] rfl hl.1 rfl rfl (Nat.le_of_ble_eq_true rfl) dX8_readNumbers_15 (fun r_3 hr_3 => ?_)
  subst hr_3
  refine lv_if_ne (tgt := 23) hx hb dX8_readNumbers_18 (by decide) (fun c_4 => ?_) (fun c_4 => ?_)
  · replace c_4 := bI_t c_4
    refine lv_aload_n hx hb dX8_readNumbers_23 rfl (lv_at hl 1 rfl) ?_
    refine va_get (D := g.1) (cl := vwCl) (ci := 8) (v := .ref (a 17)) (C := RX8) (T := TX8) (N := 29) hx hb hts hX8_readNumbers_X8 hown hK hP 0 rfl rfl 17 (by decide) (hts _ kX8_readNumbers_f34) (fun _ h9 => h9) rfl dX8_readNumbers_24 ?_
    refine lv_iload_n hx hb dX8_readNumbers_27 rfl (lv_at hl 0 rfl) ?_
    refine lv_aload_n hx hb dX8_readNumbers_28 rfl (lv_at hl 1 rfl) ?_
    refine lv_aload_n hx hb dX8_readNumbers_29 rfl (lv_at hl 1 rfl) ?_
    refine va_get (D := g.1) (cl := vwCl) (ci := 8) (v := .int (nI (sc 16))) (C := RX8) (T := TX8) (N := 29) hx hb hts hX8_readNumbers_X8 hown hK hP 0 rfl rfl 16 (by decide) (hts _ kX8_readNumbers_f95) (fun _ h9 => h9) rfl dX8_readNumbers_30 ?_
    refine ro_callV0 (As := [.int (nI (sc 16))]) (rest := [.int (nI 0), .ref (a 17)]) (b := o) ctx hKK hP (c_X8_letterAt l g o a sc ar (sc 16) (show (sc 15) ≤ 200 from by omega) (show (sc 16) ≤ 1000 from by omega)) gX8_readNumbers_X8_letterAt rfl rfl rfl hdX8_letterAt ⟨Nat.le_of_ble_eq_true rfl, Nat.le_of_ble_eq_true rfl⟩ (ci := 8) (q0 := 0) rfl rfl hl.1 rfl rfl (Nat.le_of_ble_eq_true rfl) dX8_readNumbers_33 (fun r_5 hr_5 => ?_)
    have hr_5 : r_5 = mLt ((ar 14)) ((sc 15)) (sc 16) := hr_5
    subst hr_5
    refine lv_bipush (v := nI 48) hx hb dX8_readNumbers_36 (by decide) ?_
    refine lv_isub hx hb dX8_readNumbers_38 ?_
    refine ast_i (D := g.1) (cl := vwCl) (f := ar 17) (i := 0) (n := 2) (x := (mLt ((ar 14)) ((sc 15)) (sc 16)) - (nI 48)) hx hb hK hP hD hS 9 0 rfl rfl (by omega) (by decide) dX8_readNumbers_39 (fun H locs hP hD hS => ?_)
    have hP : va_P g.1 vwCl (mW g o a sc (upA ar 17 (upd (ar 17) 0 ((mLt ((ar 14)) ((sc 15)) (sc 16)) - (nI 48))))) H := hP
    have hD : va_D A (mW g o a sc (upA ar 17 (upd (ar 17) 0 ((mLt ((ar 14)) ((sc 15)) (sc 16)) - (nI 48))))) := hD
    refine lv_aload_n hx hb dX8_readNumbers_40 rfl (lv_at hl 1 rfl) ?_
    refine lv_dup hx hb dX8_readNumbers_41 rfl ?_
    refine va_get (D := g.1) (cl := vwCl) (ci := 8) (v := .int (nI (sc 16))) (C := RX8) (T := TX8) (N := 29) hx hb hts hX8_readNumbers_X8 hown hK hP 0 rfl rfl 16 (by decide) (hts _ kX8_readNumbers_f95) (fun _ h9 => h9) rfl dX8_readNumbers_42 ?_
    refine lv_iconst (v := nI 1) hx hb dX8_readNumbers_45 (by decide) ?_
    refine lv_iadd hx hb dX8_readNumbers_46 ?_
    refine lv_is (nI_add (sc 16) 1) ?_
    refine va_put (D := g.1) (cl := vwCl) (ci := 8) (v := .int (nI ((sc 16) + 1))) (ty := .int) (C := RX8) (T := TX8) (N := 29) hx hb hts hX8_readNumbers_X8 tyX8 tyX8_ok nmX8 hown hK hP hD hS 0 rfl rfl 16 (by decide) (hts _ kX8_readNumbers_f95) (fun _ h9 => h9) rfl (by decide +kernel) (rfl) (rfl) (Nat.le_of_ble_eq_true rfl) dX8_readNumbers_47 (fun H locs hP hD hS => ?_)
    have hP : va_P g.1 vwCl (mW g o a (updN sc 16 ((sc 16) + 1)) (upA ar 17 (upd (ar 17) 0 ((mLt ((ar 14)) ((sc 15)) (sc 16)) - (nI 48))))) H := hP
    have hD : va_D A (mW g o a (updN sc 16 ((sc 16) + 1)) (upA ar 17 (upd (ar 17) 0 ((mLt ((ar 14)) ((sc 15)) (sc 16)) - (nI 48))))) := hD
    refine lv_aload_n hx hb dX8_readNumbers_50 rfl (lv_at hl 1 rfl) ?_
    refine lv_aload_n hx hb dX8_readNumbers_51 rfl (lv_at hl 1 rfl) ?_
    refine va_get (D := g.1) (cl := vwCl) (ci := 8) (v := .int (nI ((sc 16) + 1))) (C := RX8) (T := TX8) (N := 29) hx hb hts hX8_readNumbers_X8 hown hK hP 0 rfl rfl 16 (by decide) (hts _ kX8_readNumbers_f95) (fun _ h9 => h9) rfl dX8_readNumbers_52 ?_
    refine ro_callV0 (As := [.int (nI ((sc 16) + 1))]) (rest := []) (b := o) ctx hKK hP (c_X8_letterAt l g o a (updN sc 16 ((sc 16) + 1)) (upA ar 17 (upd (ar 17) 0 ((mLt ((ar 14)) ((sc 15)) (sc 16)) - (nI 48)))) ((sc 16) + 1) (show (sc 15) ≤ 200 from by omega) (show ((sc 16) + 1) ≤ 1000 from by omega)) gX8_readNumbers_X8_letterAt rfl rfl rfl hdX8_letterAt ⟨Nat.le_of_ble_eq_true rfl, Nat.le_of_ble_eq_true rfl⟩ (ci := 8) (q0 := 0) rfl rfl hl.1 rfl rfl (Nat.le_of_ble_eq_true rfl) dX8_readNumbers_55 (fun r_6 hr_6 => ?_)
    have hr_6 : r_6 = mLt ((ar 14)) ((sc 15)) ((sc 16) + 1) := hr_6
    subst hr_6
    refine ro_callS (As := [.int (mLt ((ar 14)) ((sc 15)) ((sc 16) + 1))]) (rest := []) ctx hKK hP (c_X8_isFigure l g (mLt ((ar 14)) ((sc 15)) ((sc 16) + 1))) gX8_readNumbers_X8_isFigure rfl rfl rfl hdX8_isFigure ⟨Nat.le_of_ble_eq_true rfl, Nat.le_of_ble_eq_true rfl⟩ [] rfl hl.1 rfl rfl (Nat.le_of_ble_eq_true rfl) dX8_readNumbers_58 (fun r_7 hr_7 => ?_)
    subst hr_7
    refine lv_if_eq (tgt := 101) hx hb dX8_readNumbers_61 (by decide) (fun c_8 => ?_) (fun c_8 => ?_)
    · replace c_8 := bI_f c_8
      refine lv_aload_n hx hb dX8_readNumbers_101 rfl (lv_at hl 1 rfl) ?_
      refine lv_aload_n hx hb dX8_readNumbers_102 rfl (lv_at hl 1 rfl) ?_
      refine va_get (D := g.1) (cl := vwCl) (ci := 8) (v := .int (nI ((sc 16) + 1))) (C := RX8) (T := TX8) (N := 29) hx hb hts hX8_readNumbers_X8 hown hK hP 0 rfl rfl 16 (by decide) (hts _ kX8_readNumbers_f95) (fun _ h9 => h9) rfl dX8_readNumbers_103 ?_
      refine ro_callV0 (As := [.int (nI ((sc 16) + 1))]) (rest := []) (b := o) ctx hKK hP (c_X8_letterAt l g o a (updN sc 16 ((sc 16) + 1)) (upA ar 17 (upd (ar 17) 0 ((mLt ((ar 14)) ((sc 15)) (sc 16)) - (nI 48)))) ((sc 16) + 1) (show (sc 15) ≤ 200 from by omega) (show ((sc 16) + 1) ≤ 1000 from by omega)) gX8_readNumbers_X8_letterAt rfl rfl rfl hdX8_letterAt ⟨Nat.le_of_ble_eq_true rfl, Nat.le_of_ble_eq_true rfl⟩ (ci := 8) (q0 := 0) rfl rfl hl.1 rfl rfl (Nat.le_of_ble_eq_true rfl) dX8_readNumbers_106 (fun r_9 hr_9 => ?_)
      have hr_9 : r_9 = mLt ((ar 14)) ((sc 15)) ((sc 16) + 1) := hr_9
      subst hr_9
      refine lv_iload_n hx hb dX8_readNumbers_109 rfl (lv_at hl 0 rfl) ?_
      refine lv_iload_n hx hb dX8_readNumbers_110 rfl (lv_at hl 2 rfl) ?_
      refine lv_iconst (v := nI 1) hx hb dX8_readNumbers_111 (by decide) ?_
      refine lv_isub hx hb dX8_readNumbers_112 ?_
      refine lv_is (x' := nI 0) (by decide) ?_
      refine lv_icmp_ge (tgt := 121) hx hb dX8_readNumbers_113 (by decide) (fun c_10 => ?_) (fun c_10 => absurd c_10 (by decide))
      refine lv_bipush (v := nI 59) hx hb dX8_readNumbers_121 (by decide) ?_
      refine lv_icmp_eq (tgt := 128) hx hb dX8_readNumbers_123 (by decide) (fun c_11 => ?_) (fun c_11 => ?_)
      · refine lv_aload_n hx hb dX8_readNumbers_128 rfl (lv_at hl 1 rfl) ?_
        refine lv_dup hx hb dX8_readNumbers_129 rfl ?_
        refine va_get (D := g.1) (cl := vwCl) (ci := 8) (v := .int (nI ((sc 16) + 1))) (C := RX8) (T := TX8) (N := 29) hx hb hts hX8_readNumbers_X8 hown hK hP 0 rfl rfl 16 (by decide) (hts _ kX8_readNumbers_f95) (fun _ h9 => h9) rfl dX8_readNumbers_130 ?_
        refine lv_iconst (v := nI 1) hx hb dX8_readNumbers_133 (by decide) ?_
        refine lv_iadd hx hb dX8_readNumbers_134 ?_
        refine lv_is (nI_add ((sc 16) + 1) 1) ?_
        refine va_put (D := g.1) (cl := vwCl) (ci := 8) (v := .int (nI (((sc 16) + 1) + 1))) (ty := .int) (C := RX8) (T := TX8) (N := 29) hx hb hts hX8_readNumbers_X8 tyX8 tyX8_ok nmX8 hown hK hP hD hS 0 rfl rfl 16 (by decide) (hts _ kX8_readNumbers_f95) (fun _ h9 => h9) rfl (by decide +kernel) (rfl) (rfl) (Nat.le_of_ble_eq_true rfl) dX8_readNumbers_135 (fun H locs hP hD hS => ?_)
        have hP : va_P g.1 vwCl (mW g o a (updN sc 16 (((sc 16) + 1) + 1)) (upA ar 17 (upd (ar 17) 0 ((mLt ((ar 14)) ((sc 15)) (sc 16)) - (nI 48))))) H := hP
        have hD : va_D A (mW g o a (updN sc 16 (((sc 16) + 1) + 1)) (upA ar 17 (upd (ar 17) 0 ((mLt ((ar 14)) ((sc 15)) (sc 16)) - (nI 48))))) := hD
        refine lv_iinc (v := nI 1) (lv' := [(2, .int (nI 1)), (0, .ref o), (1, .int (nI 1))]) hx hb dX8_readNumbers_138 hl (k := 0) rfl (by decide) (by decide) rfl (fun ls hl => ?_)
        refine lv_goto (tgt := 2) hx hb dX8_readNumbers_141 (by decide) ?_
        refine lv_iload_n hx hb dX8_readNumbers_2 rfl (lv_at hl 0 rfl) ?_
        refine lv_iload_n hx hb dX8_readNumbers_3 rfl (lv_at hl 2 rfl) ?_
        refine lv_icmp_ge (tgt := 144) hx hb dX8_readNumbers_4 (by decide) (fun c_12 => ?_) (fun c_12 => absurd c_12 (by decide))
        refine lv_iconst (v := nI 1) hx hb dX8_readNumbers_144 (by decide) ?_
        exact hret (nI 1) (true, ((sc 16) + 1) + 1, upd (ar 17) 0 ((mLt ((ar 14)) ((sc 15)) (sc 16)) - (nI 48))) H locs 145 ls (⟨rfl, fun _ => by simp (config := { decide := true }) [mN1, mNp, mNv, mFg, c_4, c_8, c_11, pk_us, upd], fun h => tf h, by have hh := hat; (try have b0 := mFg_lt (tx := ar 14) (n := sc 15) c_4); (try have b1 := mFg_lt (tx := ar 14) (n := sc 15) c_8); (try have b2 := mFg_lt (tx := ar 14) (n := sc 15) c_11); (try have d0 := mLt_lt c_4 (by decide)); (try have d1 := mLt_lt c_8 (by decide)); (try have d2 := mLt_lt c_11 (by decide)); show ((sc 16) + 1) + 1 ≤ sc 15; omega⟩) (hP) (hD) hS (rfl) dX8_readNumbers_145
      · refine lv_iconst (v := nI 0) hx hb dX8_readNumbers_126 (by decide) ?_
        exact hret (nI 0) (false, (sc 16) + 1, upd (ar 17) 0 ((mLt ((ar 14)) ((sc 15)) (sc 16)) - (nI 48))) H locs 127 ls (⟨rfl, fun h => ft h, fun _ => by simp (config := { decide := true }) [mN1, mNp, mNv, mFg, c_4, c_8, c_11, pk_us, upd], by have hh := hat; (try have b0 := mFg_lt (tx := ar 14) (n := sc 15) c_4); (try have b1 := mFg_lt (tx := ar 14) (n := sc 15) c_8); (try have b2 := mFg_lt (tx := ar 14) (n := sc 15) c_11); (try have d0 := mLt_lt c_4 (by decide)); (try have d1 := mLt_lt c_8 (by decide)); (try have d2 := mLt_lt c_11 (by decide)); show (sc 16) + 1 ≤ sc 15; omega⟩) (hP) (hD) hS (rfl) dX8_readNumbers_127
    · replace c_8 := bI_t c_8
      refine lv_aload_n hx hb dX8_readNumbers_64 rfl (lv_at hl 1 rfl) ?_
      refine va_get (D := g.1) (cl := vwCl) (ci := 8) (v := .ref (a 17)) (C := RX8) (T := TX8) (N := 29) hx hb hts hX8_readNumbers_X8 hown hK hP 0 rfl rfl 17 (by decide) (hts _ kX8_readNumbers_f34) (fun _ h9 => h9) rfl dX8_readNumbers_65 ?_
      refine lv_iload_n hx hb dX8_readNumbers_68 rfl (lv_at hl 0 rfl) ?_
      refine lv_bipush (v := nI 10) hx hb dX8_readNumbers_69 (by decide) ?_
      refine lv_aload_n hx hb dX8_readNumbers_71 rfl (lv_at hl 1 rfl) ?_
      refine va_get (D := g.1) (cl := vwCl) (ci := 8) (v := .ref (a 17)) (C := RX8) (T := TX8) (N := 29) hx hb hts hX8_readNumbers_X8 hown hK hP 0 rfl rfl 17 (by decide) (hts _ kX8_readNumbers_f34) (fun _ h9 => h9) rfl dX8_readNumbers_72 ?_
      refine lv_iload_n hx hb dX8_readNumbers_75 rfl (lv_at hl 0 rfl) ?_
      refine ald_i (D := g.1) (cl := vwCl) (f := upd (ar 17) 0 ((mLt ((ar 14)) ((sc 15)) (sc 16)) - (nI 48))) (i := 0) (n := 2) hx hb hK hP 9 0 rfl rfl (by omega) (by decide) dX8_readNumbers_76 ?_
      refine lv_imul hx hb dX8_readNumbers_77 ?_
      refine lv_aload_n hx hb dX8_readNumbers_78 rfl (lv_at hl 1 rfl) ?_
      refine lv_aload_n hx hb dX8_readNumbers_79 rfl (lv_at hl 1 rfl) ?_
      refine va_get (D := g.1) (cl := vwCl) (ci := 8) (v := .int (nI ((sc 16) + 1))) (C := RX8) (T := TX8) (N := 29) hx hb hts hX8_readNumbers_X8 hown hK hP 0 rfl rfl 16 (by decide) (hts _ kX8_readNumbers_f95) (fun _ h9 => h9) rfl dX8_readNumbers_80 ?_
      refine ro_callV0 (As := [.int (nI ((sc 16) + 1))]) (rest := [.int ((nI 10) * ((upd (ar 17) 0 ((mLt ((ar 14)) ((sc 15)) (sc 16)) - (nI 48))) 0)), .int (nI 0), .ref (a 17)]) (b := o) ctx hKK hP (c_X8_letterAt l g o a (updN sc 16 ((sc 16) + 1)) (upA ar 17 (upd (ar 17) 0 ((mLt ((ar 14)) ((sc 15)) (sc 16)) - (nI 48)))) ((sc 16) + 1) (show (sc 15) ≤ 200 from by omega) (show ((sc 16) + 1) ≤ 1000 from by omega)) gX8_readNumbers_X8_letterAt rfl rfl rfl hdX8_letterAt ⟨Nat.le_of_ble_eq_true rfl, Nat.le_of_ble_eq_true rfl⟩ (ci := 8) (q0 := 0) rfl rfl hl.1 rfl rfl (Nat.le_of_ble_eq_true rfl) dX8_readNumbers_83 (fun r_13 hr_13 => ?_)
      have hr_13 : r_13 = mLt ((ar 14)) ((sc 15)) ((sc 16) + 1) := hr_13
      subst hr_13
      refine lv_iadd hx hb dX8_readNumbers_86 ?_
      refine lv_bipush (v := nI 48) hx hb dX8_readNumbers_87 (by decide) ?_
      refine lv_isub hx hb dX8_readNumbers_89 ?_
      refine ast_i (D := g.1) (cl := vwCl) (f := upd (ar 17) 0 ((mLt ((ar 14)) ((sc 15)) (sc 16)) - (nI 48))) (i := 0) (n := 2) (x := (((nI 10) * ((upd (ar 17) 0 ((mLt ((ar 14)) ((sc 15)) (sc 16)) - (nI 48))) 0)) + (mLt ((ar 14)) ((sc 15)) ((sc 16) + 1))) - (nI 48)) hx hb hK hP hD hS 9 0 rfl rfl (by omega) (by decide) dX8_readNumbers_90 (fun H locs hP hD hS => ?_)
      have hP : va_P g.1 vwCl (mW g o a (updN sc 16 ((sc 16) + 1)) (upA ar 17 (upd (upd (ar 17) 0 ((mLt ((ar 14)) ((sc 15)) (sc 16)) - (nI 48))) 0 ((((nI 10) * ((upd (ar 17) 0 ((mLt ((ar 14)) ((sc 15)) (sc 16)) - (nI 48))) 0)) + (mLt ((ar 14)) ((sc 15)) ((sc 16) + 1))) - (nI 48))))) H := hP
      have hD : va_D A (mW g o a (updN sc 16 ((sc 16) + 1)) (upA ar 17 (upd (upd (ar 17) 0 ((mLt ((ar 14)) ((sc 15)) (sc 16)) - (nI 48))) 0 ((((nI 10) * ((upd (ar 17) 0 ((mLt ((ar 14)) ((sc 15)) (sc 16)) - (nI 48))) 0)) + (mLt ((ar 14)) ((sc 15)) ((sc 16) + 1))) - (nI 48))))) := hD
      refine lv_aload_n hx hb dX8_readNumbers_91 rfl (lv_at hl 1 rfl) ?_
      refine lv_dup hx hb dX8_readNumbers_92 rfl ?_
      refine va_get (D := g.1) (cl := vwCl) (ci := 8) (v := .int (nI ((sc 16) + 1))) (C := RX8) (T := TX8) (N := 29) hx hb hts hX8_readNumbers_X8 hown hK hP 0 rfl rfl 16 (by decide) (hts _ kX8_readNumbers_f95) (fun _ h9 => h9) rfl dX8_readNumbers_93 ?_
      refine lv_iconst (v := nI 1) hx hb dX8_readNumbers_96 (by decide) ?_
      refine lv_iadd hx hb dX8_readNumbers_97 ?_
      refine lv_is (nI_add ((sc 16) + 1) 1) ?_
      refine va_put (D := g.1) (cl := vwCl) (ci := 8) (v := .int (nI (((sc 16) + 1) + 1))) (ty := .int) (C := RX8) (T := TX8) (N := 29) hx hb hts hX8_readNumbers_X8 tyX8 tyX8_ok nmX8 hown hK hP hD hS 0 rfl rfl 16 (by decide) (hts _ kX8_readNumbers_f95) (fun _ h9 => h9) rfl (by decide +kernel) (rfl) (rfl) (Nat.le_of_ble_eq_true rfl) dX8_readNumbers_98 (fun H locs hP hD hS => ?_)
      have hP : va_P g.1 vwCl (mW g o a (updN sc 16 (((sc 16) + 1) + 1)) (upA ar 17 (upd (upd (ar 17) 0 ((mLt ((ar 14)) ((sc 15)) (sc 16)) - (nI 48))) 0 ((((nI 10) * ((upd (ar 17) 0 ((mLt ((ar 14)) ((sc 15)) (sc 16)) - (nI 48))) 0)) + (mLt ((ar 14)) ((sc 15)) ((sc 16) + 1))) - (nI 48))))) H := hP
      have hD : va_D A (mW g o a (updN sc 16 (((sc 16) + 1) + 1)) (upA ar 17 (upd (upd (ar 17) 0 ((mLt ((ar 14)) ((sc 15)) (sc 16)) - (nI 48))) 0 ((((nI 10) * ((upd (ar 17) 0 ((mLt ((ar 14)) ((sc 15)) (sc 16)) - (nI 48))) 0)) + (mLt ((ar 14)) ((sc 15)) ((sc 16) + 1))) - (nI 48))))) := hD
      refine lv_aload_n hx hb dX8_readNumbers_101 rfl (lv_at hl 1 rfl) ?_
      refine lv_aload_n hx hb dX8_readNumbers_102 rfl (lv_at hl 1 rfl) ?_
      refine va_get (D := g.1) (cl := vwCl) (ci := 8) (v := .int (nI (((sc 16) + 1) + 1))) (C := RX8) (T := TX8) (N := 29) hx hb hts hX8_readNumbers_X8 hown hK hP 0 rfl rfl 16 (by decide) (hts _ kX8_readNumbers_f95) (fun _ h9 => h9) rfl dX8_readNumbers_103 ?_
      refine ro_callV0 (As := [.int (nI (((sc 16) + 1) + 1))]) (rest := []) (b := o) ctx hKK hP (c_X8_letterAt l g o a (updN sc 16 (((sc 16) + 1) + 1)) (upA ar 17 (upd (upd (ar 17) 0 ((mLt ((ar 14)) ((sc 15)) (sc 16)) - (nI 48))) 0 ((((nI 10) * ((upd (ar 17) 0 ((mLt ((ar 14)) ((sc 15)) (sc 16)) - (nI 48))) 0)) + (mLt ((ar 14)) ((sc 15)) ((sc 16) + 1))) - (nI 48)))) (((sc 16) + 1) + 1) (show (sc 15) ≤ 200 from by omega) (show (((sc 16) + 1) + 1) ≤ 1000 from by omega)) gX8_readNumbers_X8_letterAt rfl rfl rfl hdX8_letterAt ⟨Nat.le_of_ble_eq_true rfl, Nat.le_of_ble_eq_true rfl⟩ (ci := 8) (q0 := 0) rfl rfl hl.1 rfl rfl (Nat.le_of_ble_eq_true rfl) dX8_readNumbers_106 (fun r_14 hr_14 => ?_)
      have hr_14 : r_14 = mLt ((ar 14)) ((sc 15)) (((sc 16) + 1) + 1) := hr_14
      subst hr_14
      refine lv_iload_n hx hb dX8_readNumbers_109 rfl (lv_at hl 0 rfl) ?_
      refine lv_iload_n hx hb dX8_readNumbers_110 rfl (lv_at hl 2 rfl) ?_
      refine lv_iconst (v := nI 1) hx hb dX8_readNumbers_111 (by decide) ?_
      refine lv_isub hx hb dX8_readNumbers_112 ?_
      refine lv_is (x' := nI 0) (by decide) ?_
      refine lv_icmp_ge (tgt := 121) hx hb dX8_readNumbers_113 (by decide) (fun c_15 => ?_) (fun c_15 => absurd c_15 (by decide))
      refine lv_bipush (v := nI 59) hx hb dX8_readNumbers_121 (by decide) ?_
      refine lv_icmp_eq (tgt := 128) hx hb dX8_readNumbers_123 (by decide) (fun c_16 => ?_) (fun c_16 => ?_)
      · refine lv_aload_n hx hb dX8_readNumbers_128 rfl (lv_at hl 1 rfl) ?_
        refine lv_dup hx hb dX8_readNumbers_129 rfl ?_
        refine va_get (D := g.1) (cl := vwCl) (ci := 8) (v := .int (nI (((sc 16) + 1) + 1))) (C := RX8) (T := TX8) (N := 29) hx hb hts hX8_readNumbers_X8 hown hK hP 0 rfl rfl 16 (by decide) (hts _ kX8_readNumbers_f95) (fun _ h9 => h9) rfl dX8_readNumbers_130 ?_
        refine lv_iconst (v := nI 1) hx hb dX8_readNumbers_133 (by decide) ?_
        refine lv_iadd hx hb dX8_readNumbers_134 ?_
        refine lv_is (nI_add (((sc 16) + 1) + 1) 1) ?_
        refine va_put (D := g.1) (cl := vwCl) (ci := 8) (v := .int (nI ((((sc 16) + 1) + 1) + 1))) (ty := .int) (C := RX8) (T := TX8) (N := 29) hx hb hts hX8_readNumbers_X8 tyX8 tyX8_ok nmX8 hown hK hP hD hS 0 rfl rfl 16 (by decide) (hts _ kX8_readNumbers_f95) (fun _ h9 => h9) rfl (by decide +kernel) (rfl) (rfl) (Nat.le_of_ble_eq_true rfl) dX8_readNumbers_135 (fun H locs hP hD hS => ?_)
        have hP : va_P g.1 vwCl (mW g o a (updN sc 16 ((((sc 16) + 1) + 1) + 1)) (upA ar 17 (upd (upd (ar 17) 0 ((mLt ((ar 14)) ((sc 15)) (sc 16)) - (nI 48))) 0 ((((nI 10) * ((upd (ar 17) 0 ((mLt ((ar 14)) ((sc 15)) (sc 16)) - (nI 48))) 0)) + (mLt ((ar 14)) ((sc 15)) ((sc 16) + 1))) - (nI 48))))) H := hP
        have hD : va_D A (mW g o a (updN sc 16 ((((sc 16) + 1) + 1) + 1)) (upA ar 17 (upd (upd (ar 17) 0 ((mLt ((ar 14)) ((sc 15)) (sc 16)) - (nI 48))) 0 ((((nI 10) * ((upd (ar 17) 0 ((mLt ((ar 14)) ((sc 15)) (sc 16)) - (nI 48))) 0)) + (mLt ((ar 14)) ((sc 15)) ((sc 16) + 1))) - (nI 48))))) := hD
        refine lv_iinc (v := nI 1) (lv' := [(2, .int (nI 1)), (0, .ref o), (1, .int (nI 1))]) hx hb dX8_readNumbers_138 hl (k := 0) rfl (by decide) (by decide) rfl (fun ls hl => ?_)
        refine lv_goto (tgt := 2) hx hb dX8_readNumbers_141 (by decide) ?_
        refine lv_iload_n hx hb dX8_readNumbers_2 rfl (lv_at hl 0 rfl) ?_
        refine lv_iload_n hx hb dX8_readNumbers_3 rfl (lv_at hl 2 rfl) ?_
        refine lv_icmp_ge (tgt := 144) hx hb dX8_readNumbers_4 (by decide) (fun c_17 => ?_) (fun c_17 => absurd c_17 (by decide))
        refine lv_iconst (v := nI 1) hx hb dX8_readNumbers_144 (by decide) ?_
        exact hret (nI 1) (true, (((sc 16) + 1) + 1) + 1, upd (upd (ar 17) 0 ((mLt ((ar 14)) ((sc 15)) (sc 16)) - (nI 48))) 0 ((((nI 10) * ((upd (ar 17) 0 ((mLt ((ar 14)) ((sc 15)) (sc 16)) - (nI 48))) 0)) + (mLt ((ar 14)) ((sc 15)) ((sc 16) + 1))) - (nI 48))) H locs 145 ls (⟨rfl, fun _ => by simp (config := { decide := true }) [mN1, mNp, mNv, mFg, c_4, c_8, c_16, pk_us, upd], fun h => tf h, by have hh := hat; (try have b0 := mFg_lt (tx := ar 14) (n := sc 15) c_4); (try have b1 := mFg_lt (tx := ar 14) (n := sc 15) c_8); (try have b2 := mFg_lt (tx := ar 14) (n := sc 15) c_16); (try have d0 := mLt_lt c_4 (by decide)); (try have d1 := mLt_lt c_8 (by decide)); (try have d2 := mLt_lt c_16 (by decide)); show (((sc 16) + 1) + 1) + 1 ≤ sc 15; omega⟩) (hP) (hD) hS (rfl) dX8_readNumbers_145
      · refine lv_iconst (v := nI 0) hx hb dX8_readNumbers_126 (by decide) ?_
        exact hret (nI 0) (false, ((sc 16) + 1) + 1, upd (upd (ar 17) 0 ((mLt ((ar 14)) ((sc 15)) (sc 16)) - (nI 48))) 0 ((((nI 10) * ((upd (ar 17) 0 ((mLt ((ar 14)) ((sc 15)) (sc 16)) - (nI 48))) 0)) + (mLt ((ar 14)) ((sc 15)) ((sc 16) + 1))) - (nI 48))) H locs 127 ls (⟨rfl, fun h => ft h, fun _ => by simp (config := { decide := true }) [mN1, mNp, mNv, mFg, c_4, c_8, c_16, pk_us, upd], by have hh := hat; (try have b0 := mFg_lt (tx := ar 14) (n := sc 15) c_4); (try have b1 := mFg_lt (tx := ar 14) (n := sc 15) c_8); (try have b2 := mFg_lt (tx := ar 14) (n := sc 15) c_16); (try have d0 := mLt_lt c_4 (by decide)); (try have d1 := mLt_lt c_8 (by decide)); (try have d2 := mLt_lt c_16 (by decide)); show ((sc 16) + 1) + 1 ≤ sc 15; omega⟩) (hP) (hD) hS (rfl) dX8_readNumbers_127
  · replace c_4 := bI_f c_4
    refine lv_iconst (v := nI 0) hx hb dX8_readNumbers_21 (by decide) ?_
    exact hret (nI 0) (false, sc 16, ar 17) H locs 22 ls (⟨rfl, fun h => ft h, fun _ => by simp (config := { decide := true }) [mN1, mNp, mNv, mFg, c_4, pk_us, upd], by have hh := hat; (try have b0 := mFg_lt (tx := ar 14) (n := sc 15) c_4); (try have d0 := mLt_lt c_4 (by decide)); show sc 16 ≤ sc 15; omega⟩) (hP) (hD) hS (rfl) dX8_readNumbers_22
set_option maxHeartbeats 400000 in
set_option maxRecDepth 100000 in
theorem c_X8_readNumbers2 (l : Launch) (g : GG) (o : Nat) (a : Nat → Nat) (sc : Nat → Nat) (ar : Nat → Nat → Int32) (hT : sc 15 ≤ 200) (hat : sc 16 ≤ sc 15) : Met l yX8_readNumbers wsX8_readNumbers ({ frames := 2, cells := 0, slots := 0, locals := 42 } : Room) (wr g [.ref o, .int (nI 2)] (mW g o a sc ar)) (wQi g (mW g o a sc ar) (fun u : Bool × Nat × (Nat → Int32) => (mW g o a (updN sc 16 u.2.1) (upA ar 17 u.2.2))) (fun rr u => rr = bI u.1 ∧ (u.1 = true → mN2 (ar 14) (sc 15) (sc 16) = some (u.2.1, u.2.2 0, u.2.2 1)) ∧ (u.1 = false → mN2 (ar 14) (sc 15) (sc 16) = none) ∧ u.2.1 ≤ sc 15)) 0 0 (cA (mW g o a sc ar)) := by
  refine wr_starti (cc := cX8_readNumbers) (maxL := 3) (ty := .boolean) (by decide) rfl (Nat.le_of_ble_eq_true rfl) (fun p e s m args below meth c Q A C hP hD hS hret ls hl => ?_)
  obtain ⟨hx, hb, hml, hr, hown, hts, hlk, hKK⟩ := id C
  have hK := hKK.1
  have hown : s.vm.findClass RX8 = some m.cls := hown
  have ctx : CallFix p m c cX8_readNumbers 3 s args wsX8_readNumbers RX8 := ⟨hx, hb, hml, hown, hts⟩
  have hl : lv_has ls 3 [(0, .ref o), (1, .int (nI 2))] := hl
  obtain ⟨H, hHe⟩ : ∃ H, H = s.heap := ⟨_, rfl⟩
  obtain ⟨locs, hLe⟩ : ∃ L : List Loc, L = [] := ⟨_, rfl⟩
  have hP : va_P g.1 vwCl (mW g o a sc ar) H := by rw [hHe]; exact hP
  have hS : va_S A s.heap H locs := by rw [hHe, hLe]; exact hS
  suffices hgo : W p l e ({ frames := 2, cells := 0, slots := 0, locals := 42 } : Room) s m args below meth c H locs 0 0 Q (F0 m 0 ls []) by rw [hHe, hLe] at hgo; exact hgo
  clear hHe hLe
  refine lv_iconst (v := nI 0) hx hb dX8_readNumbers_0 (by decide) ?_
  refine lv_istore_n (lv' := [(2, .int (nI 0)), (0, .ref o), (1, .int (nI 2))]) hx hb dX8_readNumbers_1 rfl hl (by decide) rfl (fun ls hl => ?_)
  refine lv_iload_n hx hb dX8_readNumbers_2 rfl (lv_at hl 0 rfl) ?_
  refine lv_iload_n hx hb dX8_readNumbers_3 rfl (lv_at hl 2 rfl) ?_
  refine lv_icmp_ge (tgt := 144) hx hb dX8_readNumbers_4 (by decide) (fun c_1 => absurd c_1 (by decide)) (fun c_1 => ?_)
  refine lv_aload_n hx hb dX8_readNumbers_7 rfl (lv_at hl 1 rfl) ?_
  refine lv_aload_n hx hb dX8_readNumbers_8 rfl (lv_at hl 1 rfl) ?_
  refine va_get (D := g.1) (cl := vwCl) (ci := 8) (v := .int (nI (sc 16))) (C := RX8) (T := TX8) (N := 29) hx hb hts hX8_readNumbers_X8 hown hK hP 0 rfl rfl 16 (by decide) (hts _ kX8_readNumbers_f95) (fun _ h9 => h9) rfl dX8_readNumbers_9 ?_
  refine ro_callV0 (As := [.int (nI (sc 16))]) (rest := []) (b := o) ctx hKK hP (c_X8_letterAt l g o a sc ar (sc 16) (show (sc 15) ≤ 200 from by omega) (show (sc 16) ≤ 1000 from by omega)) gX8_readNumbers_X8_letterAt rfl rfl rfl hdX8_letterAt ⟨Nat.le_of_ble_eq_true rfl, Nat.le_of_ble_eq_true rfl⟩ (ci := 8) (q0 := 0) rfl rfl hl.1 rfl rfl (Nat.le_of_ble_eq_true rfl) dX8_readNumbers_12 (fun r_2 hr_2 => ?_)
  have hr_2 : r_2 = mLt ((ar 14)) ((sc 15)) (sc 16) := hr_2
  subst hr_2
  refine ro_callS (As := [.int (mLt ((ar 14)) ((sc 15)) (sc 16))]) (rest := []) ctx hKK hP (c_X8_isFigure l g (mLt ((ar 14)) ((sc 15)) (sc 16))) gX8_readNumbers_X8_isFigure rfl rfl rfl hdX8_isFigure ⟨Nat.le_of_ble_eq_true rfl, Nat.le_of_ble_eq_true rfl⟩ [] rfl hl.1 rfl rfl (Nat.le_of_ble_eq_true rfl) dX8_readNumbers_15 (fun r_3 hr_3 => ?_)
  subst hr_3
  refine lv_if_ne (tgt := 23) hx hb dX8_readNumbers_18 (by decide) (fun c_4 => ?_) (fun c_4 => ?_)
  · replace c_4 := bI_t c_4
    refine lv_aload_n hx hb dX8_readNumbers_23 rfl (lv_at hl 1 rfl) ?_
    refine va_get (D := g.1) (cl := vwCl) (ci := 8) (v := .ref (a 17)) (C := RX8) (T := TX8) (N := 29) hx hb hts hX8_readNumbers_X8 hown hK hP 0 rfl rfl 17 (by decide) (hts _ kX8_readNumbers_f34) (fun _ h9 => h9) rfl dX8_readNumbers_24 ?_
    refine lv_iload_n hx hb dX8_readNumbers_27 rfl (lv_at hl 0 rfl) ?_
    refine lv_aload_n hx hb dX8_readNumbers_28 rfl (lv_at hl 1 rfl) ?_
    refine lv_aload_n hx hb dX8_readNumbers_29 rfl (lv_at hl 1 rfl) ?_
    refine va_get (D := g.1) (cl := vwCl) (ci := 8) (v := .int (nI (sc 16))) (C := RX8) (T := TX8) (N := 29) hx hb hts hX8_readNumbers_X8 hown hK hP 0 rfl rfl 16 (by decide) (hts _ kX8_readNumbers_f95) (fun _ h9 => h9) rfl dX8_readNumbers_30 ?_
    refine ro_callV0 (As := [.int (nI (sc 16))]) (rest := [.int (nI 0), .ref (a 17)]) (b := o) ctx hKK hP (c_X8_letterAt l g o a sc ar (sc 16) (show (sc 15) ≤ 200 from by omega) (show (sc 16) ≤ 1000 from by omega)) gX8_readNumbers_X8_letterAt rfl rfl rfl hdX8_letterAt ⟨Nat.le_of_ble_eq_true rfl, Nat.le_of_ble_eq_true rfl⟩ (ci := 8) (q0 := 0) rfl rfl hl.1 rfl rfl (Nat.le_of_ble_eq_true rfl) dX8_readNumbers_33 (fun r_5 hr_5 => ?_)
    have hr_5 : r_5 = mLt ((ar 14)) ((sc 15)) (sc 16) := hr_5
    subst hr_5
    refine lv_bipush (v := nI 48) hx hb dX8_readNumbers_36 (by decide) ?_
    refine lv_isub hx hb dX8_readNumbers_38 ?_
    refine ast_i (D := g.1) (cl := vwCl) (f := ar 17) (i := 0) (n := 2) (x := (mLt ((ar 14)) ((sc 15)) (sc 16)) - (nI 48)) hx hb hK hP hD hS 9 0 rfl rfl (by omega) (by decide) dX8_readNumbers_39 (fun H locs hP hD hS => ?_)
    have hP : va_P g.1 vwCl (mW g o a sc (upA ar 17 (upd (ar 17) 0 ((mLt ((ar 14)) ((sc 15)) (sc 16)) - (nI 48))))) H := hP
    have hD : va_D A (mW g o a sc (upA ar 17 (upd (ar 17) 0 ((mLt ((ar 14)) ((sc 15)) (sc 16)) - (nI 48))))) := hD
    refine lv_aload_n hx hb dX8_readNumbers_40 rfl (lv_at hl 1 rfl) ?_
    refine lv_dup hx hb dX8_readNumbers_41 rfl ?_
    refine va_get (D := g.1) (cl := vwCl) (ci := 8) (v := .int (nI (sc 16))) (C := RX8) (T := TX8) (N := 29) hx hb hts hX8_readNumbers_X8 hown hK hP 0 rfl rfl 16 (by decide) (hts _ kX8_readNumbers_f95) (fun _ h9 => h9) rfl dX8_readNumbers_42 ?_
    refine lv_iconst (v := nI 1) hx hb dX8_readNumbers_45 (by decide) ?_
    refine lv_iadd hx hb dX8_readNumbers_46 ?_
    refine lv_is (nI_add (sc 16) 1) ?_
    refine va_put (D := g.1) (cl := vwCl) (ci := 8) (v := .int (nI ((sc 16) + 1))) (ty := .int) (C := RX8) (T := TX8) (N := 29) hx hb hts hX8_readNumbers_X8 tyX8 tyX8_ok nmX8 hown hK hP hD hS 0 rfl rfl 16 (by decide) (hts _ kX8_readNumbers_f95) (fun _ h9 => h9) rfl (by decide +kernel) (rfl) (rfl) (Nat.le_of_ble_eq_true rfl) dX8_readNumbers_47 (fun H locs hP hD hS => ?_)
    have hP : va_P g.1 vwCl (mW g o a (updN sc 16 ((sc 16) + 1)) (upA ar 17 (upd (ar 17) 0 ((mLt ((ar 14)) ((sc 15)) (sc 16)) - (nI 48))))) H := hP
    have hD : va_D A (mW g o a (updN sc 16 ((sc 16) + 1)) (upA ar 17 (upd (ar 17) 0 ((mLt ((ar 14)) ((sc 15)) (sc 16)) - (nI 48))))) := hD
    refine lv_aload_n hx hb dX8_readNumbers_50 rfl (lv_at hl 1 rfl) ?_
    refine lv_aload_n hx hb dX8_readNumbers_51 rfl (lv_at hl 1 rfl) ?_
    refine va_get (D := g.1) (cl := vwCl) (ci := 8) (v := .int (nI ((sc 16) + 1))) (C := RX8) (T := TX8) (N := 29) hx hb hts hX8_readNumbers_X8 hown hK hP 0 rfl rfl 16 (by decide) (hts _ kX8_readNumbers_f95) (fun _ h9 => h9) rfl dX8_readNumbers_52 ?_
    refine ro_callV0 (As := [.int (nI ((sc 16) + 1))]) (rest := []) (b := o) ctx hKK hP (c_X8_letterAt l g o a (updN sc 16 ((sc 16) + 1)) (upA ar 17 (upd (ar 17) 0 ((mLt ((ar 14)) ((sc 15)) (sc 16)) - (nI 48)))) ((sc 16) + 1) (show (sc 15) ≤ 200 from by omega) (show ((sc 16) + 1) ≤ 1000 from by omega)) gX8_readNumbers_X8_letterAt rfl rfl rfl hdX8_letterAt ⟨Nat.le_of_ble_eq_true rfl, Nat.le_of_ble_eq_true rfl⟩ (ci := 8) (q0 := 0) rfl rfl hl.1 rfl rfl (Nat.le_of_ble_eq_true rfl) dX8_readNumbers_55 (fun r_6 hr_6 => ?_)
    have hr_6 : r_6 = mLt ((ar 14)) ((sc 15)) ((sc 16) + 1) := hr_6
    subst hr_6
    refine ro_callS (As := [.int (mLt ((ar 14)) ((sc 15)) ((sc 16) + 1))]) (rest := []) ctx hKK hP (c_X8_isFigure l g (mLt ((ar 14)) ((sc 15)) ((sc 16) + 1))) gX8_readNumbers_X8_isFigure rfl rfl rfl hdX8_isFigure ⟨Nat.le_of_ble_eq_true rfl, Nat.le_of_ble_eq_true rfl⟩ [] rfl hl.1 rfl rfl (Nat.le_of_ble_eq_true rfl) dX8_readNumbers_58 (fun r_7 hr_7 => ?_)
    subst hr_7
    refine lv_if_eq (tgt := 101) hx hb dX8_readNumbers_61 (by decide) (fun c_8 => ?_) (fun c_8 => ?_)
    · replace c_8 := bI_f c_8
      refine lv_aload_n hx hb dX8_readNumbers_101 rfl (lv_at hl 1 rfl) ?_
      refine lv_aload_n hx hb dX8_readNumbers_102 rfl (lv_at hl 1 rfl) ?_
      refine va_get (D := g.1) (cl := vwCl) (ci := 8) (v := .int (nI ((sc 16) + 1))) (C := RX8) (T := TX8) (N := 29) hx hb hts hX8_readNumbers_X8 hown hK hP 0 rfl rfl 16 (by decide) (hts _ kX8_readNumbers_f95) (fun _ h9 => h9) rfl dX8_readNumbers_103 ?_
      refine ro_callV0 (As := [.int (nI ((sc 16) + 1))]) (rest := []) (b := o) ctx hKK hP (c_X8_letterAt l g o a (updN sc 16 ((sc 16) + 1)) (upA ar 17 (upd (ar 17) 0 ((mLt ((ar 14)) ((sc 15)) (sc 16)) - (nI 48)))) ((sc 16) + 1) (show (sc 15) ≤ 200 from by omega) (show ((sc 16) + 1) ≤ 1000 from by omega)) gX8_readNumbers_X8_letterAt rfl rfl rfl hdX8_letterAt ⟨Nat.le_of_ble_eq_true rfl, Nat.le_of_ble_eq_true rfl⟩ (ci := 8) (q0 := 0) rfl rfl hl.1 rfl rfl (Nat.le_of_ble_eq_true rfl) dX8_readNumbers_106 (fun r_9 hr_9 => ?_)
      have hr_9 : r_9 = mLt ((ar 14)) ((sc 15)) ((sc 16) + 1) := hr_9
      subst hr_9
      refine lv_iload_n hx hb dX8_readNumbers_109 rfl (lv_at hl 0 rfl) ?_
      refine lv_iload_n hx hb dX8_readNumbers_110 rfl (lv_at hl 2 rfl) ?_
      refine lv_iconst (v := nI 1) hx hb dX8_readNumbers_111 (by decide) ?_
      refine lv_isub hx hb dX8_readNumbers_112 ?_
      refine lv_is (x' := nI 1) (by decide) ?_
      refine lv_icmp_ge (tgt := 121) hx hb dX8_readNumbers_113 (by decide) (fun c_10 => absurd c_10 (by decide)) (fun c_10 => ?_)
      refine lv_bipush (v := nI 44) hx hb dX8_readNumbers_116 (by decide) ?_
      refine lv_goto (tgt := 123) hx hb dX8_readNumbers_118 (by decide) ?_
      refine lv_icmp_eq (tgt := 128) hx hb dX8_readNumbers_123 (by decide) (fun c_11 => ?_) (fun c_11 => ?_)
      · refine lv_aload_n hx hb dX8_readNumbers_128 rfl (lv_at hl 1 rfl) ?_
        refine lv_dup hx hb dX8_readNumbers_129 rfl ?_
        refine va_get (D := g.1) (cl := vwCl) (ci := 8) (v := .int (nI ((sc 16) + 1))) (C := RX8) (T := TX8) (N := 29) hx hb hts hX8_readNumbers_X8 hown hK hP 0 rfl rfl 16 (by decide) (hts _ kX8_readNumbers_f95) (fun _ h9 => h9) rfl dX8_readNumbers_130 ?_
        refine lv_iconst (v := nI 1) hx hb dX8_readNumbers_133 (by decide) ?_
        refine lv_iadd hx hb dX8_readNumbers_134 ?_
        refine lv_is (nI_add ((sc 16) + 1) 1) ?_
        refine va_put (D := g.1) (cl := vwCl) (ci := 8) (v := .int (nI (((sc 16) + 1) + 1))) (ty := .int) (C := RX8) (T := TX8) (N := 29) hx hb hts hX8_readNumbers_X8 tyX8 tyX8_ok nmX8 hown hK hP hD hS 0 rfl rfl 16 (by decide) (hts _ kX8_readNumbers_f95) (fun _ h9 => h9) rfl (by decide +kernel) (rfl) (rfl) (Nat.le_of_ble_eq_true rfl) dX8_readNumbers_135 (fun H locs hP hD hS => ?_)
        have hP : va_P g.1 vwCl (mW g o a (updN sc 16 (((sc 16) + 1) + 1)) (upA ar 17 (upd (ar 17) 0 ((mLt ((ar 14)) ((sc 15)) (sc 16)) - (nI 48))))) H := hP
        have hD : va_D A (mW g o a (updN sc 16 (((sc 16) + 1) + 1)) (upA ar 17 (upd (ar 17) 0 ((mLt ((ar 14)) ((sc 15)) (sc 16)) - (nI 48))))) := hD
        refine lv_iinc (v := nI 1) (lv' := [(2, .int (nI 1)), (0, .ref o), (1, .int (nI 2))]) hx hb dX8_readNumbers_138 hl (k := 0) rfl (by decide) (by decide) rfl (fun ls hl => ?_)
        refine lv_goto (tgt := 2) hx hb dX8_readNumbers_141 (by decide) ?_
        refine lv_iload_n hx hb dX8_readNumbers_2 rfl (lv_at hl 0 rfl) ?_
        refine lv_iload_n hx hb dX8_readNumbers_3 rfl (lv_at hl 2 rfl) ?_
        refine lv_icmp_ge (tgt := 144) hx hb dX8_readNumbers_4 (by decide) (fun c_12 => absurd c_12 (by decide)) (fun c_12 => ?_)
        refine lv_aload_n hx hb dX8_readNumbers_7 rfl (lv_at hl 1 rfl) ?_
        refine lv_aload_n hx hb dX8_readNumbers_8 rfl (lv_at hl 1 rfl) ?_
        refine va_get (D := g.1) (cl := vwCl) (ci := 8) (v := .int (nI (((sc 16) + 1) + 1))) (C := RX8) (T := TX8) (N := 29) hx hb hts hX8_readNumbers_X8 hown hK hP 0 rfl rfl 16 (by decide) (hts _ kX8_readNumbers_f95) (fun _ h9 => h9) rfl dX8_readNumbers_9 ?_
        refine ro_callV0 (As := [.int (nI (((sc 16) + 1) + 1))]) (rest := []) (b := o) ctx hKK hP (c_X8_letterAt l g o a (updN sc 16 (((sc 16) + 1) + 1)) (upA ar 17 (upd (ar 17) 0 ((mLt ((ar 14)) ((sc 15)) (sc 16)) - (nI 48)))) (((sc 16) + 1) + 1) (show (sc 15) ≤ 200 from by omega) (show (((sc 16) + 1) + 1) ≤ 1000 from by omega)) gX8_readNumbers_X8_letterAt rfl rfl rfl hdX8_letterAt ⟨Nat.le_of_ble_eq_true rfl, Nat.le_of_ble_eq_true rfl⟩ (ci := 8) (q0 := 0) rfl rfl hl.1 rfl rfl (Nat.le_of_ble_eq_true rfl) dX8_readNumbers_12 (fun r_13 hr_13 => ?_)
        have hr_13 : r_13 = mLt ((ar 14)) ((sc 15)) (((sc 16) + 1) + 1) := hr_13
        subst hr_13
        refine ro_callS (As := [.int (mLt ((ar 14)) ((sc 15)) (((sc 16) + 1) + 1))]) (rest := []) ctx hKK hP (c_X8_isFigure l g (mLt ((ar 14)) ((sc 15)) (((sc 16) + 1) + 1))) gX8_readNumbers_X8_isFigure rfl rfl rfl hdX8_isFigure ⟨Nat.le_of_ble_eq_true rfl, Nat.le_of_ble_eq_true rfl⟩ [] rfl hl.1 rfl rfl (Nat.le_of_ble_eq_true rfl) dX8_readNumbers_15 (fun r_14 hr_14 => ?_)
        subst hr_14
        refine lv_if_ne (tgt := 23) hx hb dX8_readNumbers_18 (by decide) (fun c_15 => ?_) (fun c_15 => ?_)
        · replace c_15 := bI_t c_15
          refine lv_aload_n hx hb dX8_readNumbers_23 rfl (lv_at hl 1 rfl) ?_
          refine va_get (D := g.1) (cl := vwCl) (ci := 8) (v := .ref (a 17)) (C := RX8) (T := TX8) (N := 29) hx hb hts hX8_readNumbers_X8 hown hK hP 0 rfl rfl 17 (by decide) (hts _ kX8_readNumbers_f34) (fun _ h9 => h9) rfl dX8_readNumbers_24 ?_
          refine lv_iload_n hx hb dX8_readNumbers_27 rfl (lv_at hl 0 rfl) ?_
          refine lv_aload_n hx hb dX8_readNumbers_28 rfl (lv_at hl 1 rfl) ?_
          refine lv_aload_n hx hb dX8_readNumbers_29 rfl (lv_at hl 1 rfl) ?_
          refine va_get (D := g.1) (cl := vwCl) (ci := 8) (v := .int (nI (((sc 16) + 1) + 1))) (C := RX8) (T := TX8) (N := 29) hx hb hts hX8_readNumbers_X8 hown hK hP 0 rfl rfl 16 (by decide) (hts _ kX8_readNumbers_f95) (fun _ h9 => h9) rfl dX8_readNumbers_30 ?_
          refine ro_callV0 (As := [.int (nI (((sc 16) + 1) + 1))]) (rest := [.int (nI 1), .ref (a 17)]) (b := o) ctx hKK hP (c_X8_letterAt l g o a (updN sc 16 (((sc 16) + 1) + 1)) (upA ar 17 (upd (ar 17) 0 ((mLt ((ar 14)) ((sc 15)) (sc 16)) - (nI 48)))) (((sc 16) + 1) + 1) (show (sc 15) ≤ 200 from by omega) (show (((sc 16) + 1) + 1) ≤ 1000 from by omega)) gX8_readNumbers_X8_letterAt rfl rfl rfl hdX8_letterAt ⟨Nat.le_of_ble_eq_true rfl, Nat.le_of_ble_eq_true rfl⟩ (ci := 8) (q0 := 0) rfl rfl hl.1 rfl rfl (Nat.le_of_ble_eq_true rfl) dX8_readNumbers_33 (fun r_16 hr_16 => ?_)
          have hr_16 : r_16 = mLt ((ar 14)) ((sc 15)) (((sc 16) + 1) + 1) := hr_16
          subst hr_16
          refine lv_bipush (v := nI 48) hx hb dX8_readNumbers_36 (by decide) ?_
          refine lv_isub hx hb dX8_readNumbers_38 ?_
          refine ast_i (D := g.1) (cl := vwCl) (f := upd (ar 17) 0 ((mLt ((ar 14)) ((sc 15)) (sc 16)) - (nI 48))) (i := 1) (n := 2) (x := (mLt ((ar 14)) ((sc 15)) (((sc 16) + 1) + 1)) - (nI 48)) hx hb hK hP hD hS 9 0 rfl rfl (by omega) (by decide) dX8_readNumbers_39 (fun H locs hP hD hS => ?_)
          have hP : va_P g.1 vwCl (mW g o a (updN sc 16 (((sc 16) + 1) + 1)) (upA ar 17 (upd (upd (ar 17) 0 ((mLt ((ar 14)) ((sc 15)) (sc 16)) - (nI 48))) 1 ((mLt ((ar 14)) ((sc 15)) (((sc 16) + 1) + 1)) - (nI 48))))) H := hP
          have hD : va_D A (mW g o a (updN sc 16 (((sc 16) + 1) + 1)) (upA ar 17 (upd (upd (ar 17) 0 ((mLt ((ar 14)) ((sc 15)) (sc 16)) - (nI 48))) 1 ((mLt ((ar 14)) ((sc 15)) (((sc 16) + 1) + 1)) - (nI 48))))) := hD
          refine lv_aload_n hx hb dX8_readNumbers_40 rfl (lv_at hl 1 rfl) ?_
          refine lv_dup hx hb dX8_readNumbers_41 rfl ?_
          refine va_get (D := g.1) (cl := vwCl) (ci := 8) (v := .int (nI (((sc 16) + 1) + 1))) (C := RX8) (T := TX8) (N := 29) hx hb hts hX8_readNumbers_X8 hown hK hP 0 rfl rfl 16 (by decide) (hts _ kX8_readNumbers_f95) (fun _ h9 => h9) rfl dX8_readNumbers_42 ?_
          refine lv_iconst (v := nI 1) hx hb dX8_readNumbers_45 (by decide) ?_
          refine lv_iadd hx hb dX8_readNumbers_46 ?_
          refine lv_is (nI_add (((sc 16) + 1) + 1) 1) ?_
          refine va_put (D := g.1) (cl := vwCl) (ci := 8) (v := .int (nI ((((sc 16) + 1) + 1) + 1))) (ty := .int) (C := RX8) (T := TX8) (N := 29) hx hb hts hX8_readNumbers_X8 tyX8 tyX8_ok nmX8 hown hK hP hD hS 0 rfl rfl 16 (by decide) (hts _ kX8_readNumbers_f95) (fun _ h9 => h9) rfl (by decide +kernel) (rfl) (rfl) (Nat.le_of_ble_eq_true rfl) dX8_readNumbers_47 (fun H locs hP hD hS => ?_)
          have hP : va_P g.1 vwCl (mW g o a (updN sc 16 ((((sc 16) + 1) + 1) + 1)) (upA ar 17 (upd (upd (ar 17) 0 ((mLt ((ar 14)) ((sc 15)) (sc 16)) - (nI 48))) 1 ((mLt ((ar 14)) ((sc 15)) (((sc 16) + 1) + 1)) - (nI 48))))) H := hP
          have hD : va_D A (mW g o a (updN sc 16 ((((sc 16) + 1) + 1) + 1)) (upA ar 17 (upd (upd (ar 17) 0 ((mLt ((ar 14)) ((sc 15)) (sc 16)) - (nI 48))) 1 ((mLt ((ar 14)) ((sc 15)) (((sc 16) + 1) + 1)) - (nI 48))))) := hD
          refine lv_aload_n hx hb dX8_readNumbers_50 rfl (lv_at hl 1 rfl) ?_
          refine lv_aload_n hx hb dX8_readNumbers_51 rfl (lv_at hl 1 rfl) ?_
          refine va_get (D := g.1) (cl := vwCl) (ci := 8) (v := .int (nI ((((sc 16) + 1) + 1) + 1))) (C := RX8) (T := TX8) (N := 29) hx hb hts hX8_readNumbers_X8 hown hK hP 0 rfl rfl 16 (by decide) (hts _ kX8_readNumbers_f95) (fun _ h9 => h9) rfl dX8_readNumbers_52 ?_
          refine ro_callV0 (As := [.int (nI ((((sc 16) + 1) + 1) + 1))]) (rest := []) (b := o) ctx hKK hP (c_X8_letterAt l g o a (updN sc 16 ((((sc 16) + 1) + 1) + 1)) (upA ar 17 (upd (upd (ar 17) 0 ((mLt ((ar 14)) ((sc 15)) (sc 16)) - (nI 48))) 1 ((mLt ((ar 14)) ((sc 15)) (((sc 16) + 1) + 1)) - (nI 48)))) ((((sc 16) + 1) + 1) + 1) (show (sc 15) ≤ 200 from by omega) (show ((((sc 16) + 1) + 1) + 1) ≤ 1000 from by omega)) gX8_readNumbers_X8_letterAt rfl rfl rfl hdX8_letterAt ⟨Nat.le_of_ble_eq_true rfl, Nat.le_of_ble_eq_true rfl⟩ (ci := 8) (q0 := 0) rfl rfl hl.1 rfl rfl (Nat.le_of_ble_eq_true rfl) dX8_readNumbers_55 (fun r_17 hr_17 => ?_)
          have hr_17 : r_17 = mLt ((ar 14)) ((sc 15)) ((((sc 16) + 1) + 1) + 1) := hr_17
          subst hr_17
          refine ro_callS (As := [.int (mLt ((ar 14)) ((sc 15)) ((((sc 16) + 1) + 1) + 1))]) (rest := []) ctx hKK hP (c_X8_isFigure l g (mLt ((ar 14)) ((sc 15)) ((((sc 16) + 1) + 1) + 1))) gX8_readNumbers_X8_isFigure rfl rfl rfl hdX8_isFigure ⟨Nat.le_of_ble_eq_true rfl, Nat.le_of_ble_eq_true rfl⟩ [] rfl hl.1 rfl rfl (Nat.le_of_ble_eq_true rfl) dX8_readNumbers_58 (fun r_18 hr_18 => ?_)
          subst hr_18
          refine lv_if_eq (tgt := 101) hx hb dX8_readNumbers_61 (by decide) (fun c_19 => ?_) (fun c_19 => ?_)
          · replace c_19 := bI_f c_19
            refine lv_aload_n hx hb dX8_readNumbers_101 rfl (lv_at hl 1 rfl) ?_
            refine lv_aload_n hx hb dX8_readNumbers_102 rfl (lv_at hl 1 rfl) ?_
            refine va_get (D := g.1) (cl := vwCl) (ci := 8) (v := .int (nI ((((sc 16) + 1) + 1) + 1))) (C := RX8) (T := TX8) (N := 29) hx hb hts hX8_readNumbers_X8 hown hK hP 0 rfl rfl 16 (by decide) (hts _ kX8_readNumbers_f95) (fun _ h9 => h9) rfl dX8_readNumbers_103 ?_
            refine ro_callV0 (As := [.int (nI ((((sc 16) + 1) + 1) + 1))]) (rest := []) (b := o) ctx hKK hP (c_X8_letterAt l g o a (updN sc 16 ((((sc 16) + 1) + 1) + 1)) (upA ar 17 (upd (upd (ar 17) 0 ((mLt ((ar 14)) ((sc 15)) (sc 16)) - (nI 48))) 1 ((mLt ((ar 14)) ((sc 15)) (((sc 16) + 1) + 1)) - (nI 48)))) ((((sc 16) + 1) + 1) + 1) (show (sc 15) ≤ 200 from by omega) (show ((((sc 16) + 1) + 1) + 1) ≤ 1000 from by omega)) gX8_readNumbers_X8_letterAt rfl rfl rfl hdX8_letterAt ⟨Nat.le_of_ble_eq_true rfl, Nat.le_of_ble_eq_true rfl⟩ (ci := 8) (q0 := 0) rfl rfl hl.1 rfl rfl (Nat.le_of_ble_eq_true rfl) dX8_readNumbers_106 (fun r_20 hr_20 => ?_)
            have hr_20 : r_20 = mLt ((ar 14)) ((sc 15)) ((((sc 16) + 1) + 1) + 1) := hr_20
            subst hr_20
            refine lv_iload_n hx hb dX8_readNumbers_109 rfl (lv_at hl 0 rfl) ?_
            refine lv_iload_n hx hb dX8_readNumbers_110 rfl (lv_at hl 2 rfl) ?_
            refine lv_iconst (v := nI 1) hx hb dX8_readNumbers_111 (by decide) ?_
            refine lv_isub hx hb dX8_readNumbers_112 ?_
            refine lv_is (x' := nI 1) (by decide) ?_
            refine lv_icmp_ge (tgt := 121) hx hb dX8_readNumbers_113 (by decide) (fun c_21 => ?_) (fun c_21 => absurd c_21 (by decide))
            refine lv_bipush (v := nI 59) hx hb dX8_readNumbers_121 (by decide) ?_
            refine lv_icmp_eq (tgt := 128) hx hb dX8_readNumbers_123 (by decide) (fun c_22 => ?_) (fun c_22 => ?_)
            · refine lv_aload_n hx hb dX8_readNumbers_128 rfl (lv_at hl 1 rfl) ?_
              refine lv_dup hx hb dX8_readNumbers_129 rfl ?_
              refine va_get (D := g.1) (cl := vwCl) (ci := 8) (v := .int (nI ((((sc 16) + 1) + 1) + 1))) (C := RX8) (T := TX8) (N := 29) hx hb hts hX8_readNumbers_X8 hown hK hP 0 rfl rfl 16 (by decide) (hts _ kX8_readNumbers_f95) (fun _ h9 => h9) rfl dX8_readNumbers_130 ?_
              refine lv_iconst (v := nI 1) hx hb dX8_readNumbers_133 (by decide) ?_
              refine lv_iadd hx hb dX8_readNumbers_134 ?_
              refine lv_is (nI_add ((((sc 16) + 1) + 1) + 1) 1) ?_
              refine va_put (D := g.1) (cl := vwCl) (ci := 8) (v := .int (nI (((((sc 16) + 1) + 1) + 1) + 1))) (ty := .int) (C := RX8) (T := TX8) (N := 29) hx hb hts hX8_readNumbers_X8 tyX8 tyX8_ok nmX8 hown hK hP hD hS 0 rfl rfl 16 (by decide) (hts _ kX8_readNumbers_f95) (fun _ h9 => h9) rfl (by decide +kernel) (rfl) (rfl) (Nat.le_of_ble_eq_true rfl) dX8_readNumbers_135 (fun H locs hP hD hS => ?_)
              have hP : va_P g.1 vwCl (mW g o a (updN sc 16 (((((sc 16) + 1) + 1) + 1) + 1)) (upA ar 17 (upd (upd (ar 17) 0 ((mLt ((ar 14)) ((sc 15)) (sc 16)) - (nI 48))) 1 ((mLt ((ar 14)) ((sc 15)) (((sc 16) + 1) + 1)) - (nI 48))))) H := hP
              have hD : va_D A (mW g o a (updN sc 16 (((((sc 16) + 1) + 1) + 1) + 1)) (upA ar 17 (upd (upd (ar 17) 0 ((mLt ((ar 14)) ((sc 15)) (sc 16)) - (nI 48))) 1 ((mLt ((ar 14)) ((sc 15)) (((sc 16) + 1) + 1)) - (nI 48))))) := hD
              refine lv_iinc (v := nI 2) (lv' := [(2, .int (nI 2)), (0, .ref o), (1, .int (nI 2))]) hx hb dX8_readNumbers_138 hl (k := 0) rfl (by decide) (by decide) rfl (fun ls hl => ?_)
              refine lv_goto (tgt := 2) hx hb dX8_readNumbers_141 (by decide) ?_
              refine lv_iload_n hx hb dX8_readNumbers_2 rfl (lv_at hl 0 rfl) ?_
              refine lv_iload_n hx hb dX8_readNumbers_3 rfl (lv_at hl 2 rfl) ?_
              refine lv_icmp_ge (tgt := 144) hx hb dX8_readNumbers_4 (by decide) (fun c_23 => ?_) (fun c_23 => absurd c_23 (by decide))
              refine lv_iconst (v := nI 1) hx hb dX8_readNumbers_144 (by decide) ?_
              exact hret (nI 1) (true, ((((sc 16) + 1) + 1) + 1) + 1, upd (upd (ar 17) 0 ((mLt ((ar 14)) ((sc 15)) (sc 16)) - (nI 48))) 1 ((mLt ((ar 14)) ((sc 15)) (((sc 16) + 1) + 1)) - (nI 48))) H locs 145 ls (⟨rfl, fun _ => by simp (config := { decide := true }) [mN2, mNp, mNv, mFg, c_4, c_8, c_11, c_15, c_19, c_22, pk_us, upd], fun h => tf h, by have hh := hat; (try have b0 := mFg_lt (tx := ar 14) (n := sc 15) c_4); (try have b1 := mFg_lt (tx := ar 14) (n := sc 15) c_8); (try have b2 := mFg_lt (tx := ar 14) (n := sc 15) c_11); (try have b3 := mFg_lt (tx := ar 14) (n := sc 15) c_15); (try have b4 := mFg_lt (tx := ar 14) (n := sc 15) c_19); (try have b5 := mFg_lt (tx := ar 14) (n := sc 15) c_22); (try have d0 := mLt_lt c_4 (by decide)); (try have d1 := mLt_lt c_8 (by decide)); (try have d2 := mLt_lt c_11 (by decide)); (try have d3 := mLt_lt c_15 (by decide)); (try have d4 := mLt_lt c_19 (by decide)); (try have d5 := mLt_lt c_22 (by decide)); show ((((sc 16) + 1) + 1) + 1) + 1 ≤ sc 15; omega⟩) (hP) (hD) hS (rfl) dX8_readNumbers_145
            · refine lv_iconst (v := nI 0) hx hb dX8_readNumbers_126 (by decide) ?_
              exact hret (nI 0) (false, (((sc 16) + 1) + 1) + 1, upd (upd (ar 17) 0 ((mLt ((ar 14)) ((sc 15)) (sc 16)) - (nI 48))) 1 ((mLt ((ar 14)) ((sc 15)) (((sc 16) + 1) + 1)) - (nI 48))) H locs 127 ls (⟨rfl, fun h => ft h, fun _ => by simp (config := { decide := true }) [mN2, mNp, mNv, mFg, c_4, c_8, c_11, c_15, c_19, c_22, pk_us, upd], by have hh := hat; (try have b0 := mFg_lt (tx := ar 14) (n := sc 15) c_4); (try have b1 := mFg_lt (tx := ar 14) (n := sc 15) c_8); (try have b2 := mFg_lt (tx := ar 14) (n := sc 15) c_11); (try have b3 := mFg_lt (tx := ar 14) (n := sc 15) c_15); (try have b4 := mFg_lt (tx := ar 14) (n := sc 15) c_19); (try have b5 := mFg_lt (tx := ar 14) (n := sc 15) c_22); (try have d0 := mLt_lt c_4 (by decide)); (try have d1 := mLt_lt c_8 (by decide)); (try have d2 := mLt_lt c_11 (by decide)); (try have d3 := mLt_lt c_15 (by decide)); (try have d4 := mLt_lt c_19 (by decide)); (try have d5 := mLt_lt c_22 (by decide)); show (((sc 16) + 1) + 1) + 1 ≤ sc 15; omega⟩) (hP) (hD) hS (rfl) dX8_readNumbers_127
          · replace c_19 := bI_t c_19
            refine lv_aload_n hx hb dX8_readNumbers_64 rfl (lv_at hl 1 rfl) ?_
            refine va_get (D := g.1) (cl := vwCl) (ci := 8) (v := .ref (a 17)) (C := RX8) (T := TX8) (N := 29) hx hb hts hX8_readNumbers_X8 hown hK hP 0 rfl rfl 17 (by decide) (hts _ kX8_readNumbers_f34) (fun _ h9 => h9) rfl dX8_readNumbers_65 ?_
            refine lv_iload_n hx hb dX8_readNumbers_68 rfl (lv_at hl 0 rfl) ?_
            refine lv_bipush (v := nI 10) hx hb dX8_readNumbers_69 (by decide) ?_
            refine lv_aload_n hx hb dX8_readNumbers_71 rfl (lv_at hl 1 rfl) ?_
            refine va_get (D := g.1) (cl := vwCl) (ci := 8) (v := .ref (a 17)) (C := RX8) (T := TX8) (N := 29) hx hb hts hX8_readNumbers_X8 hown hK hP 0 rfl rfl 17 (by decide) (hts _ kX8_readNumbers_f34) (fun _ h9 => h9) rfl dX8_readNumbers_72 ?_
            refine lv_iload_n hx hb dX8_readNumbers_75 rfl (lv_at hl 0 rfl) ?_
            refine ald_i (D := g.1) (cl := vwCl) (f := upd (upd (ar 17) 0 ((mLt ((ar 14)) ((sc 15)) (sc 16)) - (nI 48))) 1 ((mLt ((ar 14)) ((sc 15)) (((sc 16) + 1) + 1)) - (nI 48))) (i := 1) (n := 2) hx hb hK hP 9 0 rfl rfl (by omega) (by decide) dX8_readNumbers_76 ?_
            refine lv_imul hx hb dX8_readNumbers_77 ?_
            refine lv_aload_n hx hb dX8_readNumbers_78 rfl (lv_at hl 1 rfl) ?_
            refine lv_aload_n hx hb dX8_readNumbers_79 rfl (lv_at hl 1 rfl) ?_
            refine va_get (D := g.1) (cl := vwCl) (ci := 8) (v := .int (nI ((((sc 16) + 1) + 1) + 1))) (C := RX8) (T := TX8) (N := 29) hx hb hts hX8_readNumbers_X8 hown hK hP 0 rfl rfl 16 (by decide) (hts _ kX8_readNumbers_f95) (fun _ h9 => h9) rfl dX8_readNumbers_80 ?_
            refine ro_callV0 (As := [.int (nI ((((sc 16) + 1) + 1) + 1))]) (rest := [.int ((nI 10) * ((upd (upd (ar 17) 0 ((mLt ((ar 14)) ((sc 15)) (sc 16)) - (nI 48))) 1 ((mLt ((ar 14)) ((sc 15)) (((sc 16) + 1) + 1)) - (nI 48))) 1)), .int (nI 1), .ref (a 17)]) (b := o) ctx hKK hP (c_X8_letterAt l g o a (updN sc 16 ((((sc 16) + 1) + 1) + 1)) (upA ar 17 (upd (upd (ar 17) 0 ((mLt ((ar 14)) ((sc 15)) (sc 16)) - (nI 48))) 1 ((mLt ((ar 14)) ((sc 15)) (((sc 16) + 1) + 1)) - (nI 48)))) ((((sc 16) + 1) + 1) + 1) (show (sc 15) ≤ 200 from by omega) (show ((((sc 16) + 1) + 1) + 1) ≤ 1000 from by omega)) gX8_readNumbers_X8_letterAt rfl rfl rfl hdX8_letterAt ⟨Nat.le_of_ble_eq_true rfl, Nat.le_of_ble_eq_true rfl⟩ (ci := 8) (q0 := 0) rfl rfl hl.1 rfl rfl (Nat.le_of_ble_eq_true rfl) dX8_readNumbers_83 (fun r_24 hr_24 => ?_)
            have hr_24 : r_24 = mLt ((ar 14)) ((sc 15)) ((((sc 16) + 1) + 1) + 1) := hr_24
            subst hr_24
            refine lv_iadd hx hb dX8_readNumbers_86 ?_
            refine lv_bipush (v := nI 48) hx hb dX8_readNumbers_87 (by decide) ?_
            refine lv_isub hx hb dX8_readNumbers_89 ?_
            refine ast_i (D := g.1) (cl := vwCl) (f := upd (upd (ar 17) 0 ((mLt ((ar 14)) ((sc 15)) (sc 16)) - (nI 48))) 1 ((mLt ((ar 14)) ((sc 15)) (((sc 16) + 1) + 1)) - (nI 48))) (i := 1) (n := 2) (x := (((nI 10) * ((upd (upd (ar 17) 0 ((mLt ((ar 14)) ((sc 15)) (sc 16)) - (nI 48))) 1 ((mLt ((ar 14)) ((sc 15)) (((sc 16) + 1) + 1)) - (nI 48))) 1)) + (mLt ((ar 14)) ((sc 15)) ((((sc 16) + 1) + 1) + 1))) - (nI 48)) hx hb hK hP hD hS 9 0 rfl rfl (by omega) (by decide) dX8_readNumbers_90 (fun H locs hP hD hS => ?_)
            have hP : va_P g.1 vwCl (mW g o a (updN sc 16 ((((sc 16) + 1) + 1) + 1)) (upA ar 17 (upd (upd (upd (ar 17) 0 ((mLt ((ar 14)) ((sc 15)) (sc 16)) - (nI 48))) 1 ((mLt ((ar 14)) ((sc 15)) (((sc 16) + 1) + 1)) - (nI 48))) 1 ((((nI 10) * ((upd (upd (ar 17) 0 ((mLt ((ar 14)) ((sc 15)) (sc 16)) - (nI 48))) 1 ((mLt ((ar 14)) ((sc 15)) (((sc 16) + 1) + 1)) - (nI 48))) 1)) + (mLt ((ar 14)) ((sc 15)) ((((sc 16) + 1) + 1) + 1))) - (nI 48))))) H := hP
            have hD : va_D A (mW g o a (updN sc 16 ((((sc 16) + 1) + 1) + 1)) (upA ar 17 (upd (upd (upd (ar 17) 0 ((mLt ((ar 14)) ((sc 15)) (sc 16)) - (nI 48))) 1 ((mLt ((ar 14)) ((sc 15)) (((sc 16) + 1) + 1)) - (nI 48))) 1 ((((nI 10) * ((upd (upd (ar 17) 0 ((mLt ((ar 14)) ((sc 15)) (sc 16)) - (nI 48))) 1 ((mLt ((ar 14)) ((sc 15)) (((sc 16) + 1) + 1)) - (nI 48))) 1)) + (mLt ((ar 14)) ((sc 15)) ((((sc 16) + 1) + 1) + 1))) - (nI 48))))) := hD
            refine lv_aload_n hx hb dX8_readNumbers_91 rfl (lv_at hl 1 rfl) ?_
            refine lv_dup hx hb dX8_readNumbers_92 rfl ?_
            refine va_get (D := g.1) (cl := vwCl) (ci := 8) (v := .int (nI ((((sc 16) + 1) + 1) + 1))) (C := RX8) (T := TX8) (N := 29) hx hb hts hX8_readNumbers_X8 hown hK hP 0 rfl rfl 16 (by decide) (hts _ kX8_readNumbers_f95) (fun _ h9 => h9) rfl dX8_readNumbers_93 ?_
            refine lv_iconst (v := nI 1) hx hb dX8_readNumbers_96 (by decide) ?_
            refine lv_iadd hx hb dX8_readNumbers_97 ?_
            refine lv_is (nI_add ((((sc 16) + 1) + 1) + 1) 1) ?_
            refine va_put (D := g.1) (cl := vwCl) (ci := 8) (v := .int (nI (((((sc 16) + 1) + 1) + 1) + 1))) (ty := .int) (C := RX8) (T := TX8) (N := 29) hx hb hts hX8_readNumbers_X8 tyX8 tyX8_ok nmX8 hown hK hP hD hS 0 rfl rfl 16 (by decide) (hts _ kX8_readNumbers_f95) (fun _ h9 => h9) rfl (by decide +kernel) (rfl) (rfl) (Nat.le_of_ble_eq_true rfl) dX8_readNumbers_98 (fun H locs hP hD hS => ?_)
            have hP : va_P g.1 vwCl (mW g o a (updN sc 16 (((((sc 16) + 1) + 1) + 1) + 1)) (upA ar 17 (upd (upd (upd (ar 17) 0 ((mLt ((ar 14)) ((sc 15)) (sc 16)) - (nI 48))) 1 ((mLt ((ar 14)) ((sc 15)) (((sc 16) + 1) + 1)) - (nI 48))) 1 ((((nI 10) * ((upd (upd (ar 17) 0 ((mLt ((ar 14)) ((sc 15)) (sc 16)) - (nI 48))) 1 ((mLt ((ar 14)) ((sc 15)) (((sc 16) + 1) + 1)) - (nI 48))) 1)) + (mLt ((ar 14)) ((sc 15)) ((((sc 16) + 1) + 1) + 1))) - (nI 48))))) H := hP
            have hD : va_D A (mW g o a (updN sc 16 (((((sc 16) + 1) + 1) + 1) + 1)) (upA ar 17 (upd (upd (upd (ar 17) 0 ((mLt ((ar 14)) ((sc 15)) (sc 16)) - (nI 48))) 1 ((mLt ((ar 14)) ((sc 15)) (((sc 16) + 1) + 1)) - (nI 48))) 1 ((((nI 10) * ((upd (upd (ar 17) 0 ((mLt ((ar 14)) ((sc 15)) (sc 16)) - (nI 48))) 1 ((mLt ((ar 14)) ((sc 15)) (((sc 16) + 1) + 1)) - (nI 48))) 1)) + (mLt ((ar 14)) ((sc 15)) ((((sc 16) + 1) + 1) + 1))) - (nI 48))))) := hD
            refine lv_aload_n hx hb dX8_readNumbers_101 rfl (lv_at hl 1 rfl) ?_
            refine lv_aload_n hx hb dX8_readNumbers_102 rfl (lv_at hl 1 rfl) ?_
            refine va_get (D := g.1) (cl := vwCl) (ci := 8) (v := .int (nI (((((sc 16) + 1) + 1) + 1) + 1))) (C := RX8) (T := TX8) (N := 29) hx hb hts hX8_readNumbers_X8 hown hK hP 0 rfl rfl 16 (by decide) (hts _ kX8_readNumbers_f95) (fun _ h9 => h9) rfl dX8_readNumbers_103 ?_
            refine ro_callV0 (As := [.int (nI (((((sc 16) + 1) + 1) + 1) + 1))]) (rest := []) (b := o) ctx hKK hP (c_X8_letterAt l g o a (updN sc 16 (((((sc 16) + 1) + 1) + 1) + 1)) (upA ar 17 (upd (upd (upd (ar 17) 0 ((mLt ((ar 14)) ((sc 15)) (sc 16)) - (nI 48))) 1 ((mLt ((ar 14)) ((sc 15)) (((sc 16) + 1) + 1)) - (nI 48))) 1 ((((nI 10) * ((upd (upd (ar 17) 0 ((mLt ((ar 14)) ((sc 15)) (sc 16)) - (nI 48))) 1 ((mLt ((ar 14)) ((sc 15)) (((sc 16) + 1) + 1)) - (nI 48))) 1)) + (mLt ((ar 14)) ((sc 15)) ((((sc 16) + 1) + 1) + 1))) - (nI 48)))) (((((sc 16) + 1) + 1) + 1) + 1) (show (sc 15) ≤ 200 from by omega) (show (((((sc 16) + 1) + 1) + 1) + 1) ≤ 1000 from by omega)) gX8_readNumbers_X8_letterAt rfl rfl rfl hdX8_letterAt ⟨Nat.le_of_ble_eq_true rfl, Nat.le_of_ble_eq_true rfl⟩ (ci := 8) (q0 := 0) rfl rfl hl.1 rfl rfl (Nat.le_of_ble_eq_true rfl) dX8_readNumbers_106 (fun r_25 hr_25 => ?_)
            have hr_25 : r_25 = mLt ((ar 14)) ((sc 15)) (((((sc 16) + 1) + 1) + 1) + 1) := hr_25
            subst hr_25
            refine lv_iload_n hx hb dX8_readNumbers_109 rfl (lv_at hl 0 rfl) ?_
            refine lv_iload_n hx hb dX8_readNumbers_110 rfl (lv_at hl 2 rfl) ?_
            refine lv_iconst (v := nI 1) hx hb dX8_readNumbers_111 (by decide) ?_
            refine lv_isub hx hb dX8_readNumbers_112 ?_
            refine lv_is (x' := nI 1) (by decide) ?_
            refine lv_icmp_ge (tgt := 121) hx hb dX8_readNumbers_113 (by decide) (fun c_26 => ?_) (fun c_26 => absurd c_26 (by decide))
            refine lv_bipush (v := nI 59) hx hb dX8_readNumbers_121 (by decide) ?_
            refine lv_icmp_eq (tgt := 128) hx hb dX8_readNumbers_123 (by decide) (fun c_27 => ?_) (fun c_27 => ?_)
            · refine lv_aload_n hx hb dX8_readNumbers_128 rfl (lv_at hl 1 rfl) ?_
              refine lv_dup hx hb dX8_readNumbers_129 rfl ?_
              refine va_get (D := g.1) (cl := vwCl) (ci := 8) (v := .int (nI (((((sc 16) + 1) + 1) + 1) + 1))) (C := RX8) (T := TX8) (N := 29) hx hb hts hX8_readNumbers_X8 hown hK hP 0 rfl rfl 16 (by decide) (hts _ kX8_readNumbers_f95) (fun _ h9 => h9) rfl dX8_readNumbers_130 ?_
              refine lv_iconst (v := nI 1) hx hb dX8_readNumbers_133 (by decide) ?_
              refine lv_iadd hx hb dX8_readNumbers_134 ?_
              refine lv_is (nI_add (((((sc 16) + 1) + 1) + 1) + 1) 1) ?_
              refine va_put (D := g.1) (cl := vwCl) (ci := 8) (v := .int (nI ((((((sc 16) + 1) + 1) + 1) + 1) + 1))) (ty := .int) (C := RX8) (T := TX8) (N := 29) hx hb hts hX8_readNumbers_X8 tyX8 tyX8_ok nmX8 hown hK hP hD hS 0 rfl rfl 16 (by decide) (hts _ kX8_readNumbers_f95) (fun _ h9 => h9) rfl (by decide +kernel) (rfl) (rfl) (Nat.le_of_ble_eq_true rfl) dX8_readNumbers_135 (fun H locs hP hD hS => ?_)
              have hP : va_P g.1 vwCl (mW g o a (updN sc 16 ((((((sc 16) + 1) + 1) + 1) + 1) + 1)) (upA ar 17 (upd (upd (upd (ar 17) 0 ((mLt ((ar 14)) ((sc 15)) (sc 16)) - (nI 48))) 1 ((mLt ((ar 14)) ((sc 15)) (((sc 16) + 1) + 1)) - (nI 48))) 1 ((((nI 10) * ((upd (upd (ar 17) 0 ((mLt ((ar 14)) ((sc 15)) (sc 16)) - (nI 48))) 1 ((mLt ((ar 14)) ((sc 15)) (((sc 16) + 1) + 1)) - (nI 48))) 1)) + (mLt ((ar 14)) ((sc 15)) ((((sc 16) + 1) + 1) + 1))) - (nI 48))))) H := hP
              have hD : va_D A (mW g o a (updN sc 16 ((((((sc 16) + 1) + 1) + 1) + 1) + 1)) (upA ar 17 (upd (upd (upd (ar 17) 0 ((mLt ((ar 14)) ((sc 15)) (sc 16)) - (nI 48))) 1 ((mLt ((ar 14)) ((sc 15)) (((sc 16) + 1) + 1)) - (nI 48))) 1 ((((nI 10) * ((upd (upd (ar 17) 0 ((mLt ((ar 14)) ((sc 15)) (sc 16)) - (nI 48))) 1 ((mLt ((ar 14)) ((sc 15)) (((sc 16) + 1) + 1)) - (nI 48))) 1)) + (mLt ((ar 14)) ((sc 15)) ((((sc 16) + 1) + 1) + 1))) - (nI 48))))) := hD
              refine lv_iinc (v := nI 2) (lv' := [(2, .int (nI 2)), (0, .ref o), (1, .int (nI 2))]) hx hb dX8_readNumbers_138 hl (k := 0) rfl (by decide) (by decide) rfl (fun ls hl => ?_)
              refine lv_goto (tgt := 2) hx hb dX8_readNumbers_141 (by decide) ?_
              refine lv_iload_n hx hb dX8_readNumbers_2 rfl (lv_at hl 0 rfl) ?_
              refine lv_iload_n hx hb dX8_readNumbers_3 rfl (lv_at hl 2 rfl) ?_
              refine lv_icmp_ge (tgt := 144) hx hb dX8_readNumbers_4 (by decide) (fun c_28 => ?_) (fun c_28 => absurd c_28 (by decide))
              refine lv_iconst (v := nI 1) hx hb dX8_readNumbers_144 (by decide) ?_
              exact hret (nI 1) (true, (((((sc 16) + 1) + 1) + 1) + 1) + 1, upd (upd (upd (ar 17) 0 ((mLt ((ar 14)) ((sc 15)) (sc 16)) - (nI 48))) 1 ((mLt ((ar 14)) ((sc 15)) (((sc 16) + 1) + 1)) - (nI 48))) 1 ((((nI 10) * ((upd (upd (ar 17) 0 ((mLt ((ar 14)) ((sc 15)) (sc 16)) - (nI 48))) 1 ((mLt ((ar 14)) ((sc 15)) (((sc 16) + 1) + 1)) - (nI 48))) 1)) + (mLt ((ar 14)) ((sc 15)) ((((sc 16) + 1) + 1) + 1))) - (nI 48))) H locs 145 ls (⟨rfl, fun _ => by simp (config := { decide := true }) [mN2, mNp, mNv, mFg, c_4, c_8, c_11, c_15, c_19, c_27, pk_us, upd], fun h => tf h, by have hh := hat; (try have b0 := mFg_lt (tx := ar 14) (n := sc 15) c_4); (try have b1 := mFg_lt (tx := ar 14) (n := sc 15) c_8); (try have b2 := mFg_lt (tx := ar 14) (n := sc 15) c_11); (try have b3 := mFg_lt (tx := ar 14) (n := sc 15) c_15); (try have b4 := mFg_lt (tx := ar 14) (n := sc 15) c_19); (try have b5 := mFg_lt (tx := ar 14) (n := sc 15) c_27); (try have d0 := mLt_lt c_4 (by decide)); (try have d1 := mLt_lt c_8 (by decide)); (try have d2 := mLt_lt c_11 (by decide)); (try have d3 := mLt_lt c_15 (by decide)); (try have d4 := mLt_lt c_19 (by decide)); (try have d5 := mLt_lt c_27 (by decide)); show (((((sc 16) + 1) + 1) + 1) + 1) + 1 ≤ sc 15; omega⟩) (hP) (hD) hS (rfl) dX8_readNumbers_145
            · refine lv_iconst (v := nI 0) hx hb dX8_readNumbers_126 (by decide) ?_
              exact hret (nI 0) (false, ((((sc 16) + 1) + 1) + 1) + 1, upd (upd (upd (ar 17) 0 ((mLt ((ar 14)) ((sc 15)) (sc 16)) - (nI 48))) 1 ((mLt ((ar 14)) ((sc 15)) (((sc 16) + 1) + 1)) - (nI 48))) 1 ((((nI 10) * ((upd (upd (ar 17) 0 ((mLt ((ar 14)) ((sc 15)) (sc 16)) - (nI 48))) 1 ((mLt ((ar 14)) ((sc 15)) (((sc 16) + 1) + 1)) - (nI 48))) 1)) + (mLt ((ar 14)) ((sc 15)) ((((sc 16) + 1) + 1) + 1))) - (nI 48))) H locs 127 ls (⟨rfl, fun h => ft h, fun _ => by simp (config := { decide := true }) [mN2, mNp, mNv, mFg, c_4, c_8, c_11, c_15, c_19, c_27, pk_us, upd], by have hh := hat; (try have b0 := mFg_lt (tx := ar 14) (n := sc 15) c_4); (try have b1 := mFg_lt (tx := ar 14) (n := sc 15) c_8); (try have b2 := mFg_lt (tx := ar 14) (n := sc 15) c_11); (try have b3 := mFg_lt (tx := ar 14) (n := sc 15) c_15); (try have b4 := mFg_lt (tx := ar 14) (n := sc 15) c_19); (try have b5 := mFg_lt (tx := ar 14) (n := sc 15) c_27); (try have d0 := mLt_lt c_4 (by decide)); (try have d1 := mLt_lt c_8 (by decide)); (try have d2 := mLt_lt c_11 (by decide)); (try have d3 := mLt_lt c_15 (by decide)); (try have d4 := mLt_lt c_19 (by decide)); (try have d5 := mLt_lt c_27 (by decide)); show ((((sc 16) + 1) + 1) + 1) + 1 ≤ sc 15; omega⟩) (hP) (hD) hS (rfl) dX8_readNumbers_127
        · replace c_15 := bI_f c_15
          refine lv_iconst (v := nI 0) hx hb dX8_readNumbers_21 (by decide) ?_
          exact hret (nI 0) (false, ((sc 16) + 1) + 1, upd (ar 17) 0 ((mLt ((ar 14)) ((sc 15)) (sc 16)) - (nI 48))) H locs 22 ls (⟨rfl, fun h => ft h, fun _ => by simp (config := { decide := true }) [mN2, mNp, mNv, mFg, c_4, c_8, c_11, c_15, pk_us, upd], by have hh := hat; (try have b0 := mFg_lt (tx := ar 14) (n := sc 15) c_4); (try have b1 := mFg_lt (tx := ar 14) (n := sc 15) c_8); (try have b2 := mFg_lt (tx := ar 14) (n := sc 15) c_11); (try have b3 := mFg_lt (tx := ar 14) (n := sc 15) c_15); (try have d0 := mLt_lt c_4 (by decide)); (try have d1 := mLt_lt c_8 (by decide)); (try have d2 := mLt_lt c_11 (by decide)); (try have d3 := mLt_lt c_15 (by decide)); show ((sc 16) + 1) + 1 ≤ sc 15; omega⟩) (hP) (hD) hS (rfl) dX8_readNumbers_22
      · refine lv_iconst (v := nI 0) hx hb dX8_readNumbers_126 (by decide) ?_
        exact hret (nI 0) (false, (sc 16) + 1, upd (ar 17) 0 ((mLt ((ar 14)) ((sc 15)) (sc 16)) - (nI 48))) H locs 127 ls (⟨rfl, fun h => ft h, fun _ => by simp (config := { decide := true }) [mN2, mNp, mNv, mFg, c_4, c_8, c_11, pk_us, upd], by have hh := hat; (try have b0 := mFg_lt (tx := ar 14) (n := sc 15) c_4); (try have b1 := mFg_lt (tx := ar 14) (n := sc 15) c_8); (try have b2 := mFg_lt (tx := ar 14) (n := sc 15) c_11); (try have d0 := mLt_lt c_4 (by decide)); (try have d1 := mLt_lt c_8 (by decide)); (try have d2 := mLt_lt c_11 (by decide)); show (sc 16) + 1 ≤ sc 15; omega⟩) (hP) (hD) hS (rfl) dX8_readNumbers_127
    · replace c_8 := bI_t c_8
      refine lv_aload_n hx hb dX8_readNumbers_64 rfl (lv_at hl 1 rfl) ?_
      refine va_get (D := g.1) (cl := vwCl) (ci := 8) (v := .ref (a 17)) (C := RX8) (T := TX8) (N := 29) hx hb hts hX8_readNumbers_X8 hown hK hP 0 rfl rfl 17 (by decide) (hts _ kX8_readNumbers_f34) (fun _ h9 => h9) rfl dX8_readNumbers_65 ?_
      refine lv_iload_n hx hb dX8_readNumbers_68 rfl (lv_at hl 0 rfl) ?_
      refine lv_bipush (v := nI 10) hx hb dX8_readNumbers_69 (by decide) ?_
      refine lv_aload_n hx hb dX8_readNumbers_71 rfl (lv_at hl 1 rfl) ?_
      refine va_get (D := g.1) (cl := vwCl) (ci := 8) (v := .ref (a 17)) (C := RX8) (T := TX8) (N := 29) hx hb hts hX8_readNumbers_X8 hown hK hP 0 rfl rfl 17 (by decide) (hts _ kX8_readNumbers_f34) (fun _ h9 => h9) rfl dX8_readNumbers_72 ?_
      refine lv_iload_n hx hb dX8_readNumbers_75 rfl (lv_at hl 0 rfl) ?_
      refine ald_i (D := g.1) (cl := vwCl) (f := upd (ar 17) 0 ((mLt ((ar 14)) ((sc 15)) (sc 16)) - (nI 48))) (i := 0) (n := 2) hx hb hK hP 9 0 rfl rfl (by omega) (by decide) dX8_readNumbers_76 ?_
      refine lv_imul hx hb dX8_readNumbers_77 ?_
      refine lv_aload_n hx hb dX8_readNumbers_78 rfl (lv_at hl 1 rfl) ?_
      refine lv_aload_n hx hb dX8_readNumbers_79 rfl (lv_at hl 1 rfl) ?_
      refine va_get (D := g.1) (cl := vwCl) (ci := 8) (v := .int (nI ((sc 16) + 1))) (C := RX8) (T := TX8) (N := 29) hx hb hts hX8_readNumbers_X8 hown hK hP 0 rfl rfl 16 (by decide) (hts _ kX8_readNumbers_f95) (fun _ h9 => h9) rfl dX8_readNumbers_80 ?_
      refine ro_callV0 (As := [.int (nI ((sc 16) + 1))]) (rest := [.int ((nI 10) * ((upd (ar 17) 0 ((mLt ((ar 14)) ((sc 15)) (sc 16)) - (nI 48))) 0)), .int (nI 0), .ref (a 17)]) (b := o) ctx hKK hP (c_X8_letterAt l g o a (updN sc 16 ((sc 16) + 1)) (upA ar 17 (upd (ar 17) 0 ((mLt ((ar 14)) ((sc 15)) (sc 16)) - (nI 48)))) ((sc 16) + 1) (show (sc 15) ≤ 200 from by omega) (show ((sc 16) + 1) ≤ 1000 from by omega)) gX8_readNumbers_X8_letterAt rfl rfl rfl hdX8_letterAt ⟨Nat.le_of_ble_eq_true rfl, Nat.le_of_ble_eq_true rfl⟩ (ci := 8) (q0 := 0) rfl rfl hl.1 rfl rfl (Nat.le_of_ble_eq_true rfl) dX8_readNumbers_83 (fun r_29 hr_29 => ?_)
      have hr_29 : r_29 = mLt ((ar 14)) ((sc 15)) ((sc 16) + 1) := hr_29
      subst hr_29
      refine lv_iadd hx hb dX8_readNumbers_86 ?_
      refine lv_bipush (v := nI 48) hx hb dX8_readNumbers_87 (by decide) ?_
      refine lv_isub hx hb dX8_readNumbers_89 ?_
      refine ast_i (D := g.1) (cl := vwCl) (f := upd (ar 17) 0 ((mLt ((ar 14)) ((sc 15)) (sc 16)) - (nI 48))) (i := 0) (n := 2) (x := (((nI 10) * ((upd (ar 17) 0 ((mLt ((ar 14)) ((sc 15)) (sc 16)) - (nI 48))) 0)) + (mLt ((ar 14)) ((sc 15)) ((sc 16) + 1))) - (nI 48)) hx hb hK hP hD hS 9 0 rfl rfl (by omega) (by decide) dX8_readNumbers_90 (fun H locs hP hD hS => ?_)
      have hP : va_P g.1 vwCl (mW g o a (updN sc 16 ((sc 16) + 1)) (upA ar 17 (upd (upd (ar 17) 0 ((mLt ((ar 14)) ((sc 15)) (sc 16)) - (nI 48))) 0 ((((nI 10) * ((upd (ar 17) 0 ((mLt ((ar 14)) ((sc 15)) (sc 16)) - (nI 48))) 0)) + (mLt ((ar 14)) ((sc 15)) ((sc 16) + 1))) - (nI 48))))) H := hP
      have hD : va_D A (mW g o a (updN sc 16 ((sc 16) + 1)) (upA ar 17 (upd (upd (ar 17) 0 ((mLt ((ar 14)) ((sc 15)) (sc 16)) - (nI 48))) 0 ((((nI 10) * ((upd (ar 17) 0 ((mLt ((ar 14)) ((sc 15)) (sc 16)) - (nI 48))) 0)) + (mLt ((ar 14)) ((sc 15)) ((sc 16) + 1))) - (nI 48))))) := hD
      refine lv_aload_n hx hb dX8_readNumbers_91 rfl (lv_at hl 1 rfl) ?_
      refine lv_dup hx hb dX8_readNumbers_92 rfl ?_
      refine va_get (D := g.1) (cl := vwCl) (ci := 8) (v := .int (nI ((sc 16) + 1))) (C := RX8) (T := TX8) (N := 29) hx hb hts hX8_readNumbers_X8 hown hK hP 0 rfl rfl 16 (by decide) (hts _ kX8_readNumbers_f95) (fun _ h9 => h9) rfl dX8_readNumbers_93 ?_
      refine lv_iconst (v := nI 1) hx hb dX8_readNumbers_96 (by decide) ?_
      refine lv_iadd hx hb dX8_readNumbers_97 ?_
      refine lv_is (nI_add ((sc 16) + 1) 1) ?_
      refine va_put (D := g.1) (cl := vwCl) (ci := 8) (v := .int (nI (((sc 16) + 1) + 1))) (ty := .int) (C := RX8) (T := TX8) (N := 29) hx hb hts hX8_readNumbers_X8 tyX8 tyX8_ok nmX8 hown hK hP hD hS 0 rfl rfl 16 (by decide) (hts _ kX8_readNumbers_f95) (fun _ h9 => h9) rfl (by decide +kernel) (rfl) (rfl) (Nat.le_of_ble_eq_true rfl) dX8_readNumbers_98 (fun H locs hP hD hS => ?_)
      have hP : va_P g.1 vwCl (mW g o a (updN sc 16 (((sc 16) + 1) + 1)) (upA ar 17 (upd (upd (ar 17) 0 ((mLt ((ar 14)) ((sc 15)) (sc 16)) - (nI 48))) 0 ((((nI 10) * ((upd (ar 17) 0 ((mLt ((ar 14)) ((sc 15)) (sc 16)) - (nI 48))) 0)) + (mLt ((ar 14)) ((sc 15)) ((sc 16) + 1))) - (nI 48))))) H := hP
      have hD : va_D A (mW g o a (updN sc 16 (((sc 16) + 1) + 1)) (upA ar 17 (upd (upd (ar 17) 0 ((mLt ((ar 14)) ((sc 15)) (sc 16)) - (nI 48))) 0 ((((nI 10) * ((upd (ar 17) 0 ((mLt ((ar 14)) ((sc 15)) (sc 16)) - (nI 48))) 0)) + (mLt ((ar 14)) ((sc 15)) ((sc 16) + 1))) - (nI 48))))) := hD
      refine lv_aload_n hx hb dX8_readNumbers_101 rfl (lv_at hl 1 rfl) ?_
      refine lv_aload_n hx hb dX8_readNumbers_102 rfl (lv_at hl 1 rfl) ?_
      refine va_get (D := g.1) (cl := vwCl) (ci := 8) (v := .int (nI (((sc 16) + 1) + 1))) (C := RX8) (T := TX8) (N := 29) hx hb hts hX8_readNumbers_X8 hown hK hP 0 rfl rfl 16 (by decide) (hts _ kX8_readNumbers_f95) (fun _ h9 => h9) rfl dX8_readNumbers_103 ?_
      refine ro_callV0 (As := [.int (nI (((sc 16) + 1) + 1))]) (rest := []) (b := o) ctx hKK hP (c_X8_letterAt l g o a (updN sc 16 (((sc 16) + 1) + 1)) (upA ar 17 (upd (upd (ar 17) 0 ((mLt ((ar 14)) ((sc 15)) (sc 16)) - (nI 48))) 0 ((((nI 10) * ((upd (ar 17) 0 ((mLt ((ar 14)) ((sc 15)) (sc 16)) - (nI 48))) 0)) + (mLt ((ar 14)) ((sc 15)) ((sc 16) + 1))) - (nI 48)))) (((sc 16) + 1) + 1) (show (sc 15) ≤ 200 from by omega) (show (((sc 16) + 1) + 1) ≤ 1000 from by omega)) gX8_readNumbers_X8_letterAt rfl rfl rfl hdX8_letterAt ⟨Nat.le_of_ble_eq_true rfl, Nat.le_of_ble_eq_true rfl⟩ (ci := 8) (q0 := 0) rfl rfl hl.1 rfl rfl (Nat.le_of_ble_eq_true rfl) dX8_readNumbers_106 (fun r_30 hr_30 => ?_)
      have hr_30 : r_30 = mLt ((ar 14)) ((sc 15)) (((sc 16) + 1) + 1) := hr_30
      subst hr_30
      refine lv_iload_n hx hb dX8_readNumbers_109 rfl (lv_at hl 0 rfl) ?_
      refine lv_iload_n hx hb dX8_readNumbers_110 rfl (lv_at hl 2 rfl) ?_
      refine lv_iconst (v := nI 1) hx hb dX8_readNumbers_111 (by decide) ?_
      refine lv_isub hx hb dX8_readNumbers_112 ?_
      refine lv_is (x' := nI 1) (by decide) ?_
      refine lv_icmp_ge (tgt := 121) hx hb dX8_readNumbers_113 (by decide) (fun c_31 => absurd c_31 (by decide)) (fun c_31 => ?_)
      refine lv_bipush (v := nI 44) hx hb dX8_readNumbers_116 (by decide) ?_
      refine lv_goto (tgt := 123) hx hb dX8_readNumbers_118 (by decide) ?_
      refine lv_icmp_eq (tgt := 128) hx hb dX8_readNumbers_123 (by decide) (fun c_32 => ?_) (fun c_32 => ?_)
      · refine lv_aload_n hx hb dX8_readNumbers_128 rfl (lv_at hl 1 rfl) ?_
        refine lv_dup hx hb dX8_readNumbers_129 rfl ?_
        refine va_get (D := g.1) (cl := vwCl) (ci := 8) (v := .int (nI (((sc 16) + 1) + 1))) (C := RX8) (T := TX8) (N := 29) hx hb hts hX8_readNumbers_X8 hown hK hP 0 rfl rfl 16 (by decide) (hts _ kX8_readNumbers_f95) (fun _ h9 => h9) rfl dX8_readNumbers_130 ?_
        refine lv_iconst (v := nI 1) hx hb dX8_readNumbers_133 (by decide) ?_
        refine lv_iadd hx hb dX8_readNumbers_134 ?_
        refine lv_is (nI_add (((sc 16) + 1) + 1) 1) ?_
        refine va_put (D := g.1) (cl := vwCl) (ci := 8) (v := .int (nI ((((sc 16) + 1) + 1) + 1))) (ty := .int) (C := RX8) (T := TX8) (N := 29) hx hb hts hX8_readNumbers_X8 tyX8 tyX8_ok nmX8 hown hK hP hD hS 0 rfl rfl 16 (by decide) (hts _ kX8_readNumbers_f95) (fun _ h9 => h9) rfl (by decide +kernel) (rfl) (rfl) (Nat.le_of_ble_eq_true rfl) dX8_readNumbers_135 (fun H locs hP hD hS => ?_)
        have hP : va_P g.1 vwCl (mW g o a (updN sc 16 ((((sc 16) + 1) + 1) + 1)) (upA ar 17 (upd (upd (ar 17) 0 ((mLt ((ar 14)) ((sc 15)) (sc 16)) - (nI 48))) 0 ((((nI 10) * ((upd (ar 17) 0 ((mLt ((ar 14)) ((sc 15)) (sc 16)) - (nI 48))) 0)) + (mLt ((ar 14)) ((sc 15)) ((sc 16) + 1))) - (nI 48))))) H := hP
        have hD : va_D A (mW g o a (updN sc 16 ((((sc 16) + 1) + 1) + 1)) (upA ar 17 (upd (upd (ar 17) 0 ((mLt ((ar 14)) ((sc 15)) (sc 16)) - (nI 48))) 0 ((((nI 10) * ((upd (ar 17) 0 ((mLt ((ar 14)) ((sc 15)) (sc 16)) - (nI 48))) 0)) + (mLt ((ar 14)) ((sc 15)) ((sc 16) + 1))) - (nI 48))))) := hD
        refine lv_iinc (v := nI 1) (lv' := [(2, .int (nI 1)), (0, .ref o), (1, .int (nI 2))]) hx hb dX8_readNumbers_138 hl (k := 0) rfl (by decide) (by decide) rfl (fun ls hl => ?_)
        refine lv_goto (tgt := 2) hx hb dX8_readNumbers_141 (by decide) ?_
        refine lv_iload_n hx hb dX8_readNumbers_2 rfl (lv_at hl 0 rfl) ?_
        refine lv_iload_n hx hb dX8_readNumbers_3 rfl (lv_at hl 2 rfl) ?_
        refine lv_icmp_ge (tgt := 144) hx hb dX8_readNumbers_4 (by decide) (fun c_33 => absurd c_33 (by decide)) (fun c_33 => ?_)
        refine lv_aload_n hx hb dX8_readNumbers_7 rfl (lv_at hl 1 rfl) ?_
        refine lv_aload_n hx hb dX8_readNumbers_8 rfl (lv_at hl 1 rfl) ?_
        refine va_get (D := g.1) (cl := vwCl) (ci := 8) (v := .int (nI ((((sc 16) + 1) + 1) + 1))) (C := RX8) (T := TX8) (N := 29) hx hb hts hX8_readNumbers_X8 hown hK hP 0 rfl rfl 16 (by decide) (hts _ kX8_readNumbers_f95) (fun _ h9 => h9) rfl dX8_readNumbers_9 ?_
        refine ro_callV0 (As := [.int (nI ((((sc 16) + 1) + 1) + 1))]) (rest := []) (b := o) ctx hKK hP (c_X8_letterAt l g o a (updN sc 16 ((((sc 16) + 1) + 1) + 1)) (upA ar 17 (upd (upd (ar 17) 0 ((mLt ((ar 14)) ((sc 15)) (sc 16)) - (nI 48))) 0 ((((nI 10) * ((upd (ar 17) 0 ((mLt ((ar 14)) ((sc 15)) (sc 16)) - (nI 48))) 0)) + (mLt ((ar 14)) ((sc 15)) ((sc 16) + 1))) - (nI 48)))) ((((sc 16) + 1) + 1) + 1) (show (sc 15) ≤ 200 from by omega) (show ((((sc 16) + 1) + 1) + 1) ≤ 1000 from by omega)) gX8_readNumbers_X8_letterAt rfl rfl rfl hdX8_letterAt ⟨Nat.le_of_ble_eq_true rfl, Nat.le_of_ble_eq_true rfl⟩ (ci := 8) (q0 := 0) rfl rfl hl.1 rfl rfl (Nat.le_of_ble_eq_true rfl) dX8_readNumbers_12 (fun r_34 hr_34 => ?_)
        have hr_34 : r_34 = mLt ((ar 14)) ((sc 15)) ((((sc 16) + 1) + 1) + 1) := hr_34
        subst hr_34
        refine ro_callS (As := [.int (mLt ((ar 14)) ((sc 15)) ((((sc 16) + 1) + 1) + 1))]) (rest := []) ctx hKK hP (c_X8_isFigure l g (mLt ((ar 14)) ((sc 15)) ((((sc 16) + 1) + 1) + 1))) gX8_readNumbers_X8_isFigure rfl rfl rfl hdX8_isFigure ⟨Nat.le_of_ble_eq_true rfl, Nat.le_of_ble_eq_true rfl⟩ [] rfl hl.1 rfl rfl (Nat.le_of_ble_eq_true rfl) dX8_readNumbers_15 (fun r_35 hr_35 => ?_)
        subst hr_35
        refine lv_if_ne (tgt := 23) hx hb dX8_readNumbers_18 (by decide) (fun c_36 => ?_) (fun c_36 => ?_)
        · replace c_36 := bI_t c_36
          refine lv_aload_n hx hb dX8_readNumbers_23 rfl (lv_at hl 1 rfl) ?_
          refine va_get (D := g.1) (cl := vwCl) (ci := 8) (v := .ref (a 17)) (C := RX8) (T := TX8) (N := 29) hx hb hts hX8_readNumbers_X8 hown hK hP 0 rfl rfl 17 (by decide) (hts _ kX8_readNumbers_f34) (fun _ h9 => h9) rfl dX8_readNumbers_24 ?_
          refine lv_iload_n hx hb dX8_readNumbers_27 rfl (lv_at hl 0 rfl) ?_
          refine lv_aload_n hx hb dX8_readNumbers_28 rfl (lv_at hl 1 rfl) ?_
          refine lv_aload_n hx hb dX8_readNumbers_29 rfl (lv_at hl 1 rfl) ?_
          refine va_get (D := g.1) (cl := vwCl) (ci := 8) (v := .int (nI ((((sc 16) + 1) + 1) + 1))) (C := RX8) (T := TX8) (N := 29) hx hb hts hX8_readNumbers_X8 hown hK hP 0 rfl rfl 16 (by decide) (hts _ kX8_readNumbers_f95) (fun _ h9 => h9) rfl dX8_readNumbers_30 ?_
          refine ro_callV0 (As := [.int (nI ((((sc 16) + 1) + 1) + 1))]) (rest := [.int (nI 1), .ref (a 17)]) (b := o) ctx hKK hP (c_X8_letterAt l g o a (updN sc 16 ((((sc 16) + 1) + 1) + 1)) (upA ar 17 (upd (upd (ar 17) 0 ((mLt ((ar 14)) ((sc 15)) (sc 16)) - (nI 48))) 0 ((((nI 10) * ((upd (ar 17) 0 ((mLt ((ar 14)) ((sc 15)) (sc 16)) - (nI 48))) 0)) + (mLt ((ar 14)) ((sc 15)) ((sc 16) + 1))) - (nI 48)))) ((((sc 16) + 1) + 1) + 1) (show (sc 15) ≤ 200 from by omega) (show ((((sc 16) + 1) + 1) + 1) ≤ 1000 from by omega)) gX8_readNumbers_X8_letterAt rfl rfl rfl hdX8_letterAt ⟨Nat.le_of_ble_eq_true rfl, Nat.le_of_ble_eq_true rfl⟩ (ci := 8) (q0 := 0) rfl rfl hl.1 rfl rfl (Nat.le_of_ble_eq_true rfl) dX8_readNumbers_33 (fun r_37 hr_37 => ?_)
          have hr_37 : r_37 = mLt ((ar 14)) ((sc 15)) ((((sc 16) + 1) + 1) + 1) := hr_37
          subst hr_37
          refine lv_bipush (v := nI 48) hx hb dX8_readNumbers_36 (by decide) ?_
          refine lv_isub hx hb dX8_readNumbers_38 ?_
          refine ast_i (D := g.1) (cl := vwCl) (f := upd (upd (ar 17) 0 ((mLt ((ar 14)) ((sc 15)) (sc 16)) - (nI 48))) 0 ((((nI 10) * ((upd (ar 17) 0 ((mLt ((ar 14)) ((sc 15)) (sc 16)) - (nI 48))) 0)) + (mLt ((ar 14)) ((sc 15)) ((sc 16) + 1))) - (nI 48))) (i := 1) (n := 2) (x := (mLt ((ar 14)) ((sc 15)) ((((sc 16) + 1) + 1) + 1)) - (nI 48)) hx hb hK hP hD hS 9 0 rfl rfl (by omega) (by decide) dX8_readNumbers_39 (fun H locs hP hD hS => ?_)
          have hP : va_P g.1 vwCl (mW g o a (updN sc 16 ((((sc 16) + 1) + 1) + 1)) (upA ar 17 (upd (upd (upd (ar 17) 0 ((mLt ((ar 14)) ((sc 15)) (sc 16)) - (nI 48))) 0 ((((nI 10) * ((upd (ar 17) 0 ((mLt ((ar 14)) ((sc 15)) (sc 16)) - (nI 48))) 0)) + (mLt ((ar 14)) ((sc 15)) ((sc 16) + 1))) - (nI 48))) 1 ((mLt ((ar 14)) ((sc 15)) ((((sc 16) + 1) + 1) + 1)) - (nI 48))))) H := hP
          have hD : va_D A (mW g o a (updN sc 16 ((((sc 16) + 1) + 1) + 1)) (upA ar 17 (upd (upd (upd (ar 17) 0 ((mLt ((ar 14)) ((sc 15)) (sc 16)) - (nI 48))) 0 ((((nI 10) * ((upd (ar 17) 0 ((mLt ((ar 14)) ((sc 15)) (sc 16)) - (nI 48))) 0)) + (mLt ((ar 14)) ((sc 15)) ((sc 16) + 1))) - (nI 48))) 1 ((mLt ((ar 14)) ((sc 15)) ((((sc 16) + 1) + 1) + 1)) - (nI 48))))) := hD
          refine lv_aload_n hx hb dX8_readNumbers_40 rfl (lv_at hl 1 rfl) ?_
          refine lv_dup hx hb dX8_readNumbers_41 rfl ?_
          refine va_get (D := g.1) (cl := vwCl) (ci := 8) (v := .int (nI ((((sc 16) + 1) + 1) + 1))) (C := RX8) (T := TX8) (N := 29) hx hb hts hX8_readNumbers_X8 hown hK hP 0 rfl rfl 16 (by decide) (hts _ kX8_readNumbers_f95) (fun _ h9 => h9) rfl dX8_readNumbers_42 ?_
          refine lv_iconst (v := nI 1) hx hb dX8_readNumbers_45 (by decide) ?_
          refine lv_iadd hx hb dX8_readNumbers_46 ?_
          refine lv_is (nI_add ((((sc 16) + 1) + 1) + 1) 1) ?_
          refine va_put (D := g.1) (cl := vwCl) (ci := 8) (v := .int (nI (((((sc 16) + 1) + 1) + 1) + 1))) (ty := .int) (C := RX8) (T := TX8) (N := 29) hx hb hts hX8_readNumbers_X8 tyX8 tyX8_ok nmX8 hown hK hP hD hS 0 rfl rfl 16 (by decide) (hts _ kX8_readNumbers_f95) (fun _ h9 => h9) rfl (by decide +kernel) (rfl) (rfl) (Nat.le_of_ble_eq_true rfl) dX8_readNumbers_47 (fun H locs hP hD hS => ?_)
          have hP : va_P g.1 vwCl (mW g o a (updN sc 16 (((((sc 16) + 1) + 1) + 1) + 1)) (upA ar 17 (upd (upd (upd (ar 17) 0 ((mLt ((ar 14)) ((sc 15)) (sc 16)) - (nI 48))) 0 ((((nI 10) * ((upd (ar 17) 0 ((mLt ((ar 14)) ((sc 15)) (sc 16)) - (nI 48))) 0)) + (mLt ((ar 14)) ((sc 15)) ((sc 16) + 1))) - (nI 48))) 1 ((mLt ((ar 14)) ((sc 15)) ((((sc 16) + 1) + 1) + 1)) - (nI 48))))) H := hP
          have hD : va_D A (mW g o a (updN sc 16 (((((sc 16) + 1) + 1) + 1) + 1)) (upA ar 17 (upd (upd (upd (ar 17) 0 ((mLt ((ar 14)) ((sc 15)) (sc 16)) - (nI 48))) 0 ((((nI 10) * ((upd (ar 17) 0 ((mLt ((ar 14)) ((sc 15)) (sc 16)) - (nI 48))) 0)) + (mLt ((ar 14)) ((sc 15)) ((sc 16) + 1))) - (nI 48))) 1 ((mLt ((ar 14)) ((sc 15)) ((((sc 16) + 1) + 1) + 1)) - (nI 48))))) := hD
          refine lv_aload_n hx hb dX8_readNumbers_50 rfl (lv_at hl 1 rfl) ?_
          refine lv_aload_n hx hb dX8_readNumbers_51 rfl (lv_at hl 1 rfl) ?_
          refine va_get (D := g.1) (cl := vwCl) (ci := 8) (v := .int (nI (((((sc 16) + 1) + 1) + 1) + 1))) (C := RX8) (T := TX8) (N := 29) hx hb hts hX8_readNumbers_X8 hown hK hP 0 rfl rfl 16 (by decide) (hts _ kX8_readNumbers_f95) (fun _ h9 => h9) rfl dX8_readNumbers_52 ?_
          refine ro_callV0 (As := [.int (nI (((((sc 16) + 1) + 1) + 1) + 1))]) (rest := []) (b := o) ctx hKK hP (c_X8_letterAt l g o a (updN sc 16 (((((sc 16) + 1) + 1) + 1) + 1)) (upA ar 17 (upd (upd (upd (ar 17) 0 ((mLt ((ar 14)) ((sc 15)) (sc 16)) - (nI 48))) 0 ((((nI 10) * ((upd (ar 17) 0 ((mLt ((ar 14)) ((sc 15)) (sc 16)) - (nI 48))) 0)) + (mLt ((ar 14)) ((sc 15)) ((sc 16) + 1))) - (nI 48))) 1 ((mLt ((ar 14)) ((sc 15)) ((((sc 16) + 1) + 1) + 1)) - (nI 48)))) (((((sc 16) + 1) + 1) + 1) + 1) (show (sc 15) ≤ 200 from by omega) (show (((((sc 16) + 1) + 1) + 1) + 1) ≤ 1000 from by omega)) gX8_readNumbers_X8_letterAt rfl rfl rfl hdX8_letterAt ⟨Nat.le_of_ble_eq_true rfl, Nat.le_of_ble_eq_true rfl⟩ (ci := 8) (q0 := 0) rfl rfl hl.1 rfl rfl (Nat.le_of_ble_eq_true rfl) dX8_readNumbers_55 (fun r_38 hr_38 => ?_)
          have hr_38 : r_38 = mLt ((ar 14)) ((sc 15)) (((((sc 16) + 1) + 1) + 1) + 1) := hr_38
          subst hr_38
          refine ro_callS (As := [.int (mLt ((ar 14)) ((sc 15)) (((((sc 16) + 1) + 1) + 1) + 1))]) (rest := []) ctx hKK hP (c_X8_isFigure l g (mLt ((ar 14)) ((sc 15)) (((((sc 16) + 1) + 1) + 1) + 1))) gX8_readNumbers_X8_isFigure rfl rfl rfl hdX8_isFigure ⟨Nat.le_of_ble_eq_true rfl, Nat.le_of_ble_eq_true rfl⟩ [] rfl hl.1 rfl rfl (Nat.le_of_ble_eq_true rfl) dX8_readNumbers_58 (fun r_39 hr_39 => ?_)
          subst hr_39
          refine lv_if_eq (tgt := 101) hx hb dX8_readNumbers_61 (by decide) (fun c_40 => ?_) (fun c_40 => ?_)
          · replace c_40 := bI_f c_40
            refine lv_aload_n hx hb dX8_readNumbers_101 rfl (lv_at hl 1 rfl) ?_
            refine lv_aload_n hx hb dX8_readNumbers_102 rfl (lv_at hl 1 rfl) ?_
            refine va_get (D := g.1) (cl := vwCl) (ci := 8) (v := .int (nI (((((sc 16) + 1) + 1) + 1) + 1))) (C := RX8) (T := TX8) (N := 29) hx hb hts hX8_readNumbers_X8 hown hK hP 0 rfl rfl 16 (by decide) (hts _ kX8_readNumbers_f95) (fun _ h9 => h9) rfl dX8_readNumbers_103 ?_
            refine ro_callV0 (As := [.int (nI (((((sc 16) + 1) + 1) + 1) + 1))]) (rest := []) (b := o) ctx hKK hP (c_X8_letterAt l g o a (updN sc 16 (((((sc 16) + 1) + 1) + 1) + 1)) (upA ar 17 (upd (upd (upd (ar 17) 0 ((mLt ((ar 14)) ((sc 15)) (sc 16)) - (nI 48))) 0 ((((nI 10) * ((upd (ar 17) 0 ((mLt ((ar 14)) ((sc 15)) (sc 16)) - (nI 48))) 0)) + (mLt ((ar 14)) ((sc 15)) ((sc 16) + 1))) - (nI 48))) 1 ((mLt ((ar 14)) ((sc 15)) ((((sc 16) + 1) + 1) + 1)) - (nI 48)))) (((((sc 16) + 1) + 1) + 1) + 1) (show (sc 15) ≤ 200 from by omega) (show (((((sc 16) + 1) + 1) + 1) + 1) ≤ 1000 from by omega)) gX8_readNumbers_X8_letterAt rfl rfl rfl hdX8_letterAt ⟨Nat.le_of_ble_eq_true rfl, Nat.le_of_ble_eq_true rfl⟩ (ci := 8) (q0 := 0) rfl rfl hl.1 rfl rfl (Nat.le_of_ble_eq_true rfl) dX8_readNumbers_106 (fun r_41 hr_41 => ?_)
            have hr_41 : r_41 = mLt ((ar 14)) ((sc 15)) (((((sc 16) + 1) + 1) + 1) + 1) := hr_41
            subst hr_41
            refine lv_iload_n hx hb dX8_readNumbers_109 rfl (lv_at hl 0 rfl) ?_
            refine lv_iload_n hx hb dX8_readNumbers_110 rfl (lv_at hl 2 rfl) ?_
            refine lv_iconst (v := nI 1) hx hb dX8_readNumbers_111 (by decide) ?_
            refine lv_isub hx hb dX8_readNumbers_112 ?_
            refine lv_is (x' := nI 1) (by decide) ?_
            refine lv_icmp_ge (tgt := 121) hx hb dX8_readNumbers_113 (by decide) (fun c_42 => ?_) (fun c_42 => absurd c_42 (by decide))
            refine lv_bipush (v := nI 59) hx hb dX8_readNumbers_121 (by decide) ?_
            refine lv_icmp_eq (tgt := 128) hx hb dX8_readNumbers_123 (by decide) (fun c_43 => ?_) (fun c_43 => ?_)
            · refine lv_aload_n hx hb dX8_readNumbers_128 rfl (lv_at hl 1 rfl) ?_
              refine lv_dup hx hb dX8_readNumbers_129 rfl ?_
              refine va_get (D := g.1) (cl := vwCl) (ci := 8) (v := .int (nI (((((sc 16) + 1) + 1) + 1) + 1))) (C := RX8) (T := TX8) (N := 29) hx hb hts hX8_readNumbers_X8 hown hK hP 0 rfl rfl 16 (by decide) (hts _ kX8_readNumbers_f95) (fun _ h9 => h9) rfl dX8_readNumbers_130 ?_
              refine lv_iconst (v := nI 1) hx hb dX8_readNumbers_133 (by decide) ?_
              refine lv_iadd hx hb dX8_readNumbers_134 ?_
              refine lv_is (nI_add (((((sc 16) + 1) + 1) + 1) + 1) 1) ?_
              refine va_put (D := g.1) (cl := vwCl) (ci := 8) (v := .int (nI ((((((sc 16) + 1) + 1) + 1) + 1) + 1))) (ty := .int) (C := RX8) (T := TX8) (N := 29) hx hb hts hX8_readNumbers_X8 tyX8 tyX8_ok nmX8 hown hK hP hD hS 0 rfl rfl 16 (by decide) (hts _ kX8_readNumbers_f95) (fun _ h9 => h9) rfl (by decide +kernel) (rfl) (rfl) (Nat.le_of_ble_eq_true rfl) dX8_readNumbers_135 (fun H locs hP hD hS => ?_)
              have hP : va_P g.1 vwCl (mW g o a (updN sc 16 ((((((sc 16) + 1) + 1) + 1) + 1) + 1)) (upA ar 17 (upd (upd (upd (ar 17) 0 ((mLt ((ar 14)) ((sc 15)) (sc 16)) - (nI 48))) 0 ((((nI 10) * ((upd (ar 17) 0 ((mLt ((ar 14)) ((sc 15)) (sc 16)) - (nI 48))) 0)) + (mLt ((ar 14)) ((sc 15)) ((sc 16) + 1))) - (nI 48))) 1 ((mLt ((ar 14)) ((sc 15)) ((((sc 16) + 1) + 1) + 1)) - (nI 48))))) H := hP
              have hD : va_D A (mW g o a (updN sc 16 ((((((sc 16) + 1) + 1) + 1) + 1) + 1)) (upA ar 17 (upd (upd (upd (ar 17) 0 ((mLt ((ar 14)) ((sc 15)) (sc 16)) - (nI 48))) 0 ((((nI 10) * ((upd (ar 17) 0 ((mLt ((ar 14)) ((sc 15)) (sc 16)) - (nI 48))) 0)) + (mLt ((ar 14)) ((sc 15)) ((sc 16) + 1))) - (nI 48))) 1 ((mLt ((ar 14)) ((sc 15)) ((((sc 16) + 1) + 1) + 1)) - (nI 48))))) := hD
              refine lv_iinc (v := nI 2) (lv' := [(2, .int (nI 2)), (0, .ref o), (1, .int (nI 2))]) hx hb dX8_readNumbers_138 hl (k := 0) rfl (by decide) (by decide) rfl (fun ls hl => ?_)
              refine lv_goto (tgt := 2) hx hb dX8_readNumbers_141 (by decide) ?_
              refine lv_iload_n hx hb dX8_readNumbers_2 rfl (lv_at hl 0 rfl) ?_
              refine lv_iload_n hx hb dX8_readNumbers_3 rfl (lv_at hl 2 rfl) ?_
              refine lv_icmp_ge (tgt := 144) hx hb dX8_readNumbers_4 (by decide) (fun c_44 => ?_) (fun c_44 => absurd c_44 (by decide))
              refine lv_iconst (v := nI 1) hx hb dX8_readNumbers_144 (by decide) ?_
              exact hret (nI 1) (true, (((((sc 16) + 1) + 1) + 1) + 1) + 1, upd (upd (upd (ar 17) 0 ((mLt ((ar 14)) ((sc 15)) (sc 16)) - (nI 48))) 0 ((((nI 10) * ((upd (ar 17) 0 ((mLt ((ar 14)) ((sc 15)) (sc 16)) - (nI 48))) 0)) + (mLt ((ar 14)) ((sc 15)) ((sc 16) + 1))) - (nI 48))) 1 ((mLt ((ar 14)) ((sc 15)) ((((sc 16) + 1) + 1) + 1)) - (nI 48))) H locs 145 ls (⟨rfl, fun _ => by simp (config := { decide := true }) [mN2, mNp, mNv, mFg, c_4, c_8, c_32, c_36, c_40, c_43, pk_us, upd], fun h => tf h, by have hh := hat; (try have b0 := mFg_lt (tx := ar 14) (n := sc 15) c_4); (try have b1 := mFg_lt (tx := ar 14) (n := sc 15) c_8); (try have b2 := mFg_lt (tx := ar 14) (n := sc 15) c_32); (try have b3 := mFg_lt (tx := ar 14) (n := sc 15) c_36); (try have b4 := mFg_lt (tx := ar 14) (n := sc 15) c_40); (try have b5 := mFg_lt (tx := ar 14) (n := sc 15) c_43); (try have d0 := mLt_lt c_4 (by decide)); (try have d1 := mLt_lt c_8 (by decide)); (try have d2 := mLt_lt c_32 (by decide)); (try have d3 := mLt_lt c_36 (by decide)); (try have d4 := mLt_lt c_40 (by decide)); (try have d5 := mLt_lt c_43 (by decide)); show (((((sc 16) + 1) + 1) + 1) + 1) + 1 ≤ sc 15; omega⟩) (hP) (hD) hS (rfl) dX8_readNumbers_145
            · refine lv_iconst (v := nI 0) hx hb dX8_readNumbers_126 (by decide) ?_
              exact hret (nI 0) (false, ((((sc 16) + 1) + 1) + 1) + 1, upd (upd (upd (ar 17) 0 ((mLt ((ar 14)) ((sc 15)) (sc 16)) - (nI 48))) 0 ((((nI 10) * ((upd (ar 17) 0 ((mLt ((ar 14)) ((sc 15)) (sc 16)) - (nI 48))) 0)) + (mLt ((ar 14)) ((sc 15)) ((sc 16) + 1))) - (nI 48))) 1 ((mLt ((ar 14)) ((sc 15)) ((((sc 16) + 1) + 1) + 1)) - (nI 48))) H locs 127 ls (⟨rfl, fun h => ft h, fun _ => by simp (config := { decide := true }) [mN2, mNp, mNv, mFg, c_4, c_8, c_32, c_36, c_40, c_43, pk_us, upd], by have hh := hat; (try have b0 := mFg_lt (tx := ar 14) (n := sc 15) c_4); (try have b1 := mFg_lt (tx := ar 14) (n := sc 15) c_8); (try have b2 := mFg_lt (tx := ar 14) (n := sc 15) c_32); (try have b3 := mFg_lt (tx := ar 14) (n := sc 15) c_36); (try have b4 := mFg_lt (tx := ar 14) (n := sc 15) c_40); (try have b5 := mFg_lt (tx := ar 14) (n := sc 15) c_43); (try have d0 := mLt_lt c_4 (by decide)); (try have d1 := mLt_lt c_8 (by decide)); (try have d2 := mLt_lt c_32 (by decide)); (try have d3 := mLt_lt c_36 (by decide)); (try have d4 := mLt_lt c_40 (by decide)); (try have d5 := mLt_lt c_43 (by decide)); show ((((sc 16) + 1) + 1) + 1) + 1 ≤ sc 15; omega⟩) (hP) (hD) hS (rfl) dX8_readNumbers_127
          · replace c_40 := bI_t c_40
            refine lv_aload_n hx hb dX8_readNumbers_64 rfl (lv_at hl 1 rfl) ?_
            refine va_get (D := g.1) (cl := vwCl) (ci := 8) (v := .ref (a 17)) (C := RX8) (T := TX8) (N := 29) hx hb hts hX8_readNumbers_X8 hown hK hP 0 rfl rfl 17 (by decide) (hts _ kX8_readNumbers_f34) (fun _ h9 => h9) rfl dX8_readNumbers_65 ?_
            refine lv_iload_n hx hb dX8_readNumbers_68 rfl (lv_at hl 0 rfl) ?_
            refine lv_bipush (v := nI 10) hx hb dX8_readNumbers_69 (by decide) ?_
            refine lv_aload_n hx hb dX8_readNumbers_71 rfl (lv_at hl 1 rfl) ?_
            refine va_get (D := g.1) (cl := vwCl) (ci := 8) (v := .ref (a 17)) (C := RX8) (T := TX8) (N := 29) hx hb hts hX8_readNumbers_X8 hown hK hP 0 rfl rfl 17 (by decide) (hts _ kX8_readNumbers_f34) (fun _ h9 => h9) rfl dX8_readNumbers_72 ?_
            refine lv_iload_n hx hb dX8_readNumbers_75 rfl (lv_at hl 0 rfl) ?_
            refine ald_i (D := g.1) (cl := vwCl) (f := upd (upd (upd (ar 17) 0 ((mLt ((ar 14)) ((sc 15)) (sc 16)) - (nI 48))) 0 ((((nI 10) * ((upd (ar 17) 0 ((mLt ((ar 14)) ((sc 15)) (sc 16)) - (nI 48))) 0)) + (mLt ((ar 14)) ((sc 15)) ((sc 16) + 1))) - (nI 48))) 1 ((mLt ((ar 14)) ((sc 15)) ((((sc 16) + 1) + 1) + 1)) - (nI 48))) (i := 1) (n := 2) hx hb hK hP 9 0 rfl rfl (by omega) (by decide) dX8_readNumbers_76 ?_
            refine lv_imul hx hb dX8_readNumbers_77 ?_
            refine lv_aload_n hx hb dX8_readNumbers_78 rfl (lv_at hl 1 rfl) ?_
            refine lv_aload_n hx hb dX8_readNumbers_79 rfl (lv_at hl 1 rfl) ?_
            refine va_get (D := g.1) (cl := vwCl) (ci := 8) (v := .int (nI (((((sc 16) + 1) + 1) + 1) + 1))) (C := RX8) (T := TX8) (N := 29) hx hb hts hX8_readNumbers_X8 hown hK hP 0 rfl rfl 16 (by decide) (hts _ kX8_readNumbers_f95) (fun _ h9 => h9) rfl dX8_readNumbers_80 ?_
            refine ro_callV0 (As := [.int (nI (((((sc 16) + 1) + 1) + 1) + 1))]) (rest := [.int ((nI 10) * ((upd (upd (upd (ar 17) 0 ((mLt ((ar 14)) ((sc 15)) (sc 16)) - (nI 48))) 0 ((((nI 10) * ((upd (ar 17) 0 ((mLt ((ar 14)) ((sc 15)) (sc 16)) - (nI 48))) 0)) + (mLt ((ar 14)) ((sc 15)) ((sc 16) + 1))) - (nI 48))) 1 ((mLt ((ar 14)) ((sc 15)) ((((sc 16) + 1) + 1) + 1)) - (nI 48))) 1)), .int (nI 1), .ref (a 17)]) (b := o) ctx hKK hP (c_X8_letterAt l g o a (updN sc 16 (((((sc 16) + 1) + 1) + 1) + 1)) (upA ar 17 (upd (upd (upd (ar 17) 0 ((mLt ((ar 14)) ((sc 15)) (sc 16)) - (nI 48))) 0 ((((nI 10) * ((upd (ar 17) 0 ((mLt ((ar 14)) ((sc 15)) (sc 16)) - (nI 48))) 0)) + (mLt ((ar 14)) ((sc 15)) ((sc 16) + 1))) - (nI 48))) 1 ((mLt ((ar 14)) ((sc 15)) ((((sc 16) + 1) + 1) + 1)) - (nI 48)))) (((((sc 16) + 1) + 1) + 1) + 1) (show (sc 15) ≤ 200 from by omega) (show (((((sc 16) + 1) + 1) + 1) + 1) ≤ 1000 from by omega)) gX8_readNumbers_X8_letterAt rfl rfl rfl hdX8_letterAt ⟨Nat.le_of_ble_eq_true rfl, Nat.le_of_ble_eq_true rfl⟩ (ci := 8) (q0 := 0) rfl rfl hl.1 rfl rfl (Nat.le_of_ble_eq_true rfl) dX8_readNumbers_83 (fun r_45 hr_45 => ?_)
            have hr_45 : r_45 = mLt ((ar 14)) ((sc 15)) (((((sc 16) + 1) + 1) + 1) + 1) := hr_45
            subst hr_45
            refine lv_iadd hx hb dX8_readNumbers_86 ?_
            refine lv_bipush (v := nI 48) hx hb dX8_readNumbers_87 (by decide) ?_
            refine lv_isub hx hb dX8_readNumbers_89 ?_
            refine ast_i (D := g.1) (cl := vwCl) (f := upd (upd (upd (ar 17) 0 ((mLt ((ar 14)) ((sc 15)) (sc 16)) - (nI 48))) 0 ((((nI 10) * ((upd (ar 17) 0 ((mLt ((ar 14)) ((sc 15)) (sc 16)) - (nI 48))) 0)) + (mLt ((ar 14)) ((sc 15)) ((sc 16) + 1))) - (nI 48))) 1 ((mLt ((ar 14)) ((sc 15)) ((((sc 16) + 1) + 1) + 1)) - (nI 48))) (i := 1) (n := 2) (x := (((nI 10) * ((upd (upd (upd (ar 17) 0 ((mLt ((ar 14)) ((sc 15)) (sc 16)) - (nI 48))) 0 ((((nI 10) * ((upd (ar 17) 0 ((mLt ((ar 14)) ((sc 15)) (sc 16)) - (nI 48))) 0)) + (mLt ((ar 14)) ((sc 15)) ((sc 16) + 1))) - (nI 48))) 1 ((mLt ((ar 14)) ((sc 15)) ((((sc 16) + 1) + 1) + 1)) - (nI 48))) 1)) + (mLt ((ar 14)) ((sc 15)) (((((sc 16) + 1) + 1) + 1) + 1))) - (nI 48)) hx hb hK hP hD hS 9 0 rfl rfl (by omega) (by decide) dX8_readNumbers_90 (fun H locs hP hD hS => ?_)
            obtain ⟨hP, hD⟩ := re2 (mW g o a (updN sc 16 (((((sc 16) + 1) + 1) + 1) + 1)) (upA ar 17 (upd (upd (upd (upd (ar 17) 0 ((mLt ((ar 14)) ((sc 15)) (sc 16)) - (nI 48))) 0 ((((nI 10) * ((upd (ar 17) 0 ((mLt ((ar 14)) ((sc 15)) (sc 16)) - (nI 48))) 0)) + (mLt ((ar 14)) ((sc 15)) ((sc 16) + 1))) - (nI 48))) 1 ((mLt ((ar 14)) ((sc 15)) ((((sc 16) + 1) + 1) + 1)) - (nI 48))) 1 ((((nI 10) * ((upd (upd (upd (ar 17) 0 ((mLt ((ar 14)) ((sc 15)) (sc 16)) - (nI 48))) 0 ((((nI 10) * ((upd (ar 17) 0 ((mLt ((ar 14)) ((sc 15)) (sc 16)) - (nI 48))) 0)) + (mLt ((ar 14)) ((sc 15)) ((sc 16) + 1))) - (nI 48))) 1 ((mLt ((ar 14)) ((sc 15)) ((((sc 16) + 1) + 1) + 1)) - (nI 48))) 1)) + (mLt ((ar 14)) ((sc 15)) (((((sc 16) + 1) + 1) + 1) + 1))) - (nI 48))))) hP hD rfl
            refine lv_aload_n hx hb dX8_readNumbers_91 rfl (lv_at hl 1 rfl) ?_
            refine lv_dup hx hb dX8_readNumbers_92 rfl ?_
            refine va_get (D := g.1) (cl := vwCl) (ci := 8) (v := .int (nI (((((sc 16) + 1) + 1) + 1) + 1))) (C := RX8) (T := TX8) (N := 29) hx hb hts hX8_readNumbers_X8 hown hK hP 0 rfl rfl 16 (by decide) (hts _ kX8_readNumbers_f95) (fun _ h9 => h9) rfl dX8_readNumbers_93 ?_
            refine lv_iconst (v := nI 1) hx hb dX8_readNumbers_96 (by decide) ?_
            refine lv_iadd hx hb dX8_readNumbers_97 ?_
            refine lv_is (nI_add (((((sc 16) + 1) + 1) + 1) + 1) 1) ?_
            refine va_put (D := g.1) (cl := vwCl) (ci := 8) (v := .int (nI ((((((sc 16) + 1) + 1) + 1) + 1) + 1))) (ty := .int) (C := RX8) (T := TX8) (N := 29) hx hb hts hX8_readNumbers_X8 tyX8 tyX8_ok nmX8 hown hK hP hD hS 0 rfl rfl 16 (by decide) (hts _ kX8_readNumbers_f95) (fun _ h9 => h9) rfl (by decide +kernel) (rfl) (rfl) (Nat.le_of_ble_eq_true rfl) dX8_readNumbers_98 (fun H locs hP hD hS => ?_)
            obtain ⟨hP, hD⟩ := re2 (mW g o a (updN sc 16 ((((((sc 16) + 1) + 1) + 1) + 1) + 1)) (upA ar 17 (upd (upd (upd (upd (ar 17) 0 ((mLt ((ar 14)) ((sc 15)) (sc 16)) - (nI 48))) 0 ((((nI 10) * ((upd (ar 17) 0 ((mLt ((ar 14)) ((sc 15)) (sc 16)) - (nI 48))) 0)) + (mLt ((ar 14)) ((sc 15)) ((sc 16) + 1))) - (nI 48))) 1 ((mLt ((ar 14)) ((sc 15)) ((((sc 16) + 1) + 1) + 1)) - (nI 48))) 1 ((((nI 10) * ((upd (upd (upd (ar 17) 0 ((mLt ((ar 14)) ((sc 15)) (sc 16)) - (nI 48))) 0 ((((nI 10) * ((upd (ar 17) 0 ((mLt ((ar 14)) ((sc 15)) (sc 16)) - (nI 48))) 0)) + (mLt ((ar 14)) ((sc 15)) ((sc 16) + 1))) - (nI 48))) 1 ((mLt ((ar 14)) ((sc 15)) ((((sc 16) + 1) + 1) + 1)) - (nI 48))) 1)) + (mLt ((ar 14)) ((sc 15)) (((((sc 16) + 1) + 1) + 1) + 1))) - (nI 48))))) hP hD rfl
            refine lv_aload_n hx hb dX8_readNumbers_101 rfl (lv_at hl 1 rfl) ?_
            refine lv_aload_n hx hb dX8_readNumbers_102 rfl (lv_at hl 1 rfl) ?_
            refine va_get (D := g.1) (cl := vwCl) (ci := 8) (v := .int (nI ((((((sc 16) + 1) + 1) + 1) + 1) + 1))) (C := RX8) (T := TX8) (N := 29) hx hb hts hX8_readNumbers_X8 hown hK hP 0 rfl rfl 16 (by decide) (hts _ kX8_readNumbers_f95) (fun _ h9 => h9) rfl dX8_readNumbers_103 ?_
            refine ro_callV0 (As := [.int (nI ((((((sc 16) + 1) + 1) + 1) + 1) + 1))]) (rest := []) (b := o) ctx hKK hP (c_X8_letterAt l g o a (updN sc 16 ((((((sc 16) + 1) + 1) + 1) + 1) + 1)) (upA ar 17 (upd (upd (upd (upd (ar 17) 0 ((mLt ((ar 14)) ((sc 15)) (sc 16)) - (nI 48))) 0 ((((nI 10) * ((upd (ar 17) 0 ((mLt ((ar 14)) ((sc 15)) (sc 16)) - (nI 48))) 0)) + (mLt ((ar 14)) ((sc 15)) ((sc 16) + 1))) - (nI 48))) 1 ((mLt ((ar 14)) ((sc 15)) ((((sc 16) + 1) + 1) + 1)) - (nI 48))) 1 ((((nI 10) * ((upd (upd (upd (ar 17) 0 ((mLt ((ar 14)) ((sc 15)) (sc 16)) - (nI 48))) 0 ((((nI 10) * ((upd (ar 17) 0 ((mLt ((ar 14)) ((sc 15)) (sc 16)) - (nI 48))) 0)) + (mLt ((ar 14)) ((sc 15)) ((sc 16) + 1))) - (nI 48))) 1 ((mLt ((ar 14)) ((sc 15)) ((((sc 16) + 1) + 1) + 1)) - (nI 48))) 1)) + (mLt ((ar 14)) ((sc 15)) (((((sc 16) + 1) + 1) + 1) + 1))) - (nI 48)))) ((((((sc 16) + 1) + 1) + 1) + 1) + 1) (show (sc 15) ≤ 200 from by omega) (show ((((((sc 16) + 1) + 1) + 1) + 1) + 1) ≤ 1000 from by omega)) gX8_readNumbers_X8_letterAt rfl rfl rfl hdX8_letterAt ⟨Nat.le_of_ble_eq_true rfl, Nat.le_of_ble_eq_true rfl⟩ (ci := 8) (q0 := 0) rfl rfl hl.1 rfl rfl (Nat.le_of_ble_eq_true rfl) dX8_readNumbers_106 (fun r_46 hr_46 => ?_)
            have hr_46 : r_46 = mLt ((ar 14)) ((sc 15)) ((((((sc 16) + 1) + 1) + 1) + 1) + 1) := hr_46
            subst hr_46
            refine lv_iload_n hx hb dX8_readNumbers_109 rfl (lv_at hl 0 rfl) ?_
            refine lv_iload_n hx hb dX8_readNumbers_110 rfl (lv_at hl 2 rfl) ?_
            refine lv_iconst (v := nI 1) hx hb dX8_readNumbers_111 (by decide) ?_
            refine lv_isub hx hb dX8_readNumbers_112 ?_
            refine lv_is (x' := nI 1) (by decide) ?_
            refine lv_icmp_ge (tgt := 121) hx hb dX8_readNumbers_113 (by decide) (fun c_47 => ?_) (fun c_47 => absurd c_47 (by decide))
            refine lv_bipush (v := nI 59) hx hb dX8_readNumbers_121 (by decide) ?_
            refine lv_icmp_eq (tgt := 128) hx hb dX8_readNumbers_123 (by decide) (fun c_48 => ?_) (fun c_48 => ?_)
            · refine lv_aload_n hx hb dX8_readNumbers_128 rfl (lv_at hl 1 rfl) ?_
              refine lv_dup hx hb dX8_readNumbers_129 rfl ?_
              refine va_get (D := g.1) (cl := vwCl) (ci := 8) (v := .int (nI ((((((sc 16) + 1) + 1) + 1) + 1) + 1))) (C := RX8) (T := TX8) (N := 29) hx hb hts hX8_readNumbers_X8 hown hK hP 0 rfl rfl 16 (by decide) (hts _ kX8_readNumbers_f95) (fun _ h9 => h9) rfl dX8_readNumbers_130 ?_
              refine lv_iconst (v := nI 1) hx hb dX8_readNumbers_133 (by decide) ?_
              refine lv_iadd hx hb dX8_readNumbers_134 ?_
              refine lv_is (nI_add ((((((sc 16) + 1) + 1) + 1) + 1) + 1) 1) ?_
              refine va_put (D := g.1) (cl := vwCl) (ci := 8) (v := .int (nI (((((((sc 16) + 1) + 1) + 1) + 1) + 1) + 1))) (ty := .int) (C := RX8) (T := TX8) (N := 29) hx hb hts hX8_readNumbers_X8 tyX8 tyX8_ok nmX8 hown hK hP hD hS 0 rfl rfl 16 (by decide) (hts _ kX8_readNumbers_f95) (fun _ h9 => h9) rfl (by decide +kernel) (rfl) (rfl) (Nat.le_of_ble_eq_true rfl) dX8_readNumbers_135 (fun H locs hP hD hS => ?_)
              obtain ⟨hP, hD⟩ := re2 (mW g o a (updN sc 16 (((((((sc 16) + 1) + 1) + 1) + 1) + 1) + 1)) (upA ar 17 (upd (upd (upd (upd (ar 17) 0 ((mLt ((ar 14)) ((sc 15)) (sc 16)) - (nI 48))) 0 ((((nI 10) * ((upd (ar 17) 0 ((mLt ((ar 14)) ((sc 15)) (sc 16)) - (nI 48))) 0)) + (mLt ((ar 14)) ((sc 15)) ((sc 16) + 1))) - (nI 48))) 1 ((mLt ((ar 14)) ((sc 15)) ((((sc 16) + 1) + 1) + 1)) - (nI 48))) 1 ((((nI 10) * ((upd (upd (upd (ar 17) 0 ((mLt ((ar 14)) ((sc 15)) (sc 16)) - (nI 48))) 0 ((((nI 10) * ((upd (ar 17) 0 ((mLt ((ar 14)) ((sc 15)) (sc 16)) - (nI 48))) 0)) + (mLt ((ar 14)) ((sc 15)) ((sc 16) + 1))) - (nI 48))) 1 ((mLt ((ar 14)) ((sc 15)) ((((sc 16) + 1) + 1) + 1)) - (nI 48))) 1)) + (mLt ((ar 14)) ((sc 15)) (((((sc 16) + 1) + 1) + 1) + 1))) - (nI 48))))) hP hD rfl
              refine lv_iinc (v := nI 2) (lv' := [(2, .int (nI 2)), (0, .ref o), (1, .int (nI 2))]) hx hb dX8_readNumbers_138 hl (k := 0) rfl (by decide) (by decide) rfl (fun ls hl => ?_)
              refine lv_goto (tgt := 2) hx hb dX8_readNumbers_141 (by decide) ?_
              refine lv_iload_n hx hb dX8_readNumbers_2 rfl (lv_at hl 0 rfl) ?_
              refine lv_iload_n hx hb dX8_readNumbers_3 rfl (lv_at hl 2 rfl) ?_
              refine lv_icmp_ge (tgt := 144) hx hb dX8_readNumbers_4 (by decide) (fun c_49 => ?_) (fun c_49 => absurd c_49 (by decide))
              refine lv_iconst (v := nI 1) hx hb dX8_readNumbers_144 (by decide) ?_
              exact hret (nI 1) (true, ((((((sc 16) + 1) + 1) + 1) + 1) + 1) + 1, upd (upd (upd (upd (ar 17) 0 ((mLt ((ar 14)) ((sc 15)) (sc 16)) - (nI 48))) 0 ((((nI 10) * ((upd (ar 17) 0 ((mLt ((ar 14)) ((sc 15)) (sc 16)) - (nI 48))) 0)) + (mLt ((ar 14)) ((sc 15)) ((sc 16) + 1))) - (nI 48))) 1 ((mLt ((ar 14)) ((sc 15)) ((((sc 16) + 1) + 1) + 1)) - (nI 48))) 1 ((((nI 10) * ((upd (upd (upd (ar 17) 0 ((mLt ((ar 14)) ((sc 15)) (sc 16)) - (nI 48))) 0 ((((nI 10) * ((upd (ar 17) 0 ((mLt ((ar 14)) ((sc 15)) (sc 16)) - (nI 48))) 0)) + (mLt ((ar 14)) ((sc 15)) ((sc 16) + 1))) - (nI 48))) 1 ((mLt ((ar 14)) ((sc 15)) ((((sc 16) + 1) + 1) + 1)) - (nI 48))) 1)) + (mLt ((ar 14)) ((sc 15)) (((((sc 16) + 1) + 1) + 1) + 1))) - (nI 48))) H locs 145 ls (⟨rfl, fun _ => by simp (config := { decide := true }) [mN2, mNp, mNv, mFg, c_4, c_8, c_32, c_36, c_40, c_48, pk_us, upd], fun h => tf h, by have hh := hat; (try have b0 := mFg_lt (tx := ar 14) (n := sc 15) c_4); (try have b1 := mFg_lt (tx := ar 14) (n := sc 15) c_8); (try have b2 := mFg_lt (tx := ar 14) (n := sc 15) c_32); (try have b3 := mFg_lt (tx := ar 14) (n := sc 15) c_36); (try have b4 := mFg_lt (tx := ar 14) (n := sc 15) c_40); (try have b5 := mFg_lt (tx := ar 14) (n := sc 15) c_48); (try have d0 := mLt_lt c_4 (by decide)); (try have d1 := mLt_lt c_8 (by decide)); (try have d2 := mLt_lt c_32 (by decide)); (try have d3 := mLt_lt c_36 (by decide)); (try have d4 := mLt_lt c_40 (by decide)); (try have d5 := mLt_lt c_48 (by decide)); show ((((((sc 16) + 1) + 1) + 1) + 1) + 1) + 1 ≤ sc 15; omega⟩) (hP) (hD) hS (rfl) dX8_readNumbers_145
            · refine lv_iconst (v := nI 0) hx hb dX8_readNumbers_126 (by decide) ?_
              exact hret (nI 0) (false, (((((sc 16) + 1) + 1) + 1) + 1) + 1, upd (upd (upd (upd (ar 17) 0 ((mLt ((ar 14)) ((sc 15)) (sc 16)) - (nI 48))) 0 ((((nI 10) * ((upd (ar 17) 0 ((mLt ((ar 14)) ((sc 15)) (sc 16)) - (nI 48))) 0)) + (mLt ((ar 14)) ((sc 15)) ((sc 16) + 1))) - (nI 48))) 1 ((mLt ((ar 14)) ((sc 15)) ((((sc 16) + 1) + 1) + 1)) - (nI 48))) 1 ((((nI 10) * ((upd (upd (upd (ar 17) 0 ((mLt ((ar 14)) ((sc 15)) (sc 16)) - (nI 48))) 0 ((((nI 10) * ((upd (ar 17) 0 ((mLt ((ar 14)) ((sc 15)) (sc 16)) - (nI 48))) 0)) + (mLt ((ar 14)) ((sc 15)) ((sc 16) + 1))) - (nI 48))) 1 ((mLt ((ar 14)) ((sc 15)) ((((sc 16) + 1) + 1) + 1)) - (nI 48))) 1)) + (mLt ((ar 14)) ((sc 15)) (((((sc 16) + 1) + 1) + 1) + 1))) - (nI 48))) H locs 127 ls (⟨rfl, fun h => ft h, fun _ => by simp (config := { decide := true }) [mN2, mNp, mNv, mFg, c_4, c_8, c_32, c_36, c_40, c_48, pk_us, upd], by have hh := hat; (try have b0 := mFg_lt (tx := ar 14) (n := sc 15) c_4); (try have b1 := mFg_lt (tx := ar 14) (n := sc 15) c_8); (try have b2 := mFg_lt (tx := ar 14) (n := sc 15) c_32); (try have b3 := mFg_lt (tx := ar 14) (n := sc 15) c_36); (try have b4 := mFg_lt (tx := ar 14) (n := sc 15) c_40); (try have b5 := mFg_lt (tx := ar 14) (n := sc 15) c_48); (try have d0 := mLt_lt c_4 (by decide)); (try have d1 := mLt_lt c_8 (by decide)); (try have d2 := mLt_lt c_32 (by decide)); (try have d3 := mLt_lt c_36 (by decide)); (try have d4 := mLt_lt c_40 (by decide)); (try have d5 := mLt_lt c_48 (by decide)); show (((((sc 16) + 1) + 1) + 1) + 1) + 1 ≤ sc 15; omega⟩) (hP) (hD) hS (rfl) dX8_readNumbers_127
        · replace c_36 := bI_f c_36
          refine lv_iconst (v := nI 0) hx hb dX8_readNumbers_21 (by decide) ?_
          exact hret (nI 0) (false, (((sc 16) + 1) + 1) + 1, upd (upd (ar 17) 0 ((mLt ((ar 14)) ((sc 15)) (sc 16)) - (nI 48))) 0 ((((nI 10) * ((upd (ar 17) 0 ((mLt ((ar 14)) ((sc 15)) (sc 16)) - (nI 48))) 0)) + (mLt ((ar 14)) ((sc 15)) ((sc 16) + 1))) - (nI 48))) H locs 22 ls (⟨rfl, fun h => ft h, fun _ => by simp (config := { decide := true }) [mN2, mNp, mNv, mFg, c_4, c_8, c_32, c_36, pk_us, upd], by have hh := hat; (try have b0 := mFg_lt (tx := ar 14) (n := sc 15) c_4); (try have b1 := mFg_lt (tx := ar 14) (n := sc 15) c_8); (try have b2 := mFg_lt (tx := ar 14) (n := sc 15) c_32); (try have b3 := mFg_lt (tx := ar 14) (n := sc 15) c_36); (try have d0 := mLt_lt c_4 (by decide)); (try have d1 := mLt_lt c_8 (by decide)); (try have d2 := mLt_lt c_32 (by decide)); (try have d3 := mLt_lt c_36 (by decide)); show (((sc 16) + 1) + 1) + 1 ≤ sc 15; omega⟩) (hP) (hD) hS (rfl) dX8_readNumbers_22
      · refine lv_iconst (v := nI 0) hx hb dX8_readNumbers_126 (by decide) ?_
        exact hret (nI 0) (false, ((sc 16) + 1) + 1, upd (upd (ar 17) 0 ((mLt ((ar 14)) ((sc 15)) (sc 16)) - (nI 48))) 0 ((((nI 10) * ((upd (ar 17) 0 ((mLt ((ar 14)) ((sc 15)) (sc 16)) - (nI 48))) 0)) + (mLt ((ar 14)) ((sc 15)) ((sc 16) + 1))) - (nI 48))) H locs 127 ls (⟨rfl, fun h => ft h, fun _ => by simp (config := { decide := true }) [mN2, mNp, mNv, mFg, c_4, c_8, c_32, pk_us, upd], by have hh := hat; (try have b0 := mFg_lt (tx := ar 14) (n := sc 15) c_4); (try have b1 := mFg_lt (tx := ar 14) (n := sc 15) c_8); (try have b2 := mFg_lt (tx := ar 14) (n := sc 15) c_32); (try have d0 := mLt_lt c_4 (by decide)); (try have d1 := mLt_lt c_8 (by decide)); (try have d2 := mLt_lt c_32 (by decide)); show ((sc 16) + 1) + 1 ≤ sc 15; omega⟩) (hP) (hD) hS (rfl) dX8_readNumbers_127
  · replace c_4 := bI_f c_4
    refine lv_iconst (v := nI 0) hx hb dX8_readNumbers_21 (by decide) ?_
    exact hret (nI 0) (false, sc 16, ar 17) H locs 22 ls (⟨rfl, fun h => ft h, fun _ => by simp (config := { decide := true }) [mN2, mNp, mNv, mFg, c_4, pk_us, upd], by have hh := hat; (try have b0 := mFg_lt (tx := ar 14) (n := sc 15) c_4); (try have d0 := mLt_lt c_4 (by decide)); show sc 16 ≤ sc 15; omega⟩) (hP) (hD) hS (rfl) dX8_readNumbers_22
theorem kX8_isTold_f34 : (Cond.fieldLink RX8 34 "LastCallersWordModel" "told" "[I" : Cond) ∈ wsX8_isTold := List.mem_cons_of_mem _ aw_296
theorem hX8_isTold_X8 : ∀ w ∈ wsX80, w ∈ wsX8_isTold := fun w h => List.mem_cons_of_mem _ (ac_X8 w h)
set_option maxHeartbeats 400000 in
set_option maxRecDepth 100000 in
theorem c_X8_isTold (l : Launch) (g : GG) (o : Nat) (a : Nat → Nat) (sc : Nat → Nat) (ar : Nat → Nat → Int32) (k : Nat) (lo : Int32) (hi : Int32) (hk : k < 2) : Met l yX8_isTold wsX8_isTold ({ frames := 1, cells := 0, slots := 0, locals := 22 } : Room) (ro g [.ref o, .int (nI k), .int lo, .int hi] (mW g o a sc ar)) (vp_Si (fun rr => rr = bI (inB (ar 17 k) lo hi))) 0 0 (fun _ => False) := by
  refine ro_start (cc := cX8_isTold) (maxL := 4) (ty := .boolean) (by decide) rfl (Nat.le_of_ble_eq_true rfl) (fun p e s m args below meth c Q C hP hret ls hl => ?_)
  obtain ⟨hx, hb, hml, hr, hown, hts, hlk, hKK⟩ := id C
  have hK := hKK.1
  have hown : s.vm.findClass RX8 = some m.cls := hown
  have ctx : CallFix p m c cX8_isTold 4 s args wsX8_isTold RX8 := ⟨hx, hb, hml, hown, hts⟩
  have hl : lv_has ls 4 [(0, .ref o), (1, .int (nI k)), (2, .int lo), (3, .int hi)] := hl
  refine lv_aload_n hx hb dX8_isTold_0 rfl (lv_at hl 0 rfl) ?_
  refine va_get (D := g.1) (cl := vwCl) (ci := 8) (v := .ref (a 17)) (C := RX8) (T := TX8) (N := 29) hx hb hts hX8_isTold_X8 hown hK hP 0 rfl rfl 17 (by decide) (hts _ kX8_isTold_f34) (fun _ h9 => h9) rfl dX8_isTold_1 ?_
  refine lv_iload_n hx hb dX8_isTold_4 rfl (lv_at hl 1 rfl) ?_
  refine ald_i (D := g.1) (cl := vwCl) (f := ar 17) (i := k) (n := 2) hx hb hK hP 9 0 rfl rfl (by omega) (by decide) dX8_isTold_5 ?_
  refine lv_iload_n hx hb dX8_isTold_6 rfl (lv_at hl 2 rfl) ?_
  refine lv_iload_n hx hb dX8_isTold_7 rfl (lv_at hl 3 rfl) ?_
  refine ro_callS (As := [.int ((ar 17) k), .int lo, .int hi]) (rest := []) ctx hKK hP (c_X8_in l g ((ar 17) k) lo hi) gX8_isTold_X8_in rfl rfl rfl hdX8_in ⟨Nat.le_of_ble_eq_true rfl, Nat.le_of_ble_eq_true rfl⟩ [] rfl hl.1 rfl rfl (Nat.le_of_ble_eq_true rfl) dX8_isTold_8 (fun r_1 hr_1 => ?_)
  subst hr_1
  exact hret (bI (inB ((ar 17) k) lo hi)) 11 ls (rfl) (bI_nar _) dX8_isTold_11
