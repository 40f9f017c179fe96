
def hasB (x k : Int32) : Bool := decide ((x >>> (k &&& 31)) &&& nI 1 = nI 1)
def bitI (k : Int32) : Int32 := nI 1 <<< (k &&& 31)
def allB (P : Nat) : Int32 := (nI 1 <<< (nI P &&& 31)) - nI 1
def dO (lk : Nat → Int32) (i : Nat) (th : Int32) : Nat → Int32 × Int32
  | 0 => (nI 0, nI 0)
  | j + 1 => if hasB th (nI j) = true ∧ ¬ lk (i * 8 + j) ≤ (dO lk i th j).2 then (nI 1 <<< (nI j &&& 31), lk (i * 8 + j)) else dO lk i th j
theorem hdX7_has : yX7_has.cls ≠ "java/lang/invoke/MethodHandle" ∧ yX7_has.cls ≠ "java/lang/invoke/VarHandle" ∧ (parseMethodDescriptor yX7_has.desc).map (fun d => d.parameters.length) = some 2 := by decide +kernel
theorem hdX7_pair : yX7_pair.cls ≠ "java/lang/invoke/MethodHandle" ∧ yX7_pair.cls ≠ "java/lang/invoke/VarHandle" ∧ (parseMethodDescriptor yX7_pair.desc).map (fun d => d.parameters.length) = some 2 := by decide +kernel
set_option maxHeartbeats 4000000 in
set_option maxRecDepth 100000 in
theorem c_X7_has (l : Launch) (g : GG) (x : Int32) (k : Int32) : Met l yX7_has wsX7_has ({ frames := 0, cells := 0, slots := 0, locals := 0 } : Room) (ro g [.int x, .int k] []) (vp_Si (fun rr => rr = bI (hasB x k))) 0 0 (fun _ => False) := by
  refine ro_start (cc := cX7_has) (maxL := 2) (ty := .boolean) (by decide) rfl (Nat.le_of_ble_eq_true rfl) (fun p e s m args below meth c Q C hP hret ls hl => ?_)
  obtain ⟨hx, hb, hml, hr, hown, hts, hlk, hKK⟩ := id C
  have hK := hKK.1
  have hown : s.vm.findClass RX7 = some m.cls := hown
  have ctx : CallFix p m c cX7_has 2 s args wsX7_has RX7 := ⟨hx, hb, hml, hown, hts⟩
  have hl : lv_has ls 2 [(0, .int x), (1, .int k)] := hl
  refine lv_iload_n hx hb dX7_has_0 rfl (lv_at hl 0 rfl) ?_
  refine lv_iload_n hx hb dX7_has_1 rfl (lv_at hl 1 rfl) ?_
  refine lv_ishr hx hb dX7_has_2 ?_
  refine lv_iconst (v := nI 1) hx hb dX7_has_3 (by decide) ?_
  refine lv_iand hx hb dX7_has_4 ?_
  refine lv_iconst (v := nI 1) hx hb dX7_has_5 (by decide) ?_
  refine lv_icmp_ne (tgt := 13) hx hb dX7_has_6 (by decide) (fun c_1 => ?_) (fun c_1 => ?_)
  · refine lv_iconst (v := nI 0) hx hb dX7_has_13 (by decide) ?_
    exact hret (nI 0) 14 ls (by simp [hasB, bI, c_1]) (rfl) dX7_has_14
  · refine lv_iconst (v := nI 1) hx hb dX7_has_9 (by decide) ?_
    refine lv_goto (tgt := 14) hx hb dX7_has_10 (by decide) ?_
    exact hret (nI 1) 14 ls (by simp [hasB, bI, c_1]) (rfl) dX7_has_14
set_option maxHeartbeats 4000000 in
set_option maxRecDepth 100000 in
theorem c_X7_pair (l : Launch) (g : GG) (r : Nat) (k : Nat) : Met l yX7_pair wsX7_pair ({ frames := 0, cells := 0, slots := 0, locals := 0 } : Room) (ro g [.int (nI r), .int (nI k)] []) (vp_Si (fun rr => rr = nI (r * 8 + k))) 0 0 (fun _ => False) := by
  refine ro_start (cc := cX7_pair) (maxL := 2) (ty := .int) (by decide) rfl (Nat.le_of_ble_eq_true rfl) (fun p e s m args below meth c Q C hP hret ls hl => ?_)
  obtain ⟨hx, hb, hml, hr, hown, hts, hlk, hKK⟩ := id C
  have hK := hKK.1
  have hown : s.vm.findClass RX7 = some m.cls := hown
  have ctx : CallFix p m c cX7_pair 2 s args wsX7_pair RX7 := ⟨hx, hb, hml, hown, hts⟩
  have hl : lv_has ls 2 [(0, .int (nI r)), (1, .int (nI k))] := hl
  refine lv_iload_n hx hb dX7_pair_0 rfl (lv_at hl 0 rfl) ?_
  refine lv_bipush (v := nI 8) hx hb dX7_pair_1 (by decide) ?_
  refine lv_imul hx hb dX7_pair_3 ?_
  refine lv_is (pk_mul r 8) ?_
  refine lv_iload_n hx hb dX7_pair_4 rfl (lv_at hl 1 rfl) ?_
  refine lv_iadd hx hb dX7_pair_5 ?_
  refine lv_is (nI_add (r * 8) k) ?_
  exact hret (nI ((r * 8) + k)) 6 ls (rfl) (rfl) dX7_pair_6
theorem kX6_everyone_f9 : (Cond.fieldLink RX6 9 "LastCallersWord$Talk" "plan" "LLastCallersWord$Plan;" : Cond) ∈ wsX6_everyone := List.mem_cons_of_mem _ (List.mem_append_left _ (List.mem_append_left _ (List.mem_of_getElem? (i := 0) rfl)))
theorem hX6_everyone_X6 : ∀ w ∈ wsX60, w ∈ wsX6_everyone := fun w h => List.mem_cons_of_mem _ (List.mem_append_left _ (List.mem_append_right _ (h)))
theorem kX6_everyone_f19 : (Cond.fieldLink RX6 19 "LastCallersWord$Plan" "persons" "I" : Cond) ∈ wsX6_everyone := List.mem_cons_of_mem _ (List.mem_append_left _ (List.mem_append_left _ (List.mem_of_getElem? (i := 1) rfl)))
theorem hX6_everyone_X1 : ∀ w ∈ wsX10, w ∈ wsX6_everyone := fun w h => List.mem_cons_of_mem _ (List.mem_append_right _ (h))
set_option maxHeartbeats 4000000 in
set_option maxRecDepth 100000 in
theorem c_X6_everyone (l : Launch) (g : GG) (t : Nat) (p_ : Nat) (pk : Nat) (pl : Nat) (ph : Nat) (pc_ : Nat) (pp : Nat) (st : Nat) (sl : Nat) (sc : Nat) (sk : Nat) (sw : Nat) (P : Nat) (pt : Nat) (pd : Nat) (pw : Nat) (pb : Nat) (sd : Nat) (kd : Nat → Int32) (lk : Nat → Int32) (hP8 : P ≤ 8) : Met l yX6_everyone wsX6_everyone ({ frames := 0, cells := 0, slots := 0, locals := 0 } : Room) (ro g [.ref t] [(t, .inr (6, [.ref p_, .ref st])), (p_, .inr (1, [.ref pk, .ref pl, .ref ph, .ref pc_, .ref pp, .int (nI P), .int (nI pt), .int (nI pd), .int (nI pw), .int (nI pb)])), (pk, .inl (g.2.1, 8, .inl kd)), (st, .inr (5, [.ref sl, .ref sc, .ref sk, .ref sw, .int (nI sd)])), (sl, .inl (g.2.1, 64, .inl lk))]) (vp_Si (fun rr => rr = allB P)) 0 0 (fun _ => False) := by
  refine ro_start (cc := cX6_everyone) (maxL := 1) (ty := .int) (by decide) rfl (Nat.le_of_ble_eq_true rfl) (fun p e s m args below meth c Q C hP hret ls hl => ?_)
  obtain ⟨hx, hb, hml, hr, hown, hts, hlk, hKK⟩ := id C
  have hK := hKK.1
  have hown : s.vm.findClass RX6 = some m.cls := hown
  have ctx : CallFix p m c cX6_everyone 1 s args wsX6_everyone RX6 := ⟨hx, hb, hml, hown, hts⟩
  have hl : lv_has ls 1 [(0, .ref t)] := hl
  refine lv_iconst (v := nI 1) hx hb dX6_everyone_0 (by decide) ?_
  refine lv_aload_n hx hb dX6_everyone_1 rfl (lv_at hl 0 rfl) ?_
  refine va_get (D := g.1) (cl := vwCl) (ci := 6) (v := .ref p_) (C := RX6) (T := TX6) (N := 2) hx hb hts hX6_everyone_X6 hown hK hP 0 rfl rfl 0 (by decide) (hts _ kX6_everyone_f9) (fun _ h9 => h9) rfl dX6_everyone_2 ?_
  refine va_get (D := g.1) (cl := vwCl) (ci := 1) (v := .int (nI P)) (C := RX1) (T := TX1) (N := 10) hx hb hts hX6_everyone_X1 hown hK hP 1 rfl rfl 5 (by decide) (hts _ kX6_everyone_f19) (fun _ h9 => h9) rfl dX6_everyone_5 ?_
  refine lv_ishl hx hb dX6_everyone_8 ?_
  refine lv_iconst (v := nI 1) hx hb dX6_everyone_9 (by decide) ?_
  refine lv_isub hx hb dX6_everyone_10 ?_
  exact hret (((nI 1) <<< ((nI P) &&& 31)) - (nI 1)) 11 ls (rfl) (rfl) dX6_everyone_11
theorem kX6_dearestOf_f9 : (Cond.fieldLink RX6 9 "LastCallersWord$Talk" "plan" "LLastCallersWord$Plan;" : Cond) ∈ wsX6_dearestOf := List.mem_cons_of_mem _ (List.mem_append_left _ (List.mem_append_left _ (List.mem_append_left _ (List.mem_of_getElem? (i := 0) rfl))))
theorem hX6_dearestOf_X6 : ∀ w ∈ wsX60, w ∈ wsX6_dearestOf := fun w h => List.mem_cons_of_mem _ (List.mem_append_left _ (List.mem_append_left _ (List.mem_append_right _ (h))))
theorem kX6_dearestOf_f19 : (Cond.fieldLink RX6 19 "LastCallersWord$Plan" "persons" "I" : Cond) ∈ wsX6_dearestOf := List.mem_cons_of_mem _ (List.mem_append_left _ (List.mem_append_left _ (List.mem_append_left _ (List.mem_of_getElem? (i := 1) rfl))))
theorem hX6_dearestOf_X1 : ∀ w ∈ wsX10, w ∈ wsX6_dearestOf := fun w h => List.mem_cons_of_mem _ (List.mem_append_left _ (List.mem_append_right _ (h)))
theorem kX6_dearestOf_f15 : (Cond.fieldLink RX6 15 "LastCallersWord$Talk" "state" "LLastCallersWord$State;" : Cond) ∈ wsX6_dearestOf := List.mem_cons_of_mem _ (List.mem_append_left _ (List.mem_append_left _ (List.mem_append_left _ (List.mem_of_getElem? (i := 2) rfl))))
theorem kX6_dearestOf_f47 : (Cond.fieldLink RX6 47 "LastCallersWord$State" "likings" "[I" : Cond) ∈ wsX6_dearestOf := List.mem_cons_of_mem _ (List.mem_append_left _ (List.mem_append_left _ (List.mem_append_left _ (List.mem_of_getElem? (i := 3) rfl))))
theorem hX6_dearestOf_X5 : ∀ w ∈ wsX50, w ∈ wsX6_dearestOf := fun w h => List.mem_cons_of_mem _ (List.mem_append_right _ (h))
theorem kX6_dearestOf_ini : (Cond.initialized RX7 : Cond) ∈ wsX6_dearestOf := List.mem_cons_of_mem _ (List.mem_append_left _ (List.mem_append_left _ (List.mem_append_left _ (List.mem_of_getElem? (i := 5) rfl))))
theorem kX6_dearestOf_stX7_pair : (Cond.static yX7_pair : Cond) ∈ wsX6_dearestOf := List.mem_cons_of_mem _ (List.mem_append_left _ (List.mem_append_left _ (List.mem_append_left _ (List.mem_of_getElem? (i := 4) rfl))))
theorem kX6_dearestOf_stX7_has : (Cond.static yX7_has : Cond) ∈ wsX6_dearestOf := List.mem_cons_of_mem _ (List.mem_append_left _ (List.mem_append_left _ (List.mem_append_left _ (List.mem_of_getElem? (i := 7) rfl))))
set_option maxHeartbeats 4000000 in
set_option maxRecDepth 100000 in
theorem c_X6_dearestOf (l : Launch) (g : GG) (t : Nat) (p_ : Nat) (pk : Nat) (pl : Nat) (ph : Nat) (pc_ : Nat) (pp : Nat) (st : Nat) (sl : Nat) (sc : Nat) (sk : Nat) (sw : Nat) (P : Nat) (pt : Nat) (pd : Nat) (pw : Nat) (pb : Nat) (sd : Nat) (kd : Nat → Int32) (lk : Nat → Int32) (i : Nat) (th : Int32) (hP8 : P ≤ 8) (hi : i < 8) : Met l yX6_dearestOf wsX6_dearestOf ({ frames := 1, cells := 0, slots := 0, locals := 21 } : Room) (ro g [.ref t, .int (nI i), .int th] [(t, .inr (6, [.ref p_, .ref st])), (p_, .inr (1, [.ref pk, .ref pl, .ref ph, .ref pc_, .ref pp, .int (nI P), .int (nI pt), .int (nI pd), .int (nI pw), .int (nI pb)])), (pk, .inl (g.2.1, 8, .inl kd)), (st, .inr (5, [.ref sl, .ref sc, .ref sk, .ref sw, .int (nI sd)])), (sl, .inl (g.2.1, 64, .inl lk))]) (vp_Si (fun rr => rr = (dO lk i th P).1)) 0 0 (fun _ => False) := by
  refine ro_start (cc := cX6_dearestOf) (maxL := 7) (ty := .int) (by decide) rfl (Nat.le_of_ble_eq_true rfl) (fun p e s m args below meth c Q C hP hret ls hl => ?_)
  obtain ⟨hx, hb, hml, hr, hown, hts, hlk, hKK⟩ := id C
  have hK := hKK.1
  have hown : s.vm.findClass RX6 = some m.cls := hown
  have ctx : CallFix p m c cX6_dearestOf 7 s args wsX6_dearestOf RX6 := ⟨hx, hb, hml, hown, hts⟩
  have hl : lv_has ls 7 [(0, .ref t), (1, .int (nI i)), (2, .int th)] := hl
  refine lv_iconst (v := nI 0) hx hb dX6_dearestOf_0 (by decide) ?_
  refine lv_istore_n (lv' := [(3, .int (nI 0)), (0, .ref t), (1, .int (nI i)), (2, .int th)]) hx hb dX6_dearestOf_1 rfl hl (by decide) rfl (fun ls hl => ?_)
  refine lv_iconst (v := nI 0) hx hb dX6_dearestOf_2 (by decide) ?_
  refine lv_istore (lv' := [(4, .int (nI 0)), (3, .int (nI 0)), (0, .ref t), (1, .int (nI i)), (2, .int th)]) hx hb dX6_dearestOf_3 hl (by decide) rfl (fun ls hl => ?_)
  refine lv_iconst (v := nI 0) hx hb dX6_dearestOf_5 (by decide) ?_
  refine lv_istore (lv' := [(5, .int (nI 0)), (4, .int (nI 0)), (3, .int (nI 0)), (0, .ref t), (1, .int (nI i)), (2, .int th)]) hx hb dX6_dearestOf_6 hl (by decide) rfl (fun ls hl => ?_)
  have LP8 : ∀ (d : Nat) (j : Nat) (x3 : Int32) (x4 : Int32), P - j < d → j ≤ P → x3 = (dO lk i th j).1 → x4 = (dO lk i th j).2 → ∀ (ls : Array Slot), lv_has ls 7 [(5, .int (nI j)), (4, .int x4), (3, .int x3), (0, .ref t), (1, .int (nI i)), (2, .int th)] → W p l e ({ frames := 1, cells := 0, slots := 0, locals := 21 } : Room) s m args below meth c s.heap [] 0 0 Q (F0 m 8 ls []) := by
    intro d
    induction d with
    | zero => intro j x3 x4 hd; exact absurd hd (Nat.not_lt_zero _)
    | succ d ih8 =>
      intro j x3 x4 hd hj e3 e4 ls hl
      refine lv_iload hx hb dX6_dearestOf_8 (lv_at hl 0 rfl) ?_
      refine lv_aload_n hx hb dX6_dearestOf_10 rfl (lv_at hl 3 rfl) ?_
      refine va_get (D := g.1) (cl := vwCl) (ci := 6) (v := .ref p_) (C := RX6) (T := TX6) (N := 2) hx hb hts hX6_dearestOf_X6 hown hK hP 0 rfl rfl 0 (by decide) (hts _ kX6_dearestOf_f9) (fun _ h9 => h9) rfl dX6_dearestOf_11 ?_
      refine va_get (D := g.1) (cl := vwCl) (ci := 1) (v := .int (nI P)) (C := RX1) (T := TX1) (N := 10) hx hb hts hX6_dearestOf_X1 hown hK hP 1 rfl rfl 5 (by decide) (hts _ kX6_dearestOf_f19) (fun _ h9 => h9) rfl dX6_dearestOf_14 ?_
      refine lv_icmp_ge (tgt := 67) hx hb dX6_dearestOf_17 (by decide) (fun c_1 => ?_) (fun c_1 => ?_)
      · replace c_1 : P ≤ j := (nI_leI (by omega) (by omega)).mp c_1
        refine lv_iload_n hx hb dX6_dearestOf_67 rfl (lv_at hl 2 rfl) ?_
        exact hret x3 68 ls (by rw [e3, show j = P by omega]) (rfl) dX6_dearestOf_68
      · replace c_1 : ¬ P ≤ j := fun h => c_1 ((nI_leI (by omega) (by omega)).mpr h)
        refine lv_aload_n hx hb dX6_dearestOf_20 rfl (lv_at hl 3 rfl) ?_
        refine va_get (D := g.1) (cl := vwCl) (ci := 6) (v := .ref st) (C := RX6) (T := TX6) (N := 2) hx hb hts hX6_dearestOf_X6 hown hK hP 0 rfl rfl 1 (by decide) (hts _ kX6_dearestOf_f15) (fun _ h9 => h9) rfl dX6_dearestOf_21 ?_
        refine va_get (D := g.1) (cl := vwCl) (ci := 5) (v := .ref sl) (C := RX5) (T := TX5) (N := 5) hx hb hts hX6_dearestOf_X5 hown hK hP 3 rfl rfl 0 (by decide) (hts _ kX6_dearestOf_f47) (fun _ h9 => h9) rfl dX6_dearestOf_24 ?_
        refine lv_iload_n hx hb dX6_dearestOf_27 rfl (lv_at hl 4 rfl) ?_
        refine lv_iload hx hb dX6_dearestOf_28 (lv_at hl 0 rfl) ?_
        refine ro_callSN (As := [.int (nI i), .int (nI j)]) (rest := [.ref sl]) ctx hKK hP (c_X7_pair l g i j) gX6_dearestOf_X7_pair_n52 (hKK.2.1) (hts _ kX6_dearestOf_ini) (hts _ kX6_dearestOf_stX7_pair) rfl rfl rfl hdX7_pair ⟨Nat.le_of_ble_eq_true rfl, Nat.le_of_ble_eq_true rfl⟩ [] rfl hl.1 rfl rfl (Nat.le_of_ble_eq_true rfl) dX6_dearestOf_30 (fun r_2 hr_2 => ?_)
        subst hr_2
        refine ald_i (D := g.1) (cl := vwCl) (f := lk) (i := i * 8 + j) (n := 64) hx hb hK hP 4 0 rfl rfl (by omega) (by decide) dX6_dearestOf_33 ?_
        refine lv_istore (lv' := [(6, .int (lk (i * 8 + j))), (5, .int (nI j)), (4, .int x4), (3, .int x3), (0, .ref t), (1, .int (nI i)), (2, .int th)]) hx hb dX6_dearestOf_34 hl (by decide) rfl (fun ls hl => ?_)
        refine lv_iload_n hx hb dX6_dearestOf_36 rfl (lv_at hl 6 rfl) ?_
        refine lv_iload hx hb dX6_dearestOf_37 (lv_at hl 1 rfl) ?_
        refine ro_callSN (As := [.int th, .int (nI j)]) (rest := []) ctx hKK hP (c_X7_has l g th (nI j)) gX6_dearestOf_X7_has_n55 (hKK.2.2.1) (hts _ kX6_dearestOf_ini) (hts _ kX6_dearestOf_stX7_has) rfl rfl rfl hdX7_has ⟨Nat.le_of_ble_eq_true rfl, Nat.le_of_ble_eq_true rfl⟩ [] rfl hl.1 rfl rfl (Nat.le_of_ble_eq_true rfl) dX6_dearestOf_39 (fun r_3 hr_3 => ?_)
        subst hr_3
        refine lv_if_eq (tgt := 61) hx hb dX6_dearestOf_42 (by decide) (fun c_4 => ?_) (fun c_4 => ?_)
        · replace c_4 := bI_f c_4
          refine lv_iinc (v := nI (j + 1)) (lv' := [(5, .int (nI (j + 1))), (6, .int (lk (i * 8 + j))), (4, .int x4), (3, .int x3), (0, .ref t), (1, .int (nI i)), (2, .int th)]) hx hb dX6_dearestOf_61 hl (k := 1) rfl (iincK j 1) (by decide) rfl (fun ls hl => ?_)
          refine lv_goto (tgt := 8) hx hb dX6_dearestOf_64 (by decide) ?_
          exact ih8 (j + 1) x3 x4 (by omega) (by omega) (by simp [dO, ← e3, ← e4, c_1, c_4]) (by simp [dO, ← e3, ← e4, c_1, c_4]) ls (lv_sub hl [0, 2, 3, 4, 5, 6] rfl)
        · replace c_4 := bI_t c_4
          refine lv_iload hx hb dX6_dearestOf_45 (lv_at hl 0 rfl) ?_
          refine lv_iload hx hb dX6_dearestOf_47 (lv_at hl 2 rfl) ?_
          refine lv_icmp_le (tgt := 61) hx hb dX6_dearestOf_49 (by decide) (fun c_5 => ?_) (fun c_5 => ?_)
          · refine lv_iinc (v := nI (j + 1)) (lv' := [(5, .int (nI (j + 1))), (6, .int (lk (i * 8 + j))), (4, .int x4), (3, .int x3), (0, .ref t), (1, .int (nI i)), (2, .int th)]) hx hb dX6_dearestOf_61 hl (k := 1) rfl (iincK j 1) (by decide) rfl (fun ls hl => ?_)
            refine lv_goto (tgt := 8) hx hb dX6_dearestOf_64 (by decide) ?_
            exact ih8 (j + 1) x3 x4 (by omega) (by omega) (by simp [dO, ← e3, ← e4, c_1, c_4, c_5]) (by simp [dO, ← e3, ← e4, c_1, c_4, c_5]) ls (lv_sub hl [0, 2, 3, 4, 5, 6] rfl)
          · refine lv_iconst (v := nI 1) hx hb dX6_dearestOf_52 (by decide) ?_
            refine lv_iload hx hb dX6_dearestOf_53 (lv_at hl 1 rfl) ?_
            refine lv_ishl hx hb dX6_dearestOf_55 ?_
            refine lv_istore_n (lv' := [(3, .int ((nI 1) <<< ((nI j) &&& 31))), (6, .int (lk (i * 8 + j))), (5, .int (nI j)), (4, .int x4), (0, .ref t), (1, .int (nI i)), (2, .int th)]) hx hb dX6_dearestOf_56 rfl hl (by decide) rfl (fun ls hl => ?_)
            refine lv_iload hx hb dX6_dearestOf_57 (lv_at hl 1 rfl) ?_
            refine lv_istore (lv' := [(4, .int (lk (i * 8 + j))), (3, .int ((nI 1) <<< ((nI j) &&& 31))), (6, .int (lk (i * 8 + j))), (5, .int (nI j)), (0, .ref t), (1, .int (nI i)), (2, .int th)]) hx hb dX6_dearestOf_59 hl (by decide) rfl (fun ls hl => ?_)
            refine lv_iinc (v := nI (j + 1)) (lv' := [(5, .int (nI (j + 1))), (4, .int (lk (i * 8 + j))), (3, .int ((nI 1) <<< ((nI j) &&& 31))), (6, .int (lk (i * 8 + j))), (0, .ref t), (1, .int (nI i)), (2, .int th)]) hx hb dX6_dearestOf_61 hl (k := 3) rfl (iincK j 1) (by decide) rfl (fun ls hl => ?_)
            refine lv_goto (tgt := 8) hx hb dX6_dearestOf_64 (by decide) ?_
            exact ih8 (j + 1) ((nI 1) <<< ((nI j) &&& 31)) (lk (i * 8 + j)) (by omega) (by omega) (by simp [dO, ← e3, ← e4, c_1, c_4, c_5]) (by simp [dO, ← e3, ← e4, c_1, c_4, c_5]) ls (lv_sub hl [0, 1, 2, 4, 5, 6] rfl)
  exact LP8 (P + 1) 0 (nI 0) (nI 0) (by omega) (by omega) (rfl) (rfl) ls (lv_sub hl [0, 1, 2, 3, 4, 5] rfl)
