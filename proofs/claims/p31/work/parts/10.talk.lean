
def hasB (x k : Int32) : Bool := decide ((x >>> (k &&& 31)) &&& nI 1 = nI 1)
def allB (P : Nat) : Int32 := (nI 1 <<< (nI P &&& 31)) - nI 1
def dO (lk : Nat → Int32) (i : Nat) (th : Int32) : Nat → Int32 × Int32
  | 0 => (nI 0, nI 0)
  | j + 1 => if hasB th (nI j) = true ∧ ¬ lk (i * 8 + j) ≤ (dO lk i th j).2 then (nI 1 <<< (nI j &&& 31), lk (i * 8 + j)) else dO lk i th j
def dOs (lk : Nat → Int32) (P i : Nat) : Nat → Int32
  | 0 => nI 0
  | t + 1 => dOs lk P i t ||| (dO lk i ((allB P &&& ((nI 1 <<< (nI i &&& 31)) ^^^ (-1))) &&& (dOs lk P i t ^^^ (-1))) P).1
def lkd (lk : Nat → Int32) (i : Nat) (least : Int32) : Nat → Int32
  | 0 => nI 0
  | j + 1 => if ¬ j = i ∧ ¬ lk (i * 8 + j) < least then lkd lk i least j ||| (nI 1 <<< (nI j &&& 31)) else lkd lk i least j
def lstN (kd lk : Nat → Int32) (P i : Nat) : Int32 := if kd i = nI 0 then dOs lk P i 2 else if kd i = nI 1 then dOs lk P i 3 else if kd i = nI 3 then lkd lk i (nI 8) P else nI 0
def lst (kd lk : Nat → Int32) (P : Nat) (cv : Int32) : Int32 := if cv < 0 then nI 0 else if cv < nI P then lstN kd lk P cv.toNatClampNeg else nI 0
def kbc (kd lk : Nat → Int32) (P : Nat) (cv : Int32) : Int32 := (nI 1 <<< (cv &&& 31)) ||| lst kd lk P cv
def aD (kd lk : Nat → Int32) (P : Nat) (kn : Int32) : Nat → Int32
  | 0 => nI 0
  | i + 1 => if hasB kn (nI i) = true ∧ kd i = nI 1 then aD kd lk P kn i ||| (dO lk i (allB P &&& (kn ^^^ (-1))) P).1 else aD kd lk P kn i
def aDay (kd lk : Nat → Int32) (P : Nat) (kn : Int32) : Int32 := kn ||| aD kd lk P kn P
def aDs (kd lk : Nat → Int32) (P : Nat) (kn : Int32) : Nat → Int32
  | 0 => kn
  | n + 1 => aDay kd lk P (aDs kd lk P kn n)
set_option maxHeartbeats 4000000 in
set_option maxRecDepth 100000 in
theorem c_X7_has (l : Launch) (g : GG) (x : Int32) (k : Int32) : Met l yX7_has wsX7_has ({ frames := 0, cells := 0, slots := 0, locals := 0 } : Room) (ro g [.int x, .int k] []) (vp_Si (fun rr => rr = bI (hasB x k))) 0 0 (fun _ => False) := by
  refine ro_start (cc := cX7_has) (maxL := 2) (ty := .boolean) (by decide) rfl (Nat.le_of_ble_eq_true rfl) (fun p e s m args below meth c Q C hP hret ls hl => ?_)
  obtain ⟨hx, hb, hml, hr, hown, hts, hlk, hKK⟩ := id C
  have hK := hKK.1
  have hown : s.vm.findClass RX7 = some m.cls := hown
  have ctx : CallFix p m c cX7_has 2 s args wsX7_has RX7 := ⟨hx, hb, hml, hown, hts⟩
  have hl : lv_has ls 2 [(0, .int x), (1, .int k)] := hl
  refine lv_iload_n hx hb dX7_has_0 rfl (lv_at hl 0 rfl) ?_
  refine lv_iload_n hx hb dX7_has_1 rfl (lv_at hl 1 rfl) ?_
  refine lv_ishr hx hb dX7_has_2 ?_
  refine lv_iconst (v := nI 1) hx hb dX7_has_3 (by decide) ?_
  refine lv_iand hx hb dX7_has_4 ?_
  refine lv_iconst (v := nI 1) hx hb dX7_has_5 (by decide) ?_
  refine lv_icmp_ne (tgt := 13) hx hb dX7_has_6 (by decide) (fun c_1 => ?_) (fun c_1 => ?_)
  · refine lv_iconst (v := nI 0) hx hb dX7_has_13 (by decide) ?_
    exact hret (nI 0) 14 ls (by simp [hasB, bI, c_1]) (rfl) dX7_has_14
  · refine lv_iconst (v := nI 1) hx hb dX7_has_9 (by decide) ?_
    refine lv_goto (tgt := 14) hx hb dX7_has_10 (by decide) ?_
    exact hret (nI 1) 14 ls (by simp [hasB, bI, c_1]) (rfl) dX7_has_14
set_option maxHeartbeats 4000000 in
set_option maxRecDepth 100000 in
theorem c_X7_pair (l : Launch) (g : GG) (r : Nat) (k : Nat) : Met l yX7_pair wsX7_pair ({ frames := 0, cells := 0, slots := 0, locals := 0 } : Room) (ro g [.int (nI r), .int (nI k)] []) (vp_Si (fun rr => rr = nI (r * 8 + k))) 0 0 (fun _ => False) := by
  refine ro_start (cc := cX7_pair) (maxL := 2) (ty := .int) (by decide) rfl (Nat.le_of_ble_eq_true rfl) (fun p e s m args below meth c Q C hP hret ls hl => ?_)
  obtain ⟨hx, hb, hml, hr, hown, hts, hlk, hKK⟩ := id C
  have hK := hKK.1
  have hown : s.vm.findClass RX7 = some m.cls := hown
  have ctx : CallFix p m c cX7_pair 2 s args wsX7_pair RX7 := ⟨hx, hb, hml, hown, hts⟩
  have hl : lv_has ls 2 [(0, .int (nI r)), (1, .int (nI k))] := hl
  refine lv_iload_n hx hb dX7_pair_0 rfl (lv_at hl 0 rfl) ?_
  refine lv_bipush (v := nI 8) hx hb dX7_pair_1 (by decide) ?_
  refine lv_imul hx hb dX7_pair_3 ?_
  refine lv_is (pk_mul r 8) ?_
  refine lv_iload_n hx hb dX7_pair_4 rfl (lv_at hl 1 rfl) ?_
  refine lv_iadd hx hb dX7_pair_5 ?_
  refine lv_is (nI_add (r * 8) k) ?_
  exact hret (nI ((r * 8) + k)) 6 ls (rfl) (rfl) dX7_pair_6
theorem kX6_everyone_f9 : (Cond.fieldLink RX6 9 "LastCallersWord$Talk" "plan" "LLastCallersWord$Plan;" : Cond) ∈ wsX6_everyone := List.mem_cons_of_mem _ aw_80
theorem hX6_everyone_X6 : ∀ w ∈ wsX60, w ∈ wsX6_everyone := fun w h => List.mem_cons_of_mem _ (ac_X6 w h)
theorem kX6_everyone_f19 : (Cond.fieldLink RX6 19 "LastCallersWord$Plan" "persons" "I" : Cond) ∈ wsX6_everyone := List.mem_cons_of_mem _ aw_252
theorem hX6_everyone_X1 : ∀ w ∈ wsX10, w ∈ wsX6_everyone := fun w h => List.mem_cons_of_mem _ (ac_X1 w h)
set_option maxHeartbeats 4000000 in
set_option maxRecDepth 100000 in
theorem c_X6_everyone (l : Launch) (g : GG) (t : Nat) (p_ : Nat) (pk : Nat) (pl : Nat) (ph : Nat) (pc_ : Nat) (pp : Nat) (st : Nat) (sl : Nat) (sc : Nat) (sk : Nat) (sw : Nat) (P : Nat) (pt : Nat) (pd : Nat) (pw : Nat) (pb : Nat) (sd : Nat) (kd : Nat → Int32) (lk : Nat → Int32) (hP8 : P ≤ 8) : Met l yX6_everyone wsX6_everyone ({ frames := 0, cells := 0, slots := 0, locals := 0 } : Room) (ro g [.ref t] [(t, .inr (6, [.ref p_, .ref st])), (p_, .inr (1, [.ref pk, .ref pl, .ref ph, .ref pc_, .ref pp, .int (nI P), .int (nI pt), .int (nI pd), .int (nI pw), .int (nI pb)])), (pk, .inl (g.2.1, 8, .inl kd)), (st, .inr (5, [.ref sl, .ref sc, .ref sk, .ref sw, .int (nI sd)])), (sl, .inl (g.2.1, 64, .inl lk))]) (vp_Si (fun rr => rr = allB P)) 0 0 (fun _ => False) := by
  refine ro_start (cc := cX6_everyone) (maxL := 1) (ty := .int) (by decide) rfl (Nat.le_of_ble_eq_true rfl) (fun p e s m args below meth c Q C hP hret ls hl => ?_)
  obtain ⟨hx, hb, hml, hr, hown, hts, hlk, hKK⟩ := id C
  have hK := hKK.1
  have hown : s.vm.findClass RX6 = some m.cls := hown
  have ctx : CallFix p m c cX6_everyone 1 s args wsX6_everyone RX6 := ⟨hx, hb, hml, hown, hts⟩
  have hl : lv_has ls 1 [(0, .ref t)] := hl
  refine lv_iconst (v := nI 1) hx hb dX6_everyone_0 (by decide) ?_
  refine lv_aload_n hx hb dX6_everyone_1 rfl (lv_at hl 0 rfl) ?_
  refine va_get (D := g.1) (cl := vwCl) (ci := 6) (v := .ref p_) (C := RX6) (T := TX6) (N := 2) hx hb hts hX6_everyone_X6 hown hK hP 0 rfl rfl 0 (by decide) (hts _ kX6_everyone_f9) (fun _ h9 => h9) rfl dX6_everyone_2 ?_
  refine va_get (D := g.1) (cl := vwCl) (ci := 1) (v := .int (nI P)) (C := RX1) (T := TX1) (N := 10) hx hb hts hX6_everyone_X1 hown hK hP 1 rfl rfl 5 (by decide) (hts _ kX6_everyone_f19) (fun _ h9 => h9) rfl dX6_everyone_5 ?_
  refine lv_ishl hx hb dX6_everyone_8 ?_
  refine lv_iconst (v := nI 1) hx hb dX6_everyone_9 (by decide) ?_
  refine lv_isub hx hb dX6_everyone_10 ?_
  exact hret (((nI 1) <<< ((nI P) &&& 31)) - (nI 1)) 11 ls (rfl) (rfl) dX6_everyone_11
theorem kX6_dearestOf_f9 : (Cond.fieldLink RX6 9 "LastCallersWord$Talk" "plan" "LLastCallersWord$Plan;" : Cond) ∈ wsX6_dearestOf := List.mem_cons_of_mem _ aw_80
theorem hX6_dearestOf_X6 : ∀ w ∈ wsX60, w ∈ wsX6_dearestOf := fun w h => List.mem_cons_of_mem _ (ac_X6 w h)
theorem kX6_dearestOf_f19 : (Cond.fieldLink RX6 19 "LastCallersWord$Plan" "persons" "I" : Cond) ∈ wsX6_dearestOf := List.mem_cons_of_mem _ aw_252
theorem hX6_dearestOf_X1 : ∀ w ∈ wsX10, w ∈ wsX6_dearestOf := fun w h => List.mem_cons_of_mem _ (ac_X1 w h)
theorem kX6_dearestOf_f15 : (Cond.fieldLink RX6 15 "LastCallersWord$Talk" "state" "LLastCallersWord$State;" : Cond) ∈ wsX6_dearestOf := List.mem_cons_of_mem _ aw_81
theorem kX6_dearestOf_f47 : (Cond.fieldLink RX6 47 "LastCallersWord$State" "likings" "[I" : Cond) ∈ wsX6_dearestOf := List.mem_cons_of_mem _ aw_266
theorem hX6_dearestOf_X5 : ∀ w ∈ wsX50, w ∈ wsX6_dearestOf := fun w h => List.mem_cons_of_mem _ (ac_X5 w h)
theorem kX6_dearestOf_ini : (Cond.initialized RX7 : Cond) ∈ wsX6_dearestOf := List.mem_cons_of_mem _ aw_1
theorem kX6_dearestOf_stX7_pair : (Cond.static yX7_pair : Cond) ∈ wsX6_dearestOf := List.mem_cons_of_mem _ aw_190
theorem kX6_dearestOf_stX7_has : (Cond.static yX7_has : Cond) ∈ wsX6_dearestOf := List.mem_cons_of_mem _ aw_267
set_option maxHeartbeats 4000000 in
set_option maxRecDepth 100000 in
theorem c_X6_dearestOf (l : Launch) (g : GG) (t : Nat) (p_ : Nat) (pk : Nat) (pl : Nat) (ph : Nat) (pc_ : Nat) (pp : Nat) (st : Nat) (sl : Nat) (sc : Nat) (sk : Nat) (sw : Nat) (P : Nat) (pt : Nat) (pd : Nat) (pw : Nat) (pb : Nat) (sd : Nat) (kd : Nat → Int32) (lk : Nat → Int32) (i : Nat) (th : Int32) (hP8 : P ≤ 8) (hi : i < 8) : Met l yX6_dearestOf wsX6_dearestOf ({ frames := 1, cells := 0, slots := 0, locals := 21 } : Room) (ro g [.ref t, .int (nI i), .int th] [(t, .inr (6, [.ref p_, .ref st])), (p_, .inr (1, [.ref pk, .ref pl, .ref ph, .ref pc_, .ref pp, .int (nI P), .int (nI pt), .int (nI pd), .int (nI pw), .int (nI pb)])), (pk, .inl (g.2.1, 8, .inl kd)), (st, .inr (5, [.ref sl, .ref sc, .ref sk, .ref sw, .int (nI sd)])), (sl, .inl (g.2.1, 64, .inl lk))]) (vp_Si (fun rr => rr = (dO lk i th P).1)) 0 0 (fun _ => False) := by
  refine ro_start (cc := cX6_dearestOf) (maxL := 7) (ty := .int) (by decide) rfl (Nat.le_of_ble_eq_true rfl) (fun p e s m args below meth c Q C hP hret ls hl => ?_)
  obtain ⟨hx, hb, hml, hr, hown, hts, hlk, hKK⟩ := id C
  have hK := hKK.1
  have hown : s.vm.findClass RX6 = some m.cls := hown
  have ctx : CallFix p m c cX6_dearestOf 7 s args wsX6_dearestOf RX6 := ⟨hx, hb, hml, hown, hts⟩
  have hl : lv_has ls 7 [(0, .ref t), (1, .int (nI i)), (2, .int th)] := hl
  refine lv_iconst (v := nI 0) hx hb dX6_dearestOf_0 (by decide) ?_
  refine lv_istore_n (lv' := [(3, .int (nI 0)), (0, .ref t), (1, .int (nI i)), (2, .int th)]) hx hb dX6_dearestOf_1 rfl hl (by decide) rfl (fun ls hl => ?_)
  refine lv_iconst (v := nI 0) hx hb dX6_dearestOf_2 (by decide) ?_
  refine lv_istore (lv' := [(4, .int (nI 0)), (3, .int (nI 0)), (0, .ref t), (1, .int (nI i)), (2, .int th)]) hx hb dX6_dearestOf_3 hl (by decide) rfl (fun ls hl => ?_)
  refine lv_iconst (v := nI 0) hx hb dX6_dearestOf_5 (by decide) ?_
  refine lv_istore (lv' := [(5, .int (nI 0)), (4, .int (nI 0)), (3, .int (nI 0)), (0, .ref t), (1, .int (nI i)), (2, .int th)]) hx hb dX6_dearestOf_6 hl (by decide) rfl (fun ls hl => ?_)
  have LP8 : ∀ (fu : Nat) (j : Nat) (x3 : Int32) (x4 : Int32), P - j < fu → (j ≤ P) → (x3 = (dO lk i th j).1) → (x4 = (dO lk i th j).2) → ∀ (ls : Array Slot), lv_has ls 7 [(5, .int (nI j)), (4, .int x4), (3, .int x3), (0, .ref t), (1, .int (nI i)), (2, .int th)] → W p l e ({ frames := 1, cells := 0, slots := 0, locals := 21 } : Room) s m args below meth c s.heap [] 0 0 Q (F0 m 8 ls []) := by
    intro fu
    induction fu with
    | zero => intro j x3 x4 hfu; exact absurd hfu (Nat.not_lt_zero _)
    | succ fu ih8 =>
      intro j x3 x4 hfu hj e3 e4 ls hl
      refine lv_iload hx hb dX6_dearestOf_8 (lv_at hl 0 rfl) ?_
      refine lv_aload_n hx hb dX6_dearestOf_10 rfl (lv_at hl 3 rfl) ?_
      refine va_get (D := g.1) (cl := vwCl) (ci := 6) (v := .ref p_) (C := RX6) (T := TX6) (N := 2) hx hb hts hX6_dearestOf_X6 hown hK hP 0 rfl rfl 0 (by decide) (hts _ kX6_dearestOf_f9) (fun _ h9 => h9) rfl dX6_dearestOf_11 ?_
      refine va_get (D := g.1) (cl := vwCl) (ci := 1) (v := .int (nI P)) (C := RX1) (T := TX1) (N := 10) hx hb hts hX6_dearestOf_X1 hown hK hP 1 rfl rfl 5 (by decide) (hts _ kX6_dearestOf_f19) (fun _ h9 => h9) rfl dX6_dearestOf_14 ?_
      refine lv_icmp_ge (tgt := 67) hx hb dX6_dearestOf_17 (by decide) (fun c_1 => ?_) (fun c_1 => ?_)
      · replace c_1 : P ≤ j := (nI_leI (a := P) (b := j) (by omega) (by omega)).mp c_1
        refine lv_iload_n hx hb dX6_dearestOf_67 rfl (lv_at hl 2 rfl) ?_
        exact hret x3 68 ls (by rw [e3, show j = P by omega]) (rfl) dX6_dearestOf_68
      · replace c_1 : ¬ P ≤ j := fun h => c_1 ((nI_leI (a := P) (b := j) (by omega) (by omega)).mpr h)
        refine lv_aload_n hx hb dX6_dearestOf_20 rfl (lv_at hl 3 rfl) ?_
        refine va_get (D := g.1) (cl := vwCl) (ci := 6) (v := .ref st) (C := RX6) (T := TX6) (N := 2) hx hb hts hX6_dearestOf_X6 hown hK hP 0 rfl rfl 1 (by decide) (hts _ kX6_dearestOf_f15) (fun _ h9 => h9) rfl dX6_dearestOf_21 ?_
        refine va_get (D := g.1) (cl := vwCl) (ci := 5) (v := .ref sl) (C := RX5) (T := TX5) (N := 5) hx hb hts hX6_dearestOf_X5 hown hK hP 3 rfl rfl 0 (by decide) (hts _ kX6_dearestOf_f47) (fun _ h9 => h9) rfl dX6_dearestOf_24 ?_
        refine lv_iload_n hx hb dX6_dearestOf_27 rfl (lv_at hl 4 rfl) ?_
        refine lv_iload hx hb dX6_dearestOf_28 (lv_at hl 0 rfl) ?_
        refine ro_callSN (As := [.int (nI i), .int (nI j)]) (rest := [.ref sl]) ctx hKK hP (c_X7_pair l g i j) gX6_dearestOf_X7_pair_n52 (hKK.2.1) (hts _ kX6_dearestOf_ini) (hts _ kX6_dearestOf_stX7_pair) rfl rfl rfl hdX7_pair ⟨Nat.le_of_ble_eq_true rfl, Nat.le_of_ble_eq_true rfl⟩ [] rfl hl.1 rfl rfl (Nat.le_of_ble_eq_true rfl) dX6_dearestOf_30 (fun r_2 hr_2 => ?_)
        subst hr_2
        refine ald_i (D := g.1) (cl := vwCl) (f := lk) (i := i * 8 + j) (n := 64) hx hb hK hP 4 0 rfl rfl (by omega) (by decide) dX6_dearestOf_33 ?_
        refine lv_istore (lv' := [(6, .int (lk (i * 8 + j))), (5, .int (nI j)), (4, .int x4), (3, .int x3), (0, .ref t), (1, .int (nI i)), (2, .int th)]) hx hb dX6_dearestOf_34 hl (by decide) rfl (fun ls hl => ?_)
        refine lv_iload_n hx hb dX6_dearestOf_36 rfl (lv_at hl 6 rfl) ?_
        refine lv_iload hx hb dX6_dearestOf_37 (lv_at hl 1 rfl) ?_
        refine ro_callSN (As := [.int th, .int (nI j)]) (rest := []) ctx hKK hP (c_X7_has l g th (nI j)) gX6_dearestOf_X7_has_n55 (hKK.2.2.1) (hts _ kX6_dearestOf_ini) (hts _ kX6_dearestOf_stX7_has) rfl rfl rfl hdX7_has ⟨Nat.le_of_ble_eq_true rfl, Nat.le_of_ble_eq_true rfl⟩ [] rfl hl.1 rfl rfl (Nat.le_of_ble_eq_true rfl) dX6_dearestOf_39 (fun r_3 hr_3 => ?_)
        subst hr_3
        refine lv_if_eq (tgt := 61) hx hb dX6_dearestOf_42 (by decide) (fun c_4 => ?_) (fun c_4 => ?_)
        · replace c_4 := bI_f c_4
          refine lv_iinc (v := nI (j + 1)) (lv' := [(5, .int (nI (j + 1))), (6, .int (lk (i * 8 + j))), (4, .int x4), (3, .int x3), (0, .ref t), (1, .int (nI i)), (2, .int th)]) hx hb dX6_dearestOf_61 hl (k := 1) rfl (iincK j 1) (by decide) rfl (fun ls hl => ?_)
          refine lv_goto (tgt := 8) hx hb dX6_dearestOf_64 (by decide) ?_
          exact ih8 (j + 1) x3 x4 (by omega) (by omega) (by simp [dO, ← e3, ← e4, c_1, c_4]) (by simp [dO, ← e3, ← e4, c_1, c_4]) ls (lv_sub hl [0, 2, 3, 4, 5, 6] rfl)
        · replace c_4 := bI_t c_4
          refine lv_iload hx hb dX6_dearestOf_45 (lv_at hl 0 rfl) ?_
          refine lv_iload hx hb dX6_dearestOf_47 (lv_at hl 2 rfl) ?_
          refine lv_icmp_le (tgt := 61) hx hb dX6_dearestOf_49 (by decide) (fun c_5 => ?_) (fun c_5 => ?_)
          · refine lv_iinc (v := nI (j + 1)) (lv' := [(5, .int (nI (j + 1))), (6, .int (lk (i * 8 + j))), (4, .int x4), (3, .int x3), (0, .ref t), (1, .int (nI i)), (2, .int th)]) hx hb dX6_dearestOf_61 hl (k := 1) rfl (iincK j 1) (by decide) rfl (fun ls hl => ?_)
            refine lv_goto (tgt := 8) hx hb dX6_dearestOf_64 (by decide) ?_
            exact ih8 (j + 1) x3 x4 (by omega) (by omega) (by simp [dO, ← e3, ← e4, c_1, c_4, c_5]) (by simp [dO, ← e3, ← e4, c_1, c_4, c_5]) ls (lv_sub hl [0, 2, 3, 4, 5, 6] rfl)
          · refine lv_iconst (v := nI 1) hx hb dX6_dearestOf_52 (by decide) ?_
            refine lv_iload hx hb dX6_dearestOf_53 (lv_at hl 1 rfl) ?_
            refine lv_ishl hx hb dX6_dearestOf_55 ?_
            refine lv_istore_n (lv' := [(3, .int ((nI 1) <<< ((nI j) &&& 31))), (6, .int (lk (i * 8 + j))), (5, .int (nI j)), (4, .int x4), (0, .ref t), (1, .int (nI i)), (2, .int th)]) hx hb dX6_dearestOf_56 rfl hl (by decide) rfl (fun ls hl => ?_)
            refine lv_iload hx hb dX6_dearestOf_57 (lv_at hl 1 rfl) ?_
            refine lv_istore (lv' := [(4, .int (lk (i * 8 + j))), (3, .int ((nI 1) <<< ((nI j) &&& 31))), (6, .int (lk (i * 8 + j))), (5, .int (nI j)), (0, .ref t), (1, .int (nI i)), (2, .int th)]) hx hb dX6_dearestOf_59 hl (by decide) rfl (fun ls hl => ?_)
            refine lv_iinc (v := nI (j + 1)) (lv' := [(5, .int (nI (j + 1))), (4, .int (lk (i * 8 + j))), (3, .int ((nI 1) <<< ((nI j) &&& 31))), (6, .int (lk (i * 8 + j))), (0, .ref t), (1, .int (nI i)), (2, .int th)]) hx hb dX6_dearestOf_61 hl (k := 3) rfl (iincK j 1) (by decide) rfl (fun ls hl => ?_)
            refine lv_goto (tgt := 8) hx hb dX6_dearestOf_64 (by decide) ?_
            exact ih8 (j + 1) ((nI 1) <<< ((nI j) &&& 31)) (lk (i * 8 + j)) (by omega) (by omega) (by simp [dO, ← e3, ← e4, c_1, c_4, c_5]) (by simp [dO, ← e3, ← e4, c_1, c_4, c_5]) ls (lv_sub hl [0, 1, 2, 4, 5, 6] rfl)
  exact LP8 (P + 1) 0 (nI 0) (nI 0) (by omega) (by omega) (rfl) (rfl) ls (lv_sub hl [0, 1, 2, 3, 4, 5] rfl)
set_option maxHeartbeats 4000000 in
set_option maxRecDepth 100000 in
theorem c_X6_dearestOnes (l : Launch) (g : GG) (t : Nat) (p_ : Nat) (pk : Nat) (pl : Nat) (ph : Nat) (pc_ : Nat) (pp : Nat) (st : Nat) (sl : Nat) (sc : Nat) (sk : Nat) (sw : Nat) (P : Nat) (pt : Nat) (pd : Nat) (pw : Nat) (pb : Nat) (sd : Nat) (kd : Nat → Int32) (lk : Nat → Int32) (i : Nat) (many : Nat) (hP8 : P ≤ 8) (hi : i < 8) (hm : many ≤ 8) : Met l yX6_dearestOnes wsX6_dearestOnes ({ frames := 2, cells := 0, slots := 0, locals := 47 } : Room) (ro g [.ref t, .int (nI i), .int (nI many)] [(t, .inr (6, [.ref p_, .ref st])), (p_, .inr (1, [.ref pk, .ref pl, .ref ph, .ref pc_, .ref pp, .int (nI P), .int (nI pt), .int (nI pd), .int (nI pw), .int (nI pb)])), (pk, .inl (g.2.1, 8, .inl kd)), (st, .inr (5, [.ref sl, .ref sc, .ref sk, .ref sw, .int (nI sd)])), (sl, .inl (g.2.1, 64, .inl lk))]) (vp_Si (fun rr => rr = dOs lk P i many)) 0 0 (fun _ => False) := by
  refine ro_start (cc := cX6_dearestOnes) (maxL := 5) (ty := .int) (by decide) rfl (Nat.le_of_ble_eq_true rfl) (fun p e s m args below meth c Q C hP hret ls hl => ?_)
  obtain ⟨hx, hb, hml, hr, hown, hts, hlk, hKK⟩ := id C
  have hK := hKK.1
  have hown : s.vm.findClass RX6 = some m.cls := hown
  have ctx : CallFix p m c cX6_dearestOnes 5 s args wsX6_dearestOnes RX6 := ⟨hx, hb, hml, hown, hts⟩
  have hl : lv_has ls 5 [(0, .ref t), (1, .int (nI i)), (2, .int (nI many))] := hl
  refine lv_iconst (v := nI 0) hx hb dX6_dearestOnes_0 (by decide) ?_
  refine lv_istore_n (lv' := [(3, .int (nI 0)), (0, .ref t), (1, .int (nI i)), (2, .int (nI many))]) hx hb dX6_dearestOnes_1 rfl hl (by decide) rfl (fun ls hl => ?_)
  refine lv_iconst (v := nI 0) hx hb dX6_dearestOnes_2 (by decide) ?_
  refine lv_istore (lv' := [(4, .int (nI 0)), (3, .int (nI 0)), (0, .ref t), (1, .int (nI i)), (2, .int (nI many))]) hx hb dX6_dearestOnes_3 hl (by decide) rfl (fun ls hl => ?_)
  have LP5 : ∀ (fu : Nat) (j : Nat) (x3 : Int32), many - j < fu → (j ≤ many) → (x3 = dOs lk P i j) → ∀ (ls : Array Slot), lv_has ls 5 [(4, .int (nI j)), (3, .int x3), (0, .ref t), (1, .int (nI i)), (2, .int (nI many))] → W p l e ({ frames := 2, cells := 0, slots := 0, locals := 47 } : Room) s m args below meth c s.heap [] 0 0 Q (F0 m 5 ls []) := by
    intro fu
    induction fu with
    | zero => intro j x3 hfu; exact absurd hfu (Nat.not_lt_zero _)
    | succ fu ih5 =>
      intro j x3 hfu hj e3 ls hl
      refine lv_iload hx hb dX6_dearestOnes_5 (lv_at hl 0 rfl) ?_
      refine lv_iload_n hx hb dX6_dearestOnes_7 rfl (lv_at hl 4 rfl) ?_
      refine lv_icmp_ge (tgt := 39) hx hb dX6_dearestOnes_8 (by decide) (fun c_1 => ?_) (fun c_1 => ?_)
      · replace c_1 : many ≤ j := (nI_leI (a := many) (b := j) (by omega) (by omega)).mp c_1
        refine lv_iload_n hx hb dX6_dearestOnes_39 rfl (lv_at hl 1 rfl) ?_
        exact hret x3 40 ls (by rw [e3, show j = many by omega]) (rfl) dX6_dearestOnes_40
      · replace c_1 : ¬ many ≤ j := fun h => c_1 ((nI_leI (a := many) (b := j) (by omega) (by omega)).mpr h)
        refine lv_iload_n hx hb dX6_dearestOnes_11 rfl (lv_at hl 1 rfl) ?_
        refine lv_aload_n hx hb dX6_dearestOnes_12 rfl (lv_at hl 2 rfl) ?_
        refine lv_iload_n hx hb dX6_dearestOnes_13 rfl (lv_at hl 3 rfl) ?_
        refine lv_aload_n hx hb dX6_dearestOnes_14 rfl (lv_at hl 2 rfl) ?_
        refine ro_callV (As := []) (rest := [.int (nI i), .ref t, .int x3]) (b := t) ctx hKK hP (c_X6_everyone l g t p_ pk pl ph pc_ pp st sl sc sk sw P pt pd pw pb sd kd lk (by omega)) gX6_dearestOnes_X6_everyone rfl rfl rfl hdX6_everyone ⟨Nat.le_of_ble_eq_true rfl, Nat.le_of_ble_eq_true rfl⟩ [0, 1, 2, 3, 4] rfl (ci := 6) (q0 := 0) rfl rfl hl.1 rfl rfl (Nat.le_of_ble_eq_true rfl) dX6_dearestOnes_15 (fun r_2 hr_2 => ?_)
        subst hr_2
        refine lv_iconst (v := nI 1) hx hb dX6_dearestOnes_18 (by decide) ?_
        refine lv_iload_n hx hb dX6_dearestOnes_19 rfl (lv_at hl 3 rfl) ?_
        refine lv_ishl hx hb dX6_dearestOnes_20 ?_
        refine lv_iconst (v := (-1)) hx hb dX6_dearestOnes_21 (by decide) ?_
        refine lv_ixor hx hb dX6_dearestOnes_22 ?_
        refine lv_iand hx hb dX6_dearestOnes_23 ?_
        refine lv_iload_n hx hb dX6_dearestOnes_24 rfl (lv_at hl 1 rfl) ?_
        refine lv_iconst (v := (-1)) hx hb dX6_dearestOnes_25 (by decide) ?_
        refine lv_ixor hx hb dX6_dearestOnes_26 ?_
        refine lv_iand hx hb dX6_dearestOnes_27 ?_
        refine ro_callV (As := [.int (nI i), .int (((allB P) &&& (((nI 1) <<< ((nI i) &&& 31)) ^^^ (-1))) &&& (x3 ^^^ (-1)))]) (rest := [.int x3]) (b := t) ctx hKK hP (c_X6_dearestOf l g t p_ pk pl ph pc_ pp st sl sc sk sw P pt pd pw pb sd kd lk i (((allB P) &&& (((nI 1) <<< ((nI i) &&& 31)) ^^^ (-1))) &&& (x3 ^^^ (-1))) (by omega) (by omega)) gX6_dearestOnes_X6_dearestOf rfl rfl rfl hdX6_dearestOf ⟨Nat.le_of_ble_eq_true rfl, Nat.le_of_ble_eq_true rfl⟩ [0, 1, 2, 3, 4] rfl (ci := 6) (q0 := 0) rfl rfl hl.1 rfl rfl (Nat.le_of_ble_eq_true rfl) dX6_dearestOnes_28 (fun r_3 hr_3 => ?_)
        subst hr_3
        refine lv_ior hx hb dX6_dearestOnes_31 ?_
        refine lv_istore_n (lv' := [(3, .int (x3 ||| ((dO lk i (((allB P) &&& (((nI 1) <<< ((nI i) &&& 31)) ^^^ (-1))) &&& (x3 ^^^ (-1))) P).1))), (4, .int (nI j)), (0, .ref t), (1, .int (nI i)), (2, .int (nI many))]) hx hb dX6_dearestOnes_32 rfl hl (by decide) rfl (fun ls hl => ?_)
        refine lv_iinc (v := nI (j + 1)) (lv' := [(4, .int (nI (j + 1))), (3, .int (x3 ||| ((dO lk i (((allB P) &&& (((nI 1) <<< ((nI i) &&& 31)) ^^^ (-1))) &&& (x3 ^^^ (-1))) P).1))), (0, .ref t), (1, .int (nI i)), (2, .int (nI many))]) hx hb dX6_dearestOnes_33 hl (k := 1) rfl (iincK j 1) (by decide) rfl (fun ls hl => ?_)
        refine lv_goto (tgt := 5) hx hb dX6_dearestOnes_36 (by decide) ?_
        exact ih5 (j + 1) (x3 ||| ((dO lk i (((allB P) &&& (((nI 1) <<< ((nI i) &&& 31)) ^^^ (-1))) &&& (x3 ^^^ (-1))) P).1)) (by omega) (by omega) (by simp [dOs, ← e3]) ls (lv_sub hl [0, 1, 2, 3, 4] rfl)
  exact LP5 (many + 1) 0 (nI 0) (by omega) (by omega) (rfl) ls (lv_sub hl [0, 1, 2, 3, 4] rfl)
theorem kX6_likedOnes_f9 : (Cond.fieldLink RX6 9 "LastCallersWord$Talk" "plan" "LLastCallersWord$Plan;" : Cond) ∈ wsX6_likedOnes := List.mem_cons_of_mem _ aw_80
theorem hX6_likedOnes_X6 : ∀ w ∈ wsX60, w ∈ wsX6_likedOnes := fun w h => List.mem_cons_of_mem _ (ac_X6 w h)
theorem kX6_likedOnes_f19 : (Cond.fieldLink RX6 19 "LastCallersWord$Plan" "persons" "I" : Cond) ∈ wsX6_likedOnes := List.mem_cons_of_mem _ aw_252
theorem hX6_likedOnes_X1 : ∀ w ∈ wsX10, w ∈ wsX6_likedOnes := fun w h => List.mem_cons_of_mem _ (ac_X1 w h)
theorem kX6_likedOnes_f15 : (Cond.fieldLink RX6 15 "LastCallersWord$Talk" "state" "LLastCallersWord$State;" : Cond) ∈ wsX6_likedOnes := List.mem_cons_of_mem _ aw_81
theorem kX6_likedOnes_f47 : (Cond.fieldLink RX6 47 "LastCallersWord$State" "likings" "[I" : Cond) ∈ wsX6_likedOnes := List.mem_cons_of_mem _ aw_266
theorem hX6_likedOnes_X5 : ∀ w ∈ wsX50, w ∈ wsX6_likedOnes := fun w h => List.mem_cons_of_mem _ (ac_X5 w h)
theorem kX6_likedOnes_ini : (Cond.initialized RX7 : Cond) ∈ wsX6_likedOnes := List.mem_cons_of_mem _ aw_1
theorem kX6_likedOnes_stX7_pair : (Cond.static yX7_pair : Cond) ∈ wsX6_likedOnes := List.mem_cons_of_mem _ aw_190
set_option maxHeartbeats 4000000 in
set_option maxRecDepth 100000 in
theorem c_X6_likedOnes (l : Launch) (g : GG) (t : Nat) (p_ : Nat) (pk : Nat) (pl : Nat) (ph : Nat) (pc_ : Nat) (pp : Nat) (st : Nat) (sl : Nat) (sc : Nat) (sk : Nat) (sw : Nat) (P : Nat) (pt : Nat) (pd : Nat) (pw : Nat) (pb : Nat) (sd : Nat) (kd : Nat → Int32) (lk : Nat → Int32) (i : Nat) (least : Int32) (hP8 : P ≤ 8) (hi : i < 8) : Met l yX6_likedOnes wsX6_likedOnes ({ frames := 1, cells := 0, slots := 0, locals := 21 } : Room) (ro g [.ref t, .int (nI i), .int least] [(t, .inr (6, [.ref p_, .ref st])), (p_, .inr (1, [.ref pk, .ref pl, .ref ph, .ref pc_, .ref pp, .int (nI P), .int (nI pt), .int (nI pd), .int (nI pw), .int (nI pb)])), (pk, .inl (g.2.1, 8, .inl kd)), (st, .inr (5, [.ref sl, .ref sc, .ref sk, .ref sw, .int (nI sd)])), (sl, .inl (g.2.1, 64, .inl lk))]) (vp_Si (fun rr => rr = lkd lk i least P)) 0 0 (fun _ => False) := by
  refine ro_start (cc := cX6_likedOnes) (maxL := 5) (ty := .int) (by decide) rfl (Nat.le_of_ble_eq_true rfl) (fun p e s m args below meth c Q C hP hret ls hl => ?_)
  obtain ⟨hx, hb, hml, hr, hown, hts, hlk, hKK⟩ := id C
  have hK := hKK.1
  have hown : s.vm.findClass RX6 = some m.cls := hown
  have ctx : CallFix p m c cX6_likedOnes 5 s args wsX6_likedOnes RX6 := ⟨hx, hb, hml, hown, hts⟩
  have hl : lv_has ls 5 [(0, .ref t), (1, .int (nI i)), (2, .int least)] := hl
  refine lv_iconst (v := nI 0) hx hb dX6_likedOnes_0 (by decide) ?_
  refine lv_istore_n (lv' := [(3, .int (nI 0)), (0, .ref t), (1, .int (nI i)), (2, .int least)]) hx hb dX6_likedOnes_1 rfl hl (by decide) rfl (fun ls hl => ?_)
  refine lv_iconst (v := nI 0) hx hb dX6_likedOnes_2 (by decide) ?_
  refine lv_istore (lv' := [(4, .int (nI 0)), (3, .int (nI 0)), (0, .ref t), (1, .int (nI i)), (2, .int least)]) hx hb dX6_likedOnes_3 hl (by decide) rfl (fun ls hl => ?_)
  have LP5 : ∀ (fu : Nat) (j : Nat) (x3 : Int32), P - j < fu → (j ≤ P) → (x3 = lkd lk i least j) → ∀ (ls : Array Slot), lv_has ls 5 [(4, .int (nI j)), (3, .int x3), (0, .ref t), (1, .int (nI i)), (2, .int least)] → W p l e ({ frames := 1, cells := 0, slots := 0, locals := 21 } : Room) s m args below meth c s.heap [] 0 0 Q (F0 m 5 ls []) := by
    intro fu
    induction fu with
    | zero => intro j x3 hfu; exact absurd hfu (Nat.not_lt_zero _)
    | succ fu ih5 =>
      intro j x3 hfu hj e3 ls hl
      refine lv_iload hx hb dX6_likedOnes_5 (lv_at hl 0 rfl) ?_
      refine lv_aload_n hx hb dX6_likedOnes_7 rfl (lv_at hl 2 rfl) ?_
      refine va_get (D := g.1) (cl := vwCl) (ci := 6) (v := .ref p_) (C := RX6) (T := TX6) (N := 2) hx hb hts hX6_likedOnes_X6 hown hK hP 0 rfl rfl 0 (by decide) (hts _ kX6_likedOnes_f9) (fun _ h9 => h9) rfl dX6_likedOnes_8 ?_
      refine va_get (D := g.1) (cl := vwCl) (ci := 1) (v := .int (nI P)) (C := RX1) (T := TX1) (N := 10) hx hb hts hX6_likedOnes_X1 hown hK hP 1 rfl rfl 5 (by decide) (hts _ kX6_likedOnes_f19) (fun _ h9 => h9) rfl dX6_likedOnes_11 ?_
      refine lv_icmp_ge (tgt := 54) hx hb dX6_likedOnes_14 (by decide) (fun c_1 => ?_) (fun c_1 => ?_)
      · replace c_1 : P ≤ j := (nI_leI (a := P) (b := j) (by omega) (by omega)).mp c_1
        refine lv_iload_n hx hb dX6_likedOnes_54 rfl (lv_at hl 1 rfl) ?_
        exact hret x3 55 ls (by rw [e3, show j = P by omega]) (rfl) dX6_likedOnes_55
      · replace c_1 : ¬ P ≤ j := fun h => c_1 ((nI_leI (a := P) (b := j) (by omega) (by omega)).mpr h)
        refine lv_iload hx hb dX6_likedOnes_17 (lv_at hl 0 rfl) ?_
        refine lv_iload_n hx hb dX6_likedOnes_19 rfl (lv_at hl 3 rfl) ?_
        refine lv_icmp_eq (tgt := 48) hx hb dX6_likedOnes_20 (by decide) (fun c_2 => ?_) (fun c_2 => ?_)
        · replace c_2 : j = i := (nI_eq (a := j) (b := i) (by omega) (by omega)).mp c_2
          refine lv_iinc (v := nI (j + 1)) (lv' := [(4, .int (nI (j + 1))), (3, .int x3), (0, .ref t), (1, .int (nI i)), (2, .int least)]) hx hb dX6_likedOnes_48 hl (k := 0) rfl (iincK j 1) (by decide) rfl (fun ls hl => ?_)
          refine lv_goto (tgt := 5) hx hb dX6_likedOnes_51 (by decide) ?_
          exact ih5 (j + 1) x3 (by omega) (by omega) (by rw [lkd, ← e3]; simp [c_1, c_2]) ls (lv_sub hl [0, 1, 2, 3, 4] rfl)
        · replace c_2 : ¬ j = i := fun h => c_2 ((nI_eq (a := j) (b := i) (by omega) (by omega)).mpr h)
          refine lv_aload_n hx hb dX6_likedOnes_23 rfl (lv_at hl 2 rfl) ?_
          refine va_get (D := g.1) (cl := vwCl) (ci := 6) (v := .ref st) (C := RX6) (T := TX6) (N := 2) hx hb hts hX6_likedOnes_X6 hown hK hP 0 rfl rfl 1 (by decide) (hts _ kX6_likedOnes_f15) (fun _ h9 => h9) rfl dX6_likedOnes_24 ?_
          refine va_get (D := g.1) (cl := vwCl) (ci := 5) (v := .ref sl) (C := RX5) (T := TX5) (N := 5) hx hb hts hX6_likedOnes_X5 hown hK hP 3 rfl rfl 0 (by decide) (hts _ kX6_likedOnes_f47) (fun _ h9 => h9) rfl dX6_likedOnes_27 ?_
          refine lv_iload_n hx hb dX6_likedOnes_30 rfl (lv_at hl 3 rfl) ?_
          refine lv_iload hx hb dX6_likedOnes_31 (lv_at hl 0 rfl) ?_
          refine ro_callSN (As := [.int (nI i), .int (nI j)]) (rest := [.ref sl]) ctx hKK hP (c_X7_pair l g i j) gX6_likedOnes_X7_pair_n52 (hKK.2.1) (hts _ kX6_likedOnes_ini) (hts _ kX6_likedOnes_stX7_pair) rfl rfl rfl hdX7_pair ⟨Nat.le_of_ble_eq_true rfl, Nat.le_of_ble_eq_true rfl⟩ [] rfl hl.1 rfl rfl (Nat.le_of_ble_eq_true rfl) dX6_likedOnes_33 (fun r_3 hr_3 => ?_)
          subst hr_3
          refine ald_i (D := g.1) (cl := vwCl) (f := lk) (i := i * 8 + j) (n := 64) hx hb hK hP 4 0 rfl rfl (by omega) (by decide) dX6_likedOnes_36 ?_
          refine lv_iload_n hx hb dX6_likedOnes_37 rfl (lv_at hl 4 rfl) ?_
          refine lv_icmp_lt (tgt := 48) hx hb dX6_likedOnes_38 (by decide) (fun c_4 => ?_) (fun c_4 => ?_)
          · refine lv_iinc (v := nI (j + 1)) (lv' := [(4, .int (nI (j + 1))), (3, .int x3), (0, .ref t), (1, .int (nI i)), (2, .int least)]) hx hb dX6_likedOnes_48 hl (k := 0) rfl (iincK j 1) (by decide) rfl (fun ls hl => ?_)
            refine lv_goto (tgt := 5) hx hb dX6_likedOnes_51 (by decide) ?_
            exact ih5 (j + 1) x3 (by omega) (by omega) (by rw [lkd, ← e3]; simp [c_1, c_2, c_4]) ls (lv_sub hl [0, 1, 2, 3, 4] rfl)
          · refine lv_iload_n hx hb dX6_likedOnes_41 rfl (lv_at hl 1 rfl) ?_
            refine lv_iconst (v := nI 1) hx hb dX6_likedOnes_42 (by decide) ?_
            refine lv_iload hx hb dX6_likedOnes_43 (lv_at hl 0 rfl) ?_
            refine lv_ishl hx hb dX6_likedOnes_45 ?_
            refine lv_ior hx hb dX6_likedOnes_46 ?_
            refine lv_istore_n (lv' := [(3, .int (x3 ||| ((nI 1) <<< ((nI j) &&& 31)))), (4, .int (nI j)), (0, .ref t), (1, .int (nI i)), (2, .int least)]) hx hb dX6_likedOnes_47 rfl hl (by decide) rfl (fun ls hl => ?_)
            refine lv_iinc (v := nI (j + 1)) (lv' := [(4, .int (nI (j + 1))), (3, .int (x3 ||| ((nI 1) <<< ((nI j) &&& 31)))), (0, .ref t), (1, .int (nI i)), (2, .int least)]) hx hb dX6_likedOnes_48 hl (k := 1) rfl (iincK j 1) (by decide) rfl (fun ls hl => ?_)
            refine lv_goto (tgt := 5) hx hb dX6_likedOnes_51 (by decide) ?_
            exact ih5 (j + 1) (x3 ||| ((nI 1) <<< ((nI j) &&& 31))) (by omega) (by omega) (by rw [lkd, ← e3]; simp [c_1, c_2, c_4]) ls (lv_sub hl [0, 1, 2, 3, 4] rfl)
  exact LP5 (P + 1) 0 (nI 0) (by omega) (by omega) (rfl) ls (lv_sub hl [0, 1, 2, 3, 4] rfl)
theorem kX6_listeners_f9 : (Cond.fieldLink RX6 9 "LastCallersWord$Talk" "plan" "LLastCallersWord$Plan;" : Cond) ∈ wsX6_listeners := List.mem_cons_of_mem _ aw_80
theorem hX6_listeners_X6 : ∀ w ∈ wsX60, w ∈ wsX6_listeners := fun w h => List.mem_cons_of_mem _ (ac_X6 w h)
theorem kX6_listeners_f19 : (Cond.fieldLink RX6 19 "LastCallersWord$Plan" "persons" "I" : Cond) ∈ wsX6_listeners := List.mem_cons_of_mem _ aw_252
theorem hX6_listeners_X1 : ∀ w ∈ wsX10, w ∈ wsX6_listeners := fun w h => List.mem_cons_of_mem _ (ac_X1 w h)
theorem kX6_listeners_f29 : (Cond.fieldLink RX6 29 "LastCallersWord$Plan" "kinds" "[I" : Cond) ∈ wsX6_listeners := List.mem_cons_of_mem _ aw_253
set_option maxHeartbeats 4000000 in
set_option maxRecDepth 100000 in
theorem c_X6_listeners (l : Launch) (g : GG) (t : Nat) (p_ : Nat) (pk : Nat) (pl : Nat) (ph : Nat) (pc_ : Nat) (pp : Nat) (st : Nat) (sl : Nat) (sc : Nat) (sk : Nat) (sw : Nat) (P : Nat) (pt : Nat) (pd : Nat) (pw : Nat) (pb : Nat) (sd : Nat) (kd : Nat → Int32) (lk : Nat → Int32) (cv : Int32) (hP8 : P ≤ 8) : Met l yX6_listeners wsX6_listeners ({ frames := 3, cells := 0, slots := 0, locals := 71 } : Room) (ro g [.ref t, .int cv] [(t, .inr (6, [.ref p_, .ref st])), (p_, .inr (1, [.ref pk, .ref pl, .ref ph, .ref pc_, .ref pp, .int (nI P), .int (nI pt), .int (nI pd), .int (nI pw), .int (nI pb)])), (pk, .inl (g.2.1, 8, .inl kd)), (st, .inr (5, [.ref sl, .ref sc, .ref sk, .ref sw, .int (nI sd)])), (sl, .inl (g.2.1, 64, .inl lk))]) (vp_Si (fun rr => rr = lst kd lk P cv)) 0 0 (fun _ => False) := by
  refine ro_start (cc := cX6_listeners) (maxL := 2) (ty := .int) (by decide) rfl (Nat.le_of_ble_eq_true rfl) (fun p e s m args below meth c Q C hP hret ls hl => ?_)
  obtain ⟨hx, hb, hml, hr, hown, hts, hlk, hKK⟩ := id C
  have hK := hKK.1
  have hown : s.vm.findClass RX6 = some m.cls := hown
  have ctx : CallFix p m c cX6_listeners 2 s args wsX6_listeners RX6 := ⟨hx, hb, hml, hown, hts⟩
  have hl : lv_has ls 2 [(0, .ref t), (1, .int cv)] := hl
  refine lv_iload_n hx hb dX6_listeners_0 rfl (lv_at hl 1 rfl) ?_
  refine lv_if_lt (tgt := 15) hx hb dX6_listeners_1 (by decide) (fun c_1 => ?_) (fun c_1 => ?_)
  · refine lv_iconst (v := nI 0) hx hb dX6_listeners_15 (by decide) ?_
    exact hret (nI 0) 16 ls (by simp [lst, c_1]) (rfl) dX6_listeners_16
  · refine lv_iload_n hx hb dX6_listeners_4 rfl (lv_at hl 1 rfl) ?_
    refine lv_aload_n hx hb dX6_listeners_5 rfl (lv_at hl 0 rfl) ?_
    refine va_get (D := g.1) (cl := vwCl) (ci := 6) (v := .ref p_) (C := RX6) (T := TX6) (N := 2) hx hb hts hX6_listeners_X6 hown hK hP 0 rfl rfl 0 (by decide) (hts _ kX6_listeners_f9) (fun _ h9 => h9) rfl dX6_listeners_6 ?_
    refine va_get (D := g.1) (cl := vwCl) (ci := 1) (v := .int (nI P)) (C := RX1) (T := TX1) (N := 10) hx hb hts hX6_listeners_X1 hown hK hP 1 rfl rfl 5 (by decide) (hts _ kX6_listeners_f19) (fun _ h9 => h9) rfl dX6_listeners_9 ?_
    refine lv_icmp_lt (tgt := 17) hx hb dX6_listeners_12 (by decide) (fun c_2 => ?_) (fun c_2 => ?_)
    · obtain ⟨i, hi, rfl⟩ : ∃ i : Nat, i < P ∧ cv = nI i := by
        obtain ⟨i, hi, rfl⟩ := nI_of c_1
        exact ⟨i, (nI_ltI hi (by omega)).mp c_2, rfl⟩
      refine lv_aload_n hx hb dX6_listeners_17 rfl (lv_at hl 0 rfl) ?_
      refine va_get (D := g.1) (cl := vwCl) (ci := 6) (v := .ref p_) (C := RX6) (T := TX6) (N := 2) hx hb hts hX6_listeners_X6 hown hK hP 0 rfl rfl 0 (by decide) (hts _ kX6_listeners_f9) (fun _ h9 => h9) rfl dX6_listeners_18 ?_
      refine va_get (D := g.1) (cl := vwCl) (ci := 1) (v := .ref pk) (C := RX1) (T := TX1) (N := 10) hx hb hts hX6_listeners_X1 hown hK hP 1 rfl rfl 0 (by decide) (hts _ kX6_listeners_f29) (fun _ h9 => h9) rfl dX6_listeners_21 ?_
      refine lv_iload_n hx hb dX6_listeners_24 rfl (lv_at hl 1 rfl) ?_
      refine ald_i (D := g.1) (cl := vwCl) (f := kd) (i := i) (n := 8) hx hb hK hP 2 0 rfl rfl (by omega) (by decide) dX6_listeners_25 ?_
      by_cases c_3 : (kd i) = nI 0
      · refine lv_tableIn (x := (kd i)) (off := 30) (tgt := 56) hx hb dX6_listeners_26 (by rw [c_3]; decide) (by rw [c_3]; decide) (by rw [c_3]; rfl) (by decide) ?_
        refine lv_aload_n hx hb dX6_listeners_56 rfl (lv_at hl 0 rfl) ?_
        refine lv_iload_n hx hb dX6_listeners_57 rfl (lv_at hl 1 rfl) ?_
        refine lv_iconst (v := nI 2) hx hb dX6_listeners_58 (by decide) ?_
        refine ro_callV (As := [.int (nI i), .int (nI 2)]) (rest := []) (b := t) ctx hKK hP (c_X6_dearestOnes l g t p_ pk pl ph pc_ pp st sl sc sk sw P pt pd pw pb sd kd lk i 2 (by omega) (by omega) (by omega)) gX6_listeners_X6_dearestOnes rfl rfl rfl hdX6_dearestOnes ⟨Nat.le_of_ble_eq_true rfl, Nat.le_of_ble_eq_true rfl⟩ [0, 1, 2, 3, 4] rfl (ci := 6) (q0 := 0) rfl rfl hl.1 rfl rfl (Nat.le_of_ble_eq_true rfl) dX6_listeners_59 (fun r_4 hr_4 => ?_)
        subst hr_4
        exact hret (dOs lk P i 2) 62 ls (by simp [lst, lstN, nI_clamp (show i < 2 ^ 31 by omega), nne_1_0, nne_2_0, nne_2_1, nne_2_3, nne_3_0, nne_3_1, c_1, c_2, c_3]) (rfl) dX6_listeners_62
      by_cases c_5 : (kd i) = nI 1
      · refine lv_tableIn (x := (kd i)) (off := 37) (tgt := 63) hx hb dX6_listeners_26 (by rw [c_5]; decide) (by rw [c_5]; decide) (by rw [c_5]; rfl) (by decide) ?_
        refine lv_aload_n hx hb dX6_listeners_63 rfl (lv_at hl 0 rfl) ?_
        refine lv_iload_n hx hb dX6_listeners_64 rfl (lv_at hl 1 rfl) ?_
        refine lv_iconst (v := nI 3) hx hb dX6_listeners_65 (by decide) ?_
        refine ro_callV (As := [.int (nI i), .int (nI 3)]) (rest := []) (b := t) ctx hKK hP (c_X6_dearestOnes l g t p_ pk pl ph pc_ pp st sl sc sk sw P pt pd pw pb sd kd lk i 3 (by omega) (by omega) (by omega)) gX6_listeners_X6_dearestOnes rfl rfl rfl hdX6_dearestOnes ⟨Nat.le_of_ble_eq_true rfl, Nat.le_of_ble_eq_true rfl⟩ [0, 1, 2, 3, 4] rfl (ci := 6) (q0 := 0) rfl rfl hl.1 rfl rfl (Nat.le_of_ble_eq_true rfl) dX6_listeners_66 (fun r_6 hr_6 => ?_)
        subst hr_6
        exact hret (dOs lk P i 3) 69 ls (by simp [lst, lstN, nI_clamp (show i < 2 ^ 31 by omega), nne_1_0, nne_2_0, nne_2_1, nne_2_3, nne_3_0, nne_3_1, c_1, c_2, c_3, c_5]) (rfl) dX6_listeners_69
      by_cases c_7 : (kd i) = nI 2
      · refine lv_tableIn (x := (kd i)) (off := 52) (tgt := 78) hx hb dX6_listeners_26 (by rw [c_7]; decide) (by rw [c_7]; decide) (by rw [c_7]; rfl) (by decide) ?_
        refine lv_iconst (v := nI 0) hx hb dX6_listeners_78 (by decide) ?_
        exact hret (nI 0) 79 ls (by simp [lst, lstN, nI_clamp (show i < 2 ^ 31 by omega), nne_1_0, nne_2_0, nne_2_1, nne_2_3, nne_3_0, nne_3_1, c_1, c_2, c_3, c_5, c_7]) (rfl) dX6_listeners_79
      by_cases c_8 : (kd i) = nI 3
      · refine lv_tableIn (x := (kd i)) (off := 44) (tgt := 70) hx hb dX6_listeners_26 (by rw [c_8]; decide) (by rw [c_8]; decide) (by rw [c_8]; rfl) (by decide) ?_
        refine lv_aload_n hx hb dX6_listeners_70 rfl (lv_at hl 0 rfl) ?_
        refine lv_iload_n hx hb dX6_listeners_71 rfl (lv_at hl 1 rfl) ?_
        refine lv_bipush (v := nI 8) hx hb dX6_listeners_72 (by decide) ?_
        refine ro_callV (As := [.int (nI i), .int (nI 8)]) (rest := []) (b := t) ctx hKK hP (c_X6_likedOnes l g t p_ pk pl ph pc_ pp st sl sc sk sw P pt pd pw pb sd kd lk i (nI 8) (by omega) (by omega)) gX6_listeners_X6_likedOnes rfl rfl rfl hdX6_likedOnes ⟨Nat.le_of_ble_eq_true rfl, Nat.le_of_ble_eq_true rfl⟩ [0, 1, 2, 3, 4] rfl (ci := 6) (q0 := 0) rfl rfl hl.1 rfl rfl (Nat.le_of_ble_eq_true rfl) dX6_listeners_74 (fun r_9 hr_9 => ?_)
        subst hr_9
        exact hret (lkd lk i (nI 8) P) 77 ls (by simp [lst, lstN, nI_clamp (show i < 2 ^ 31 by omega), nne_1_0, nne_2_0, nne_2_1, nne_2_3, nne_3_0, nne_3_1, c_1, c_2, c_3, c_5, c_7, c_8]) (rfl) dX6_listeners_77
      refine lv_tableOut (x := (kd i)) (tgt := 78) hx hb dX6_listeners_26 (swOut 3 (by decide) (fun k hk => by rcases (by omega : k = 0 ∨ k = 1 ∨ k = 2 ∨ k = 3) with rfl | rfl | rfl | rfl <;> assumption)) (by decide) ?_
      refine lv_iconst (v := nI 0) hx hb dX6_listeners_78 (by decide) ?_
      exact hret (nI 0) 79 ls (by simp [lst, lstN, nI_clamp (show i < 2 ^ 31 by omega), nne_1_0, nne_2_0, nne_2_1, nne_2_3, nne_3_0, nne_3_1, c_1, c_2, c_3, c_5, c_7, c_8]) (rfl) dX6_listeners_79
    · refine lv_iconst (v := nI 0) hx hb dX6_listeners_15 (by decide) ?_
      exact hret (nI 0) 16 ls (by simp [lst, c_1, c_2]) (rfl) dX6_listeners_16
set_option maxHeartbeats 4000000 in
set_option maxRecDepth 100000 in
theorem c_X6_knowersByCall (l : Launch) (g : GG) (t : Nat) (p_ : Nat) (pk : Nat) (pl : Nat) (ph : Nat) (pc_ : Nat) (pp : Nat) (st : Nat) (sl : Nat) (sc : Nat) (sk : Nat) (sw : Nat) (P : Nat) (pt : Nat) (pd : Nat) (pw : Nat) (pb : Nat) (sd : Nat) (kd : Nat → Int32) (lk : Nat → Int32) (cv : Int32) (hP8 : P ≤ 8) : Met l yX6_knowersByCall wsX6_knowersByCall ({ frames := 4, cells := 0, slots := 0, locals := 92 } : Room) (ro g [.ref t, .int cv] [(t, .inr (6, [.ref p_, .ref st])), (p_, .inr (1, [.ref pk, .ref pl, .ref ph, .ref pc_, .ref pp, .int (nI P), .int (nI pt), .int (nI pd), .int (nI pw), .int (nI pb)])), (pk, .inl (g.2.1, 8, .inl kd)), (st, .inr (5, [.ref sl, .ref sc, .ref sk, .ref sw, .int (nI sd)])), (sl, .inl (g.2.1, 64, .inl lk))]) (vp_Si (fun rr => rr = kbc kd lk P cv)) 0 0 (fun _ => False) := by
  refine ro_start (cc := cX6_knowersByCall) (maxL := 2) (ty := .int) (by decide) rfl (Nat.le_of_ble_eq_true rfl) (fun p e s m args below meth c Q C hP hret ls hl => ?_)
  obtain ⟨hx, hb, hml, hr, hown, hts, hlk, hKK⟩ := id C
  have hK := hKK.1
  have hown : s.vm.findClass RX6 = some m.cls := hown
  have ctx : CallFix p m c cX6_knowersByCall 2 s args wsX6_knowersByCall RX6 := ⟨hx, hb, hml, hown, hts⟩
  have hl : lv_has ls 2 [(0, .ref t), (1, .int cv)] := hl
  refine lv_iconst (v := nI 1) hx hb dX6_knowersByCall_0 (by decide) ?_
  refine lv_iload_n hx hb dX6_knowersByCall_1 rfl (lv_at hl 1 rfl) ?_
  refine lv_ishl hx hb dX6_knowersByCall_2 ?_
  refine lv_aload_n hx hb dX6_knowersByCall_3 rfl (lv_at hl 0 rfl) ?_
  refine lv_iload_n hx hb dX6_knowersByCall_4 rfl (lv_at hl 1 rfl) ?_
  refine ro_callV (As := [.int cv]) (rest := [.int ((nI 1) <<< (cv &&& 31))]) (b := t) ctx hKK hP (c_X6_listeners l g t p_ pk pl ph pc_ pp st sl sc sk sw P pt pd pw pb sd kd lk cv (by omega)) gX6_knowersByCall_X6_listeners rfl rfl rfl hdX6_listeners ⟨Nat.le_of_ble_eq_true rfl, Nat.le_of_ble_eq_true rfl⟩ [0, 1, 2, 3, 4] rfl (ci := 6) (q0 := 0) rfl rfl hl.1 rfl rfl (Nat.le_of_ble_eq_true rfl) dX6_knowersByCall_5 (fun r_1 hr_1 => ?_)
  subst hr_1
  refine lv_ior hx hb dX6_knowersByCall_8 ?_
  exact hret (((nI 1) <<< (cv &&& 31)) ||| (lst kd lk P cv)) 9 ls (rfl) (rfl) dX6_knowersByCall_9
theorem kX6_afterDay_f9 : (Cond.fieldLink RX6 9 "LastCallersWord$Talk" "plan" "LLastCallersWord$Plan;" : Cond) ∈ wsX6_afterDay := List.mem_cons_of_mem _ aw_80
theorem hX6_afterDay_X6 : ∀ w ∈ wsX60, w ∈ wsX6_afterDay := fun w h => List.mem_cons_of_mem _ (ac_X6 w h)
theorem kX6_afterDay_f19 : (Cond.fieldLink RX6 19 "LastCallersWord$Plan" "persons" "I" : Cond) ∈ wsX6_afterDay := List.mem_cons_of_mem _ aw_252
theorem hX6_afterDay_X1 : ∀ w ∈ wsX10, w ∈ wsX6_afterDay := fun w h => List.mem_cons_of_mem _ (ac_X1 w h)
theorem kX6_afterDay_ini : (Cond.initialized RX7 : Cond) ∈ wsX6_afterDay := List.mem_cons_of_mem _ aw_1
theorem kX6_afterDay_stX7_has : (Cond.static yX7_has : Cond) ∈ wsX6_afterDay := List.mem_cons_of_mem _ aw_267
theorem kX6_afterDay_f29 : (Cond.fieldLink RX6 29 "LastCallersWord$Plan" "kinds" "[I" : Cond) ∈ wsX6_afterDay := List.mem_cons_of_mem _ aw_253
set_option maxHeartbeats 4000000 in
set_option maxRecDepth 100000 in
theorem c_X6_afterDay (l : Launch) (g : GG) (t : Nat) (p_ : Nat) (pk : Nat) (pl : Nat) (ph : Nat) (pc_ : Nat) (pp : Nat) (st : Nat) (sl : Nat) (sc : Nat) (sk : Nat) (sw : Nat) (P : Nat) (pt : Nat) (pd : Nat) (pw : Nat) (pb : Nat) (sd : Nat) (kd : Nat → Int32) (lk : Nat → Int32) (kn : Int32) (hP8 : P ≤ 8) : Met l yX6_afterDay wsX6_afterDay ({ frames := 2, cells := 0, slots := 0, locals := 47 } : Room) (ro g [.ref t, .int kn] [(t, .inr (6, [.ref p_, .ref st])), (p_, .inr (1, [.ref pk, .ref pl, .ref ph, .ref pc_, .ref pp, .int (nI P), .int (nI pt), .int (nI pd), .int (nI pw), .int (nI pb)])), (pk, .inl (g.2.1, 8, .inl kd)), (st, .inr (5, [.ref sl, .ref sc, .ref sk, .ref sw, .int (nI sd)])), (sl, .inl (g.2.1, 64, .inl lk))]) (vp_Si (fun rr => rr = aDay kd lk P kn)) 0 0 (fun _ => False) := by
  refine ro_start (cc := cX6_afterDay) (maxL := 4) (ty := .int) (by decide) rfl (Nat.le_of_ble_eq_true rfl) (fun p e s m args below meth c Q C hP hret ls hl => ?_)
  obtain ⟨hx, hb, hml, hr, hown, hts, hlk, hKK⟩ := id C
  have hK := hKK.1
  have hown : s.vm.findClass RX6 = some m.cls := hown
  have ctx : CallFix p m c cX6_afterDay 4 s args wsX6_afterDay RX6 := ⟨hx, hb, hml, hown, hts⟩
  have hl : lv_has ls 4 [(0, .ref t), (1, .int kn)] := hl
  refine lv_iconst (v := nI 0) hx hb dX6_afterDay_0 (by decide) ?_
  refine lv_istore_n (lv' := [(2, .int (nI 0)), (0, .ref t), (1, .int kn)]) hx hb dX6_afterDay_1 rfl hl (by decide) rfl (fun ls hl => ?_)
  refine lv_iconst (v := nI 0) hx hb dX6_afterDay_2 (by decide) ?_
  refine lv_istore_n (lv' := [(3, .int (nI 0)), (2, .int (nI 0)), (0, .ref t), (1, .int kn)]) hx hb dX6_afterDay_3 rfl hl (by decide) rfl (fun ls hl => ?_)
  have LP4 : ∀ (fu : Nat) (j : Nat) (x2 : Int32), P - j < fu → (j ≤ P) → (x2 = aD kd lk P kn j) → ∀ (ls : Array Slot), lv_has ls 4 [(3, .int (nI j)), (2, .int x2), (0, .ref t), (1, .int kn)] → W p l e ({ frames := 2, cells := 0, slots := 0, locals := 47 } : Room) s m args below meth c s.heap [] 0 0 Q (F0 m 4 ls []) := by
    intro fu
    induction fu with
    | zero => intro j x2 hfu; exact absurd hfu (Nat.not_lt_zero _)
    | succ fu ih4 =>
      intro j x2 hfu hj e2 ls hl
      refine lv_iload_n hx hb dX6_afterDay_4 rfl (lv_at hl 0 rfl) ?_
      refine lv_aload_n hx hb dX6_afterDay_5 rfl (lv_at hl 2 rfl) ?_
      refine va_get (D := g.1) (cl := vwCl) (ci := 6) (v := .ref p_) (C := RX6) (T := TX6) (N := 2) hx hb hts hX6_afterDay_X6 hown hK hP 0 rfl rfl 0 (by decide) (hts _ kX6_afterDay_f9) (fun _ h9 => h9) rfl dX6_afterDay_6 ?_
      refine va_get (D := g.1) (cl := vwCl) (ci := 1) (v := .int (nI P)) (C := RX1) (T := TX1) (N := 10) hx hb hts hX6_afterDay_X1 hown hK hP 1 rfl rfl 5 (by decide) (hts _ kX6_afterDay_f19) (fun _ h9 => h9) rfl dX6_afterDay_9 ?_
      refine lv_icmp_ge (tgt := 58) hx hb dX6_afterDay_12 (by decide) (fun c_1 => ?_) (fun c_1 => ?_)
      · replace c_1 : P ≤ j := (nI_leI (a := P) (b := j) (by omega) (by omega)).mp c_1
        refine lv_iload_n hx hb dX6_afterDay_58 rfl (lv_at hl 3 rfl) ?_
        refine lv_iload_n hx hb dX6_afterDay_59 rfl (lv_at hl 1 rfl) ?_
        refine lv_ior hx hb dX6_afterDay_60 ?_
        exact hret (kn ||| x2) 61 ls (by rw [e2, show j = P by omega]; rfl) (rfl) dX6_afterDay_61
      · replace c_1 : ¬ P ≤ j := fun h => c_1 ((nI_leI (a := P) (b := j) (by omega) (by omega)).mpr h)
        refine lv_iload_n hx hb dX6_afterDay_15 rfl (lv_at hl 3 rfl) ?_
        refine lv_iload_n hx hb dX6_afterDay_16 rfl (lv_at hl 0 rfl) ?_
        refine ro_callSN (As := [.int kn, .int (nI j)]) (rest := []) ctx hKK hP (c_X7_has l g kn (nI j)) gX6_afterDay_X7_has_n55 (hKK.2.2.1) (hts _ kX6_afterDay_ini) (hts _ kX6_afterDay_stX7_has) rfl rfl rfl hdX7_has ⟨Nat.le_of_ble_eq_true rfl, Nat.le_of_ble_eq_true rfl⟩ [] rfl hl.1 rfl rfl (Nat.le_of_ble_eq_true rfl) dX6_afterDay_17 (fun r_2 hr_2 => ?_)
        subst hr_2
        refine lv_if_eq (tgt := 52) hx hb dX6_afterDay_20 (by decide) (fun c_3 => ?_) (fun c_3 => ?_)
        · replace c_3 := bI_f c_3
          refine lv_iinc (v := nI (j + 1)) (lv' := [(3, .int (nI (j + 1))), (2, .int x2), (0, .ref t), (1, .int kn)]) hx hb dX6_afterDay_52 hl (k := 0) rfl (iincK j 1) (by decide) rfl (fun ls hl => ?_)
          refine lv_goto (tgt := 4) hx hb dX6_afterDay_55 (by decide) ?_
          exact ih4 (j + 1) x2 (by omega) (by omega) (by simp [aD, ← e2, c_1, c_3]) ls (lv_sub hl [0, 1, 2, 3] rfl)
        · replace c_3 := bI_t c_3
          refine lv_aload_n hx hb dX6_afterDay_23 rfl (lv_at hl 2 rfl) ?_
          refine va_get (D := g.1) (cl := vwCl) (ci := 6) (v := .ref p_) (C := RX6) (T := TX6) (N := 2) hx hb hts hX6_afterDay_X6 hown hK hP 0 rfl rfl 0 (by decide) (hts _ kX6_afterDay_f9) (fun _ h9 => h9) rfl dX6_afterDay_24 ?_
          refine va_get (D := g.1) (cl := vwCl) (ci := 1) (v := .ref pk) (C := RX1) (T := TX1) (N := 10) hx hb hts hX6_afterDay_X1 hown hK hP 1 rfl rfl 0 (by decide) (hts _ kX6_afterDay_f29) (fun _ h9 => h9) rfl dX6_afterDay_27 ?_
          refine lv_iload_n hx hb dX6_afterDay_30 rfl (lv_at hl 0 rfl) ?_
          refine ald_i (D := g.1) (cl := vwCl) (f := kd) (i := j) (n := 8) hx hb hK hP 2 0 rfl rfl (by omega) (by decide) dX6_afterDay_31 ?_
          refine lv_iconst (v := nI 1) hx hb dX6_afterDay_32 (by decide) ?_
          refine lv_icmp_ne (tgt := 52) hx hb dX6_afterDay_33 (by decide) (fun c_4 => ?_) (fun c_4 => ?_)
          · refine lv_iinc (v := nI (j + 1)) (lv' := [(3, .int (nI (j + 1))), (2, .int x2), (0, .ref t), (1, .int kn)]) hx hb dX6_afterDay_52 hl (k := 0) rfl (iincK j 1) (by decide) rfl (fun ls hl => ?_)
            refine lv_goto (tgt := 4) hx hb dX6_afterDay_55 (by decide) ?_
            exact ih4 (j + 1) x2 (by omega) (by omega) (by simp [aD, ← e2, c_1, c_3, c_4]) ls (lv_sub hl [0, 1, 2, 3] rfl)
          · refine lv_iload_n hx hb dX6_afterDay_36 rfl (lv_at hl 1 rfl) ?_
            refine lv_aload_n hx hb dX6_afterDay_37 rfl (lv_at hl 2 rfl) ?_
            refine lv_iload_n hx hb dX6_afterDay_38 rfl (lv_at hl 0 rfl) ?_
            refine lv_aload_n hx hb dX6_afterDay_39 rfl (lv_at hl 2 rfl) ?_
            refine ro_callV (As := []) (rest := [.int (nI j), .ref t, .int x2]) (b := t) ctx hKK hP (c_X6_everyone l g t p_ pk pl ph pc_ pp st sl sc sk sw P pt pd pw pb sd kd lk (by omega)) gX6_afterDay_X6_everyone rfl rfl rfl hdX6_everyone ⟨Nat.le_of_ble_eq_true rfl, Nat.le_of_ble_eq_true rfl⟩ [0, 1, 2, 3, 4] rfl (ci := 6) (q0 := 0) rfl rfl hl.1 rfl rfl (Nat.le_of_ble_eq_true rfl) dX6_afterDay_40 (fun r_5 hr_5 => ?_)
            subst hr_5
            refine lv_iload_n hx hb dX6_afterDay_43 rfl (lv_at hl 3 rfl) ?_
            refine lv_iconst (v := (-1)) hx hb dX6_afterDay_44 (by decide) ?_
            refine lv_ixor hx hb dX6_afterDay_45 ?_
            refine lv_iand hx hb dX6_afterDay_46 ?_
            refine ro_callV (As := [.int (nI j), .int ((allB P) &&& (kn ^^^ (-1)))]) (rest := [.int x2]) (b := t) ctx hKK hP (c_X6_dearestOf l g t p_ pk pl ph pc_ pp st sl sc sk sw P pt pd pw pb sd kd lk j ((allB P) &&& (kn ^^^ (-1))) (by omega) (by omega)) gX6_afterDay_X6_dearestOf rfl rfl rfl hdX6_dearestOf ⟨Nat.le_of_ble_eq_true rfl, Nat.le_of_ble_eq_true rfl⟩ [0, 1, 2, 3, 4] rfl (ci := 6) (q0 := 0) rfl rfl hl.1 rfl rfl (Nat.le_of_ble_eq_true rfl) dX6_afterDay_47 (fun r_6 hr_6 => ?_)
            subst hr_6
            refine lv_ior hx hb dX6_afterDay_50 ?_
            refine lv_istore_n (lv' := [(2, .int (x2 ||| ((dO lk j ((allB P) &&& (kn ^^^ (-1))) P).1))), (3, .int (nI j)), (0, .ref t), (1, .int kn)]) hx hb dX6_afterDay_51 rfl hl (by decide) rfl (fun ls hl => ?_)
            refine lv_iinc (v := nI (j + 1)) (lv' := [(3, .int (nI (j + 1))), (2, .int (x2 ||| ((dO lk j ((allB P) &&& (kn ^^^ (-1))) P).1))), (0, .ref t), (1, .int kn)]) hx hb dX6_afterDay_52 hl (k := 1) rfl (iincK j 1) (by decide) rfl (fun ls hl => ?_)
            refine lv_goto (tgt := 4) hx hb dX6_afterDay_55 (by decide) ?_
            exact ih4 (j + 1) (x2 ||| ((dO lk j ((allB P) &&& (kn ^^^ (-1))) P).1)) (by omega) (by omega) (by simp [aD, ← e2, c_1, c_3, c_4]) ls (lv_sub hl [0, 1, 2, 3] rfl)
  exact LP4 (P + 1) 0 (nI 0) (by omega) (by omega) (rfl) ls (lv_sub hl [0, 1, 2, 3] rfl)
set_option maxHeartbeats 4000000 in
set_option maxRecDepth 100000 in
theorem c_X6_afterDays (l : Launch) (g : GG) (t : Nat) (p_ : Nat) (pk : Nat) (pl : Nat) (ph : Nat) (pc_ : Nat) (pp : Nat) (st : Nat) (sl : Nat) (sc : Nat) (sk : Nat) (sw : Nat) (P : Nat) (pt : Nat) (pd : Nat) (pw : Nat) (pb : Nat) (sd : Nat) (kd : Nat → Int32) (lk : Nat → Int32) (kn : Int32) (n : Nat) (hP8 : P ≤ 8) (hn : n ≤ 20) : Met l yX6_afterDays wsX6_afterDays ({ frames := 3, cells := 0, slots := 0, locals := 70 } : Room) (ro g [.ref t, .int kn, .int (nI n)] [(t, .inr (6, [.ref p_, .ref st])), (p_, .inr (1, [.ref pk, .ref pl, .ref ph, .ref pc_, .ref pp, .int (nI P), .int (nI pt), .int (nI pd), .int (nI pw), .int (nI pb)])), (pk, .inl (g.2.1, 8, .inl kd)), (st, .inr (5, [.ref sl, .ref sc, .ref sk, .ref sw, .int (nI sd)])), (sl, .inl (g.2.1, 64, .inl lk))]) (vp_Si (fun rr => rr = aDs kd lk P kn n)) 0 0 (fun _ => False) := by
  refine ro_start (cc := cX6_afterDays) (maxL := 5) (ty := .int) (by decide) rfl (Nat.le_of_ble_eq_true rfl) (fun p e s m args below meth c Q C hP hret ls hl => ?_)
  obtain ⟨hx, hb, hml, hr, hown, hts, hlk, hKK⟩ := id C
  have hK := hKK.1
  have hown : s.vm.findClass RX6 = some m.cls := hown
  have ctx : CallFix p m c cX6_afterDays 5 s args wsX6_afterDays RX6 := ⟨hx, hb, hml, hown, hts⟩
  have hl : lv_has ls 5 [(0, .ref t), (1, .int kn), (2, .int (nI n))] := hl
  refine lv_iload_n hx hb dX6_afterDays_0 rfl (lv_at hl 1 rfl) ?_
  refine lv_istore_n (lv' := [(3, .int kn), (0, .ref t), (1, .int kn), (2, .int (nI n))]) hx hb dX6_afterDays_1 rfl hl (by decide) rfl (fun ls hl => ?_)
  refine lv_iconst (v := nI 0) hx hb dX6_afterDays_2 (by decide) ?_
  refine lv_istore (lv' := [(4, .int (nI 0)), (3, .int kn), (0, .ref t), (1, .int kn), (2, .int (nI n))]) hx hb dX6_afterDays_3 hl (by decide) rfl (fun ls hl => ?_)
  have LP5 : ∀ (fu : Nat) (j : Nat) (x3 : Int32), n - j < fu → (j ≤ n) → (x3 = aDs kd lk P kn j) → ∀ (ls : Array Slot), lv_has ls 5 [(4, .int (nI j)), (3, .int x3), (0, .ref t), (1, .int kn), (2, .int (nI n))] → W p l e ({ frames := 3, cells := 0, slots := 0, locals := 70 } : Room) s m args below meth c s.heap [] 0 0 Q (F0 m 5 ls []) := by
    intro fu
    induction fu with
    | zero => intro j x3 hfu; exact absurd hfu (Nat.not_lt_zero _)
    | succ fu ih5 =>
      intro j x3 hfu hj e3 ls hl
      refine lv_iload hx hb dX6_afterDays_5 (lv_at hl 0 rfl) ?_
      refine lv_iload_n hx hb dX6_afterDays_7 rfl (lv_at hl 4 rfl) ?_
      refine lv_icmp_ge (tgt := 23) hx hb dX6_afterDays_8 (by decide) (fun c_1 => ?_) (fun c_1 => ?_)
      · replace c_1 : n ≤ j := (nI_leI (a := n) (b := j) (by omega) (by omega)).mp c_1
        refine lv_iload_n hx hb dX6_afterDays_23 rfl (lv_at hl 1 rfl) ?_
        exact hret x3 24 ls (by rw [e3, show j = n by omega]) (rfl) dX6_afterDays_24
      · replace c_1 : ¬ n ≤ j := fun h => c_1 ((nI_leI (a := n) (b := j) (by omega) (by omega)).mpr h)
        refine lv_aload_n hx hb dX6_afterDays_11 rfl (lv_at hl 2 rfl) ?_
        refine lv_iload_n hx hb dX6_afterDays_12 rfl (lv_at hl 1 rfl) ?_
        refine ro_callV (As := [.int x3]) (rest := []) (b := t) ctx hKK hP (c_X6_afterDay l g t p_ pk pl ph pc_ pp st sl sc sk sw P pt pd pw pb sd kd lk x3 (by omega)) gX6_afterDays_X6_afterDay rfl rfl rfl hdX6_afterDay ⟨Nat.le_of_ble_eq_true rfl, Nat.le_of_ble_eq_true rfl⟩ [0, 1, 2, 3, 4] rfl (ci := 6) (q0 := 0) rfl rfl hl.1 rfl rfl (Nat.le_of_ble_eq_true rfl) dX6_afterDays_13 (fun r_2 hr_2 => ?_)
        subst hr_2
        refine lv_istore_n (lv' := [(3, .int (aDay kd lk P x3)), (4, .int (nI j)), (0, .ref t), (1, .int kn), (2, .int (nI n))]) hx hb dX6_afterDays_16 rfl hl (by decide) rfl (fun ls hl => ?_)
        refine lv_iinc (v := nI (j + 1)) (lv' := [(4, .int (nI (j + 1))), (3, .int (aDay kd lk P x3)), (0, .ref t), (1, .int kn), (2, .int (nI n))]) hx hb dX6_afterDays_17 hl (k := 1) rfl (iincK j 1) (by decide) rfl (fun ls hl => ?_)
        refine lv_goto (tgt := 5) hx hb dX6_afterDays_20 (by decide) ?_
        exact ih5 (j + 1) (aDay kd lk P x3) (by omega) (by omega) (by simp [aDs, ← e3]) ls (lv_sub hl [0, 1, 2, 3, 4] rfl)
  exact LP5 (n + 1) 0 kn (by omega) (by omega) (rfl) ls (lv_sub hl [0, 1, 2, 3, 4] rfl)
