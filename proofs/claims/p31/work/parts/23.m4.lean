theorem kX8_rankOf_f143 : (Cond.fieldLink RX8 143 "LastCallersWordModel" "words" "I" : Cond) ∈ wsX8_rankOf := List.mem_cons_of_mem _ aw_326
theorem hX8_rankOf_X8 : ∀ w ∈ wsX80, w ∈ wsX8_rankOf := fun w h => List.mem_cons_of_mem _ (ac_X8 w h)
theorem kX8_rankOf_f16 : (Cond.fieldLink RX8 16 "LastCallersWordModel" "parts" "[I" : Cond) ∈ wsX8_rankOf := List.mem_cons_of_mem _ aw_290
set_option maxHeartbeats 400000 in
set_option maxRecDepth 100000 in
theorem c_X8_rankOf (l : Launch) (g : GG) (o : Nat) (a : Nat → Nat) (sc : Nat → Nat) (ar : Nat → Nat → Int32) (w : Nat) (hW : sc 4 ≤ 6) (hw : w < 6) : Met l yX8_rankOf wsX8_rankOf ({ frames := 0, cells := 0, slots := 0, locals := 0 } : Room) (ro g [.ref o, .int (nI w)] (mW g o a sc ar)) (vp_Si (fun rr => rr = nI (rkN (ar 5) w (sc 4)))) 0 0 (fun _ => False) := by
  refine ro_start (cc := cX8_rankOf) (maxL := 4) (ty := .int) (by decide) rfl (Nat.le_of_ble_eq_true rfl) (fun p e s m args below meth c Q C hP hret ls hl => ?_)
  obtain ⟨hx, hb, hml, hr, hown, hts, hlk, hKK⟩ := id C
  have hK := hKK.1
  have hown : s.vm.findClass RX8 = some m.cls := hown
  have ctx : CallFix p m c cX8_rankOf 4 s args wsX8_rankOf RX8 := ⟨hx, hb, hml, hown, hts⟩
  have hl : lv_has ls 4 [(0, .ref o), (1, .int (nI w))] := hl
  refine lv_iconst (v := nI 0) hx hb dX8_rankOf_0 (by decide) ?_
  refine lv_istore_n (lv' := [(2, .int (nI 0)), (0, .ref o), (1, .int (nI w))]) hx hb dX8_rankOf_1 rfl hl (by decide) rfl (fun ls hl => ?_)
  refine lv_iconst (v := nI 0) hx hb dX8_rankOf_2 (by decide) ?_
  refine lv_istore_n (lv' := [(3, .int (nI 0)), (2, .int (nI 0)), (0, .ref o), (1, .int (nI w))]) hx hb dX8_rankOf_3 rfl hl (by decide) rfl (fun ls hl => ?_)
  have LP4 : ∀ (fu : Nat) (j : Nat) (x2 : Nat), sc 4 - j < fu → (j ≤ sc 4) → (x2 = rkN (ar 5) w j) → ∀ (ls : Array Slot), lv_has ls 4 [(3, .int (nI j)), (2, .int (nI x2)), (0, .ref o), (1, .int (nI w))] → W p l e ({ frames := 0, cells := 0, slots := 0, locals := 0 } : Room) s m args below meth c s.heap [] 0 0 Q (F0 m 4 ls []) := by
    intro fu
    induction fu with
    | zero => intro j x2 hfu; exact absurd hfu (Nat.not_lt_zero _)
    | succ fu ih4 =>
      intro j x2 hfu hj e2 ls hl
      refine lv_iload_n hx hb dX8_rankOf_4 rfl (lv_at hl 0 rfl) ?_
      refine lv_aload_n hx hb dX8_rankOf_5 rfl (lv_at hl 2 rfl) ?_
      refine va_get (D := g.1) (cl := vwCl) (ci := 8) (v := .int (nI (sc 4))) (C := RX8) (T := TX8) (N := 29) hx hb hts hX8_rankOf_X8 hown hK hP 0 rfl rfl 4 (by decide) (hts _ kX8_rankOf_f143) (fun _ h9 => h9) rfl dX8_rankOf_6 ?_
      refine lv_icmp_ge (tgt := 61) hx hb dX8_rankOf_9 (by decide) (fun c_1 => ?_) (fun c_1 => ?_)
      · replace c_1 : (sc 4) ≤ j := (nI_leI (a := sc 4) (b := j) (by omega) (by omega)).mp c_1
        refine lv_iload_n hx hb dX8_rankOf_61 rfl (lv_at hl 1 rfl) ?_
        exact hret (nI x2) 62 ls (by rw [e2, show j = sc 4 by omega]) (rfl) dX8_rankOf_62
      · replace c_1 : ¬ (sc 4) ≤ j := fun h => c_1 ((nI_leI (a := sc 4) (b := j) (by omega) (by omega)).mpr h)
        refine lv_iload_n hx hb dX8_rankOf_12 rfl (lv_at hl 1 rfl) ?_
        refine lv_aload_n hx hb dX8_rankOf_13 rfl (lv_at hl 2 rfl) ?_
        refine va_get (D := g.1) (cl := vwCl) (ci := 8) (v := .ref (a 5)) (C := RX8) (T := TX8) (N := 29) hx hb hts hX8_rankOf_X8 hown hK hP 0 rfl rfl 5 (by decide) (hts _ kX8_rankOf_f16) (fun _ h9 => h9) rfl dX8_rankOf_14 ?_
        refine lv_iload_n hx hb dX8_rankOf_17 rfl (lv_at hl 0 rfl) ?_
        refine ald_i (D := g.1) (cl := vwCl) (f := ar 5) (i := j) (n := 6) hx hb hK hP 3 0 rfl rfl (by omega) (by decide) dX8_rankOf_18 ?_
        refine lv_aload_n hx hb dX8_rankOf_19 rfl (lv_at hl 2 rfl) ?_
        refine va_get (D := g.1) (cl := vwCl) (ci := 8) (v := .ref (a 5)) (C := RX8) (T := TX8) (N := 29) hx hb hts hX8_rankOf_X8 hown hK hP 0 rfl rfl 5 (by decide) (hts _ kX8_rankOf_f16) (fun _ h9 => h9) rfl dX8_rankOf_20 ?_
        refine lv_iload_n hx hb dX8_rankOf_23 rfl (lv_at hl 3 rfl) ?_
        refine ald_i (D := g.1) (cl := vwCl) (f := ar 5) (i := w) (n := 6) hx hb hK hP 3 0 rfl rfl (by omega) (by decide) dX8_rankOf_24 ?_
        refine lv_icmp_gt (tgt := 48) hx hb dX8_rankOf_25 (by decide) (fun c_2 => ?_) (fun c_2 => ?_)
        · refine lv_iconst (v := nI 1) hx hb dX8_rankOf_48 (by decide) ?_
          refine lv_goto (tgt := 53) hx hb dX8_rankOf_49 (by decide) ?_
          refine lv_iadd hx hb dX8_rankOf_53 ?_
          refine lv_is (nI_add x2 1) ?_
          refine lv_istore_n (lv' := [(2, .int (nI (x2 + 1))), (3, .int (nI j)), (0, .ref o), (1, .int (nI w))]) hx hb dX8_rankOf_54 rfl hl (by decide) rfl (fun ls hl => ?_)
          refine lv_iinc (v := nI (j + 1)) (lv' := [(3, .int (nI (j + 1))), (2, .int (nI (x2 + 1))), (0, .ref o), (1, .int (nI w))]) hx hb dX8_rankOf_55 hl (k := 1) rfl (iincK j 1) (by decide) rfl (fun ls hl => ?_)
          refine lv_goto (tgt := 4) hx hb dX8_rankOf_58 (by decide) ?_
          exact ih4 (j + 1) (x2 + 1) (by omega) (by omega) (by rw [rkN, ← e2]; first | (rw [if_pos (Or.inl (by assumption))]; done) | (simp [c_1, c_2]; done)) ls (lv_sub hl [0, 1, 2, 3] rfl)
        · refine lv_aload_n hx hb dX8_rankOf_28 rfl (lv_at hl 2 rfl) ?_
          refine va_get (D := g.1) (cl := vwCl) (ci := 8) (v := .ref (a 5)) (C := RX8) (T := TX8) (N := 29) hx hb hts hX8_rankOf_X8 hown hK hP 0 rfl rfl 5 (by decide) (hts _ kX8_rankOf_f16) (fun _ h9 => h9) rfl dX8_rankOf_29 ?_
          refine lv_iload_n hx hb dX8_rankOf_32 rfl (lv_at hl 0 rfl) ?_
          refine ald_i (D := g.1) (cl := vwCl) (f := ar 5) (i := j) (n := 6) hx hb hK hP 3 0 rfl rfl (by omega) (by decide) dX8_rankOf_33 ?_
          refine lv_aload_n hx hb dX8_rankOf_34 rfl (lv_at hl 2 rfl) ?_
          refine va_get (D := g.1) (cl := vwCl) (ci := 8) (v := .ref (a 5)) (C := RX8) (T := TX8) (N := 29) hx hb hts hX8_rankOf_X8 hown hK hP 0 rfl rfl 5 (by decide) (hts _ kX8_rankOf_f16) (fun _ h9 => h9) rfl dX8_rankOf_35 ?_
          refine lv_iload_n hx hb dX8_rankOf_38 rfl (lv_at hl 3 rfl) ?_
          refine ald_i (D := g.1) (cl := vwCl) (f := ar 5) (i := w) (n := 6) hx hb hK hP 3 0 rfl rfl (by omega) (by decide) dX8_rankOf_39 ?_
          refine lv_icmp_ne (tgt := 52) hx hb dX8_rankOf_40 (by decide) (fun c_3 => ?_) (fun c_3 => ?_)
          · refine lv_iconst (v := nI 0) hx hb dX8_rankOf_52 (by decide) ?_
            refine lv_iadd hx hb dX8_rankOf_53 ?_
            refine lv_is (nI_add x2 0) ?_
            refine lv_istore_n (lv' := [(2, .int (nI (x2 + 0))), (3, .int (nI j)), (0, .ref o), (1, .int (nI w))]) hx hb dX8_rankOf_54 rfl hl (by decide) rfl (fun ls hl => ?_)
            refine lv_iinc (v := nI (j + 1)) (lv' := [(3, .int (nI (j + 1))), (2, .int (nI (x2 + 0))), (0, .ref o), (1, .int (nI w))]) hx hb dX8_rankOf_55 hl (k := 1) rfl (iincK j 1) (by decide) rfl (fun ls hl => ?_)
            refine lv_goto (tgt := 4) hx hb dX8_rankOf_58 (by decide) ?_
            exact ih4 (j + 1) (x2 + 0) (by omega) (by omega) (by rw [rkN, ← e2]; first | (rw [if_pos (Or.inl (by assumption))]; done) | (simp [c_1, c_2, c_3]; done)) ls (lv_sub hl [0, 1, 2, 3] rfl)
          · refine lv_iload_n hx hb dX8_rankOf_43 rfl (lv_at hl 0 rfl) ?_
            refine lv_iload_n hx hb dX8_rankOf_44 rfl (lv_at hl 3 rfl) ?_
            refine lv_icmp_ge (tgt := 52) hx hb dX8_rankOf_45 (by decide) (fun c_4 => ?_) (fun c_4 => ?_)
            · replace c_4 : w ≤ j := (nI_leI (a := w) (b := j) (by omega) (by omega)).mp c_4
              refine lv_iconst (v := nI 0) hx hb dX8_rankOf_52 (by decide) ?_
              refine lv_iadd hx hb dX8_rankOf_53 ?_
              refine lv_is (nI_add x2 0) ?_
              refine lv_istore_n (lv' := [(2, .int (nI (x2 + 0))), (3, .int (nI j)), (0, .ref o), (1, .int (nI w))]) hx hb dX8_rankOf_54 rfl hl (by decide) rfl (fun ls hl => ?_)
              refine lv_iinc (v := nI (j + 1)) (lv' := [(3, .int (nI (j + 1))), (2, .int (nI (x2 + 0))), (0, .ref o), (1, .int (nI w))]) hx hb dX8_rankOf_55 hl (k := 1) rfl (iincK j 1) (by decide) rfl (fun ls hl => ?_)
              refine lv_goto (tgt := 4) hx hb dX8_rankOf_58 (by decide) ?_
              exact ih4 (j + 1) (x2 + 0) (by omega) (by omega) (by rw [rkN, ← e2]; first | (rw [if_pos (Or.inl (by assumption))]; done) | (simp [c_1, c_2, c_3, c_4]; done)) ls (lv_sub hl [0, 1, 2, 3] rfl)
            · replace c_4 : ¬ w ≤ j := fun h => c_4 ((nI_leI (a := w) (b := j) (by omega) (by omega)).mpr h)
              refine lv_iconst (v := nI 1) hx hb dX8_rankOf_48 (by decide) ?_
              refine lv_goto (tgt := 53) hx hb dX8_rankOf_49 (by decide) ?_
              refine lv_iadd hx hb dX8_rankOf_53 ?_
              refine lv_is (nI_add x2 1) ?_
              refine lv_istore_n (lv' := [(2, .int (nI (x2 + 1))), (3, .int (nI j)), (0, .ref o), (1, .int (nI w))]) hx hb dX8_rankOf_54 rfl hl (by decide) rfl (fun ls hl => ?_)
              refine lv_iinc (v := nI (j + 1)) (lv' := [(3, .int (nI (j + 1))), (2, .int (nI (x2 + 1))), (0, .ref o), (1, .int (nI w))]) hx hb dX8_rankOf_55 hl (k := 1) rfl (iincK j 1) (by decide) rfl (fun ls hl => ?_)
              refine lv_goto (tgt := 4) hx hb dX8_rankOf_58 (by decide) ?_
              exact ih4 (j + 1) (x2 + 1) (by omega) (by omega) (by rw [rkN, ← e2]; first | (rw [if_pos (Or.inl (by assumption))]; done) | (simp [c_1, c_2, c_3, c_4]; done)) ls (lv_sub hl [0, 1, 2, 3] rfl)
  exact LP4 (sc 4 + 1) 0 0 (by omega) (by omega) (rfl) ls (lv_sub hl [0, 1, 2, 3] rfl)
theorem kX8_guess_f143 : (Cond.fieldLink RX8 143 "LastCallersWordModel" "words" "I" : Cond) ∈ wsX8_guess := List.mem_cons_of_mem _ aw_326
theorem hX8_guess_X8 : ∀ w ∈ wsX80, w ∈ wsX8_guess := fun w h => List.mem_cons_of_mem _ (ac_X8 w h)
set_option maxHeartbeats 400000 in
set_option maxRecDepth 100000 in
theorem c_X8_guess (l : Launch) (g : GG) (o : Nat) (a : Nat → Nat) (sc : Nat → Nat) (ar : Nat → Nat → Int32) (kv : Int32) (hW : sc 4 ≤ 6) : Met l yX8_guess wsX8_guess ({ frames := 1, cells := 0, slots := 0, locals := 23 } : Room) (ro g [.ref o, .int kv] (mW g o a sc ar)) (vp_Si (fun rr => rr = xGuess (fun _ => ar 5) (fun _ => sc 4) kv)) 0 0 (fun _ => False) := by
  refine ro_start (cc := cX8_guess) (maxL := 3) (ty := .int) (by decide) rfl (Nat.le_of_ble_eq_true rfl) (fun p e s m args below meth c Q C hP hret ls hl => ?_)
  obtain ⟨hx, hb, hml, hr, hown, hts, hlk, hKK⟩ := id C
  have hK := hKK.1
  have hown : s.vm.findClass RX8 = some m.cls := hown
  have ctx : CallFix p m c cX8_guess 3 s args wsX8_guess RX8 := ⟨hx, hb, hml, hown, hts⟩
  have hl : lv_has ls 3 [(0, .ref o), (1, .int kv)] := hl
  refine lv_iload_n hx hb dX8_guess_0 rfl (lv_at hl 1 rfl) ?_
  refine lv_if_ge (tgt := 6) hx hb dX8_guess_1 (by decide) (fun c_1 => ?_) (fun c_1 => ?_)
  · have c0 : 0 ≤ kv := c_1
    refine lv_iconst (v := nI 0) hx hb dX8_guess_6 (by decide) ?_
    refine lv_istore_n (lv' := [(2, .int (nI 0)), (0, .ref o), (1, .int kv)]) hx hb dX8_guess_7 rfl hl (by decide) rfl (fun ls hl => ?_)
    have LP8 : ∀ (fu : Nat) (j : Nat), sc 4 - j < fu → (j ≤ sc 4) → (guL (ar 5) (sc 4) kv (sc 4) = guL (ar 5) (sc 4) kv (sc 4 - j)) → ∀ (ls : Array Slot), lv_has ls 3 [(2, .int (nI j)), (0, .ref o), (1, .int kv)] → W p l e ({ frames := 1, cells := 0, slots := 0, locals := 23 } : Room) s m args below meth c s.heap [] 0 0 Q (F0 m 8 ls []) := by
      intro fu
      induction fu with
      | zero => intro j hfu; exact absurd hfu (Nat.not_lt_zero _)
      | succ fu ih8 =>
        intro j hfu hj eg ls hl
        refine lv_iload_n hx hb dX8_guess_8 rfl (lv_at hl 0 rfl) ?_
        refine lv_aload_n hx hb dX8_guess_9 rfl (lv_at hl 1 rfl) ?_
        refine va_get (D := g.1) (cl := vwCl) (ci := 8) (v := .int (nI (sc 4))) (C := RX8) (T := TX8) (N := 29) hx hb hts hX8_guess_X8 hown hK hP 0 rfl rfl 4 (by decide) (hts _ kX8_guess_f143) (fun _ h9 => h9) rfl dX8_guess_10 ?_
        refine lv_icmp_ge (tgt := 33) hx hb dX8_guess_13 (by decide) (fun c_2 => ?_) (fun c_2 => ?_)
        · replace c_2 : (sc 4) ≤ j := (nI_leI (a := sc 4) (b := j) (by omega) (by omega)).mp c_2
          refine lv_bipush (v := (-4)) hx hb dX8_guess_33 (by decide) ?_
          exact hret (-4) 35 ls (by rw [xGuess, if_pos c0, eg, show sc 4 - j = 0 by omega, guL]) (rfl) dX8_guess_35
        · replace c_2 : ¬ (sc 4) ≤ j := fun h => c_2 ((nI_leI (a := sc 4) (b := j) (by omega) (by omega)).mpr h)
          refine lv_aload_n hx hb dX8_guess_16 rfl (lv_at hl 1 rfl) ?_
          refine lv_iload_n hx hb dX8_guess_17 rfl (lv_at hl 0 rfl) ?_
          refine ro_callV0 (As := [.int (nI j)]) (rest := []) (b := o) ctx hKK hP (c_X8_rankOf l g o a sc ar j (show (sc 4) ≤ 6 from by omega) (show j < 6 from by omega)) gX8_guess_X8_rankOf rfl rfl rfl hdX8_rankOf ⟨Nat.le_of_ble_eq_true rfl, Nat.le_of_ble_eq_true rfl⟩ (ci := 8) (q0 := 0) rfl rfl hl.1 rfl rfl (Nat.le_of_ble_eq_true rfl) dX8_guess_18 (fun r_3 hr_3 => ?_)
          have hr_3 : r_3 = nI (rkN ((ar 5)) j ((sc 4))) := hr_3
          subst hr_3
          refine lv_iload_n hx hb dX8_guess_21 rfl (lv_at hl 2 rfl) ?_
          refine lv_icmp_ne (tgt := 27) hx hb dX8_guess_22 (by decide) (fun c_4 => ?_) (fun c_4 => ?_)
          · refine lv_iinc (v := nI (j + 1)) (lv' := [(2, .int (nI (j + 1))), (0, .ref o), (1, .int kv)]) hx hb dX8_guess_27 hl (k := 0) rfl (iincK j 1) (by decide) rfl (fun ls hl => ?_)
            refine lv_goto (tgt := 8) hx hb dX8_guess_30 (by decide) ?_
            exact ih8 (j + 1) (by omega) (by omega) (by rw [eg, show sc 4 - j = sc 4 - (j + 1) + 1 by omega, guL, show sc 4 - (sc 4 - (j + 1) + 1) = j by omega, if_neg c_4]) ls (lv_sub hl [0, 1, 2] rfl)
          · refine lv_iload_n hx hb dX8_guess_25 rfl (lv_at hl 0 rfl) ?_
            exact hret (nI j) 26 ls (by rw [xGuess, if_pos c0, eg, show sc 4 - j = sc 4 - (j + 1) + 1 by omega, guL, show sc 4 - (sc 4 - (j + 1) + 1) = j by omega, if_pos c_4]) (rfl) dX8_guess_26
    exact LP8 (sc 4 + 1) 0 (by omega) (by omega) (rfl) ls (lv_sub hl [0, 1, 2] rfl)
  · refine lv_iconst (v := (-1)) hx hb dX8_guess_4 (by decide) ?_
    exact hret (-1) 5 ls (by simp [xGuess, c_1]) (rfl) dX8_guess_5
set_option maxHeartbeats 400000 in
set_option maxRecDepth 100000 in
theorem c_X8_lowest (l : Launch) (g : GG) (a : Nat) (b : Nat) (pv : Int32) (ha : a < 2 ^ 31) (hb_ : 0 < b ∧ b < 2 ^ 31) : Met l yX8_lowest wsX8_lowest ({ frames := 0, cells := 0, slots := 0, locals := 0 } : Room) (ro g [.int (nI a), .int (nI b), .int pv] []) (vp_Si (fun rr => rr = nI (mLow a b pv))) 0 0 (fun _ => False) := by
  refine ro_start (cc := cX8_lowest) (maxL := 6) (ty := .int) (by decide) rfl (Nat.le_of_ble_eq_true rfl) (fun p e s m args below meth c Q C hP hret ls hl => ?_)
  obtain ⟨hx, hb, hml, hr, hown, hts, hlk, hKK⟩ := id C
  have hK := hKK.1
  have hown : s.vm.findClass RX8 = some m.cls := hown
  have ctx : CallFix p m c cX8_lowest 6 s args wsX8_lowest RX8 := ⟨hx, hb, hml, hown, hts⟩
  have hl : lv_has ls 6 [(0, .int (nI a)), (1, .int (nI b)), (2, .int pv)] := hl
  refine lv_iload_n hx hb dX8_lowest_0 rfl (lv_at hl 0 rfl) ?_
  refine lv_istore_n (lv' := [(3, .int (nI a)), (0, .int (nI a)), (1, .int (nI b)), (2, .int pv)]) hx hb dX8_lowest_1 rfl hl (by decide) rfl (fun ls hl => ?_)
  refine lv_iload_n hx hb dX8_lowest_2 rfl (lv_at hl 2 rfl) ?_
  refine lv_istore (lv' := [(4, .int (nI b)), (3, .int (nI a)), (0, .int (nI a)), (1, .int (nI b)), (2, .int pv)]) hx hb dX8_lowest_3 hl (by decide) rfl (fun ls hl => ?_)
  have LP5 : ∀ (fu : Nat) (y : Nat) (z : Nat), z < fu → (y < 2 ^ 31 ∧ z < 2 ^ 31) → (Nat.gcd y z = Nat.gcd a b) → ∀ (ls : Array Slot), lv_has ls 6 [(4, .int (nI z)), (3, .int (nI y)), (0, .int (nI a)), (1, .int (nI b)), (2, .int pv)] → W p l e ({ frames := 0, cells := 0, slots := 0, locals := 0 } : Room) s m args below meth c s.heap [] 0 0 Q (F0 m 5 ls []) := by
    intro fu
    induction fu with
    | zero => intro y z hfu; exact absurd hfu (Nat.not_lt_zero _)
    | succ fu ih5 =>
      intro y z hfu hy hg ls hl
      refine lv_iload hx hb dX8_lowest_5 (lv_at hl 0 rfl) ?_
      refine lv_if_le (tgt := 26) hx hb dX8_lowest_7 (by decide) (fun c_1 => ?_) (fun c_1 => ?_)
      · replace c_1 : z ≤ 0 := (nI_leI (a := z) (b := 0) (by omega) (by omega)).mp c_1
        have hz : z = 0 := by omega
        subst hz
        rw [Nat.gcd_zero_right] at hg
        have hyp : 0 < y := by rw [hg]; exact Nat.gcd_pos_of_pos_right a hb_.1
        refine lv_iload_n hx hb dX8_lowest_26 rfl (lv_at hl 4 rfl) ?_
        refine lv_if_ne (tgt := 34) hx hb dX8_lowest_27 (by decide) (fun c_2 => ?_) (fun c_2 => ?_)
        · refine lv_iload_n hx hb dX8_lowest_34 rfl (lv_at hl 3 rfl) ?_
          refine lv_iload_n hx hb dX8_lowest_35 rfl (lv_at hl 1 rfl) ?_
          refine lv_idiv hx hb dX8_lowest_36 (nI_ne0 (by omega) (by omega)) ?_
          refine lv_is (pk_div (a := b) (d := y) (by omega) (by omega) (by omega)) ?_
          exact hret (nI (b / y)) 37 ls (by rw [mLow, ← hg]; simp [c_1, c_2]) (rfl) dX8_lowest_37
        · refine lv_iload_n hx hb dX8_lowest_30 rfl (lv_at hl 2 rfl) ?_
          refine lv_goto (tgt := 35) hx hb dX8_lowest_31 (by decide) ?_
          refine lv_iload_n hx hb dX8_lowest_35 rfl (lv_at hl 1 rfl) ?_
          refine lv_idiv hx hb dX8_lowest_36 (nI_ne0 (by omega) (by omega)) ?_
          refine lv_is (pk_div (a := a) (d := y) (by omega) (by omega) (by omega)) ?_
          exact hret (nI (a / y)) 37 ls (by rw [mLow, ← hg]; simp [c_1, c_2]) (rfl) dX8_lowest_37
      · replace c_1 : ¬ z ≤ 0 := fun h => c_1 ((nI_leI (a := z) (b := 0) (by omega) (by omega)).mpr h)
        refine lv_iload_n hx hb dX8_lowest_10 rfl (lv_at hl 1 rfl) ?_
        refine lv_iload hx hb dX8_lowest_11 (lv_at hl 0 rfl) ?_
        refine lv_irem hx hb dX8_lowest_13 (nI_ne0 (by omega) (by omega)) ?_
        refine lv_is (pk_rem (a := y) (d := z) (by omega) (by omega) (by omega)) ?_
        refine lv_istore (lv' := [(5, .int (nI (y % z))), (4, .int (nI z)), (3, .int (nI y)), (0, .int (nI a)), (1, .int (nI b)), (2, .int pv)]) hx hb dX8_lowest_14 hl (by decide) rfl (fun ls hl => ?_)
        refine lv_iload hx hb dX8_lowest_16 (lv_at hl 1 rfl) ?_
        refine lv_istore_n (lv' := [(3, .int (nI z)), (5, .int (nI (y % z))), (4, .int (nI z)), (0, .int (nI a)), (1, .int (nI b)), (2, .int pv)]) hx hb dX8_lowest_18 rfl hl (by decide) rfl (fun ls hl => ?_)
        refine lv_iload hx hb dX8_lowest_19 (lv_at hl 1 rfl) ?_
        refine lv_istore (lv' := [(4, .int (nI (y % z))), (3, .int (nI z)), (5, .int (nI (y % z))), (0, .int (nI a)), (1, .int (nI b)), (2, .int pv)]) hx hb dX8_lowest_21 hl (by decide) rfl (fun ls hl => ?_)
        refine lv_goto (tgt := 5) hx hb dX8_lowest_23 (by decide) ?_
        exact ih5 z (y % z) (by have := Nat.mod_lt y (show z > 0 by omega); omega) (⟨by omega, by have := Nat.mod_lt y (show z > 0 by omega); omega⟩) (by rw [← hg, Nat.gcd_comm y z, Nat.gcd_rec z y, Nat.gcd_comm]) ls (lv_sub hl [0, 1, 3, 4, 5] rfl)
  exact LP5 (b + 1) a b (by omega) (by omega) (rfl) ls (lv_sub hl [0, 1, 2, 3, 4] rfl)
theorem kX8_allParts_f143 : (Cond.fieldLink RX8 143 "LastCallersWordModel" "words" "I" : Cond) ∈ wsX8_allParts := List.mem_cons_of_mem _ aw_326
theorem hX8_allParts_X8 : ∀ w ∈ wsX80, w ∈ wsX8_allParts := fun w h => List.mem_cons_of_mem _ (ac_X8 w h)
theorem kX8_allParts_f16 : (Cond.fieldLink RX8 16 "LastCallersWordModel" "parts" "[I" : Cond) ∈ wsX8_allParts := List.mem_cons_of_mem _ aw_290
set_option maxHeartbeats 400000 in
set_option maxRecDepth 100000 in
theorem c_X8_allParts (l : Launch) (g : GG) (o : Nat) (a : Nat → Nat) (sc : Nat → Nat) (ar : Nat → Nat → Int32) (hW : sc 4 ≤ 6) (hpt : ptOk (ar 5) (sc 4)) : Met l yX8_allParts wsX8_allParts ({ frames := 0, cells := 0, slots := 0, locals := 0 } : Room) (ro g [.ref o] (mW g o a sc ar)) (vp_Si (fun rr => rr = nI (mSumP (ar 5) (sc 4)))) 0 0 (fun _ => False) := by
  refine ro_start (cc := cX8_allParts) (maxL := 3) (ty := .int) (by decide) rfl (Nat.le_of_ble_eq_true rfl) (fun p e s m args below meth c Q C hP hret ls hl => ?_)
  obtain ⟨hx, hb, hml, hr, hown, hts, hlk, hKK⟩ := id C
  have hK := hKK.1
  have hown : s.vm.findClass RX8 = some m.cls := hown
  have ctx : CallFix p m c cX8_allParts 3 s args wsX8_allParts RX8 := ⟨hx, hb, hml, hown, hts⟩
  have hl : lv_has ls 3 [(0, .ref o)] := hl
  refine lv_iconst (v := nI 0) hx hb dX8_allParts_0 (by decide) ?_
  refine lv_istore_n (lv' := [(1, .int (nI 0)), (0, .ref o)]) hx hb dX8_allParts_1 rfl hl (by decide) rfl (fun ls hl => ?_)
  refine lv_iconst (v := nI 0) hx hb dX8_allParts_2 (by decide) ?_
  refine lv_istore_n (lv' := [(2, .int (nI 0)), (1, .int (nI 0)), (0, .ref o)]) hx hb dX8_allParts_3 rfl hl (by decide) rfl (fun ls hl => ?_)
  have LP4 : ∀ (fu : Nat) (j : Nat) (x1 : Nat), sc 4 - j < fu → (j ≤ sc 4) → (x1 = mSumP (ar 5) j) → ∀ (ls : Array Slot), lv_has ls 3 [(2, .int (nI j)), (1, .int (nI x1)), (0, .ref o)] → W p l e ({ frames := 0, cells := 0, slots := 0, locals := 0 } : Room) s m args below meth c s.heap [] 0 0 Q (F0 m 4 ls []) := by
    intro fu
    induction fu with
    | zero => intro j x1 hfu; exact absurd hfu (Nat.not_lt_zero _)
    | succ fu ih4 =>
      intro j x1 hfu hj e1 ls hl
      refine lv_iload_n hx hb dX8_allParts_4 rfl (lv_at hl 0 rfl) ?_
      refine lv_aload_n hx hb dX8_allParts_5 rfl (lv_at hl 2 rfl) ?_
      refine va_get (D := g.1) (cl := vwCl) (ci := 8) (v := .int (nI (sc 4))) (C := RX8) (T := TX8) (N := 29) hx hb hts hX8_allParts_X8 hown hK hP 0 rfl rfl 4 (by decide) (hts _ kX8_allParts_f143) (fun _ h9 => h9) rfl dX8_allParts_6 ?_
      refine lv_icmp_ge (tgt := 27) hx hb dX8_allParts_9 (by decide) (fun c_1 => ?_) (fun c_1 => ?_)
      · replace c_1 : (sc 4) ≤ j := (nI_leI (a := sc 4) (b := j) (by omega) (by omega)).mp c_1
        refine lv_iload_n hx hb dX8_allParts_27 rfl (lv_at hl 1 rfl) ?_
        exact hret (nI x1) 28 ls (by rw [e1, show j = sc 4 by omega]) (rfl) dX8_allParts_28
      · replace c_1 : ¬ (sc 4) ≤ j := fun h => c_1 ((nI_leI (a := sc 4) (b := j) (by omega) (by omega)).mpr h)
        refine lv_iload_n hx hb dX8_allParts_12 rfl (lv_at hl 1 rfl) ?_
        refine lv_aload_n hx hb dX8_allParts_13 rfl (lv_at hl 2 rfl) ?_
        refine va_get (D := g.1) (cl := vwCl) (ci := 8) (v := .ref (a 5)) (C := RX8) (T := TX8) (N := 29) hx hb hts hX8_allParts_X8 hown hK hP 0 rfl rfl 5 (by decide) (hts _ kX8_allParts_f16) (fun _ h9 => h9) rfl dX8_allParts_14 ?_
        refine lv_iload_n hx hb dX8_allParts_17 rfl (lv_at hl 0 rfl) ?_
        refine ald_i (D := g.1) (cl := vwCl) (f := ar 5) (i := j) (n := 6) hx hb hK hP 3 0 rfl rfl (by omega) (by decide) dX8_allParts_18 ?_
        refine lv_is (nI_cl (hpt j (by omega)).1) ?_
        refine lv_iadd hx hb dX8_allParts_19 ?_
        refine lv_is (nI_add x1 ((ar 5 j).toNatClampNeg)) ?_
        refine lv_istore_n (lv' := [(1, .int (nI (x1 + ((ar 5 j).toNatClampNeg)))), (2, .int (nI j)), (0, .ref o)]) hx hb dX8_allParts_20 rfl hl (by decide) rfl (fun ls hl => ?_)
        refine lv_iinc (v := nI (j + 1)) (lv' := [(2, .int (nI (j + 1))), (1, .int (nI (x1 + ((ar 5 j).toNatClampNeg)))), (0, .ref o)]) hx hb dX8_allParts_21 hl (k := 1) rfl (iincK j 1) (by decide) rfl (fun ls hl => ?_)
        refine lv_goto (tgt := 4) hx hb dX8_allParts_24 (by decide) ?_
        exact ih4 (j + 1) (x1 + ((ar 5 j).toNatClampNeg)) (by omega) (by omega) (by rw [mSumP, ← e1]) ls (lv_sub hl [0, 1, 2] rfl)
  exact LP4 (sc 4 + 1) 0 0 (by omega) (by omega) (rfl) ls (lv_sub hl [0, 1, 2] rfl)
theorem kX8_mean_f143 : (Cond.fieldLink RX8 143 "LastCallersWordModel" "words" "I" : Cond) ∈ wsX8_mean := List.mem_cons_of_mem _ aw_326
theorem hX8_mean_X8 : ∀ w ∈ wsX80, w ∈ wsX8_mean := fun w h => List.mem_cons_of_mem _ (ac_X8 w h)
theorem kX8_mean_f16 : (Cond.fieldLink RX8 16 "LastCallersWordModel" "parts" "[I" : Cond) ∈ wsX8_mean := List.mem_cons_of_mem _ aw_290
set_option maxHeartbeats 400000 in
set_option maxRecDepth 100000 in
theorem c_X8_mean (l : Launch) (g : GG) (o : Nat) (a : Nat → Nat) (sc : Nat → Nat) (ar : Nat → Nat → Int32) (pv : Int32) (hW : sc 4 ≤ 6) (hB : sc 6 ≤ 9) (hpt : ptOk (ar 5) (sc 4)) : Met l yX8_mean wsX8_mean ({ frames := 1, cells := 0, slots := 0, locals := 25 } : Room) (ro g [.ref o, .int pv] (mW g o a sc ar)) (vp_Si (fun rr => rr = if isPb pv = true then (if sc 4 = 0 then -4 else nI (mLow (mMn (ar 5) (sc 4) (sc 4)) (mSumP (ar 5) (sc 4)) pv)) else -1)) 0 0 (fun _ => False) := by
  refine ro_start (cc := cX8_mean) (maxL := 4) (ty := .int) (by decide) rfl (Nat.le_of_ble_eq_true rfl) (fun p e s m args below meth c Q C hP hret ls hl => ?_)
  obtain ⟨hx, hb, hml, hr, hown, hts, hlk, hKK⟩ := id C
  have hK := hKK.1
  have hown : s.vm.findClass RX8 = some m.cls := hown
  have ctx : CallFix p m c cX8_mean 4 s args wsX8_mean RX8 := ⟨hx, hb, hml, hown, hts⟩
  have hl : lv_has ls 4 [(0, .ref o), (1, .int pv)] := hl
  refine lv_iload_n hx hb dX8_mean_0 rfl (lv_at hl 1 rfl) ?_
  refine lv_iconst (v := nI 0) hx hb dX8_mean_1 (by decide) ?_
  refine lv_iconst (v := nI 1) hx hb dX8_mean_2 (by decide) ?_
  refine ro_callS (As := [.int pv, .int (nI 0), .int (nI 1)]) (rest := []) ctx hKK hP (c_X8_in l g pv (nI 0) (nI 1)) gX8_mean_X8_in rfl rfl rfl hdX8_in ⟨Nat.le_of_ble_eq_true rfl, Nat.le_of_ble_eq_true rfl⟩ [] rfl hl.1 rfl rfl (Nat.le_of_ble_eq_true rfl) dX8_mean_3 (fun r_1 hr_1 => ?_)
  subst hr_1
  refine lv_if_ne (tgt := 11) hx hb dX8_mean_6 (by decide) (fun c_2 => ?_) (fun c_2 => ?_)
  · replace c_2 := bI_t c_2
    rw [isPb_inB] at c_2
    refine lv_iconst (v := nI 0) hx hb dX8_mean_11 (by decide) ?_
    refine lv_istore_n (lv' := [(2, .int (nI 0)), (0, .ref o), (1, .int pv)]) hx hb dX8_mean_12 rfl hl (by decide) rfl (fun ls hl => ?_)
    refine lv_iconst (v := nI 0) hx hb dX8_mean_13 (by decide) ?_
    refine lv_istore_n (lv' := [(3, .int (nI 0)), (2, .int (nI 0)), (0, .ref o), (1, .int pv)]) hx hb dX8_mean_14 rfl hl (by decide) rfl (fun ls hl => ?_)
    have LP15 : ∀ (fu : Nat) (j : Nat) (x2 : Nat), sc 4 - j < fu → (j ≤ sc 4) → (x2 = mMn (ar 5) (sc 4) j) → ∀ (ls : Array Slot), lv_has ls 4 [(3, .int (nI j)), (2, .int (nI x2)), (0, .ref o), (1, .int pv)] → W p l e ({ frames := 1, cells := 0, slots := 0, locals := 25 } : Room) s m args below meth c s.heap [] 0 0 Q (F0 m 15 ls []) := by
      intro fu
      induction fu with
      | zero => intro j x2 hfu; exact absurd hfu (Nat.not_lt_zero _)
      | succ fu ih15 =>
        intro j x2 hfu hj e2 ls hl
        have hrk := rkN_le (ar 5) j (sc 4)
        refine lv_iload_n hx hb dX8_mean_15 rfl (lv_at hl 0 rfl) ?_
        refine lv_aload_n hx hb dX8_mean_16 rfl (lv_at hl 2 rfl) ?_
        refine va_get (D := g.1) (cl := vwCl) (ci := 8) (v := .int (nI (sc 4))) (C := RX8) (T := TX8) (N := 29) hx hb hts hX8_mean_X8 hown hK hP 0 rfl rfl 4 (by decide) (hts _ kX8_mean_f143) (fun _ h9 => h9) rfl dX8_mean_17 ?_
        refine lv_icmp_ge (tgt := 46) hx hb dX8_mean_20 (by decide) (fun c_3 => ?_) (fun c_3 => ?_)
        · replace c_3 : (sc 4) ≤ j := (nI_leI (a := sc 4) (b := j) (by omega) (by omega)).mp c_3
          have hle := mMn_le hpt (by omega) j hj
          rw [← e2] at hle
          have hsm := mSumP_le hpt (sc 4) (Nat.le_refl _)
          rw [show j = sc 4 by omega] at e2
          refine lv_aload_n hx hb dX8_mean_46 rfl (lv_at hl 2 rfl) ?_
          refine va_get (D := g.1) (cl := vwCl) (ci := 8) (v := .int (nI (sc 4))) (C := RX8) (T := TX8) (N := 29) hx hb hts hX8_mean_X8 hown hK hP 0 rfl rfl 4 (by decide) (hts _ kX8_mean_f143) (fun _ h9 => h9) rfl dX8_mean_47 ?_
          refine lv_if_ne (tgt := 58) hx hb dX8_mean_50 (by decide) (fun c_4 => ?_) (fun c_4 => ?_)
          · replace c_4 : ¬ (sc 4) = 0 := fun h => c_4 ((nI_eq (a := sc 4) (b := 0) (by omega) (by omega)).mpr h)
            refine lv_iload_n hx hb dX8_mean_58 rfl (lv_at hl 1 rfl) ?_
            refine lv_aload_n hx hb dX8_mean_59 rfl (lv_at hl 2 rfl) ?_
            refine ro_callV0 (As := []) (rest := [.int (nI x2)]) (b := o) ctx hKK hP (c_X8_allParts l g o a sc ar (show (sc 4) ≤ 6 from by omega) (show ptOk ((ar 5)) ((sc 4)) from hpt)) gX8_mean_X8_allParts rfl rfl rfl hdX8_allParts ⟨Nat.le_of_ble_eq_true rfl, Nat.le_of_ble_eq_true rfl⟩ (ci := 8) (q0 := 0) rfl rfl hl.1 rfl rfl (Nat.le_of_ble_eq_true rfl) dX8_mean_60 (fun r_5 hr_5 => ?_)
            have hr_5 : r_5 = nI (mSumP ((ar 5)) ((sc 4))) := hr_5
            subst hr_5
            refine lv_iload_n hx hb dX8_mean_63 rfl (lv_at hl 3 rfl) ?_
            refine ro_callS (As := [.int (nI x2), .int (nI (mSumP ((ar 5)) ((sc 4)))), .int pv]) (rest := []) ctx hKK hP (c_X8_lowest l g x2 (mSumP ((ar 5)) ((sc 4))) pv (by omega) (by omega)) gX8_mean_X8_lowest rfl rfl rfl hdX8_lowest ⟨Nat.le_of_ble_eq_true rfl, Nat.le_of_ble_eq_true rfl⟩ [] rfl hl.1 rfl rfl (Nat.le_of_ble_eq_true rfl) dX8_mean_64 (fun r_6 hr_6 => ?_)
            subst hr_6
            exact hret (nI (mLow x2 (mSumP ((ar 5)) ((sc 4))) pv)) 67 ls (by simp [c_2, c_3, c_4, ← e2]) (rfl) dX8_mean_67
          · replace c_4 : (sc 4) = 0 := (nI_eq (a := sc 4) (b := 0) (by omega) (by omega)).mp c_4
            refine lv_bipush (v := (-4)) hx hb dX8_mean_53 (by decide) ?_
            refine lv_goto (tgt := 67) hx hb dX8_mean_55 (by decide) ?_
            exact hret (-4) 67 ls (by simp [c_2, c_3, c_4, ← e2]) (rfl) dX8_mean_67
        · replace c_3 : ¬ (sc 4) ≤ j := fun h => c_3 ((nI_leI (a := sc 4) (b := j) (by omega) (by omega)).mpr h)
          refine lv_iload_n hx hb dX8_mean_23 rfl (lv_at hl 1 rfl) ?_
          refine lv_aload_n hx hb dX8_mean_24 rfl (lv_at hl 2 rfl) ?_
          refine lv_iload_n hx hb dX8_mean_25 rfl (lv_at hl 0 rfl) ?_
          refine ro_callV0 (As := [.int (nI j)]) (rest := [.int (nI x2)]) (b := o) ctx hKK hP (c_X8_rankOf l g o a sc ar j (show (sc 4) ≤ 6 from by omega) (show j < 6 from by omega)) gX8_mean_X8_rankOf rfl rfl rfl hdX8_rankOf ⟨Nat.le_of_ble_eq_true rfl, Nat.le_of_ble_eq_true rfl⟩ (ci := 8) (q0 := 0) rfl rfl hl.1 rfl rfl (Nat.le_of_ble_eq_true rfl) dX8_mean_26 (fun r_7 hr_7 => ?_)
          have hr_7 : r_7 = nI (rkN ((ar 5)) j ((sc 4))) := hr_7
          subst hr_7
          refine lv_iconst (v := nI 1) hx hb dX8_mean_29 (by decide) ?_
          refine lv_iadd hx hb dX8_mean_30 ?_
          refine lv_is (nI_add (rkN ((ar 5)) j ((sc 4))) 1) ?_
          refine lv_aload_n hx hb dX8_mean_31 rfl (lv_at hl 2 rfl) ?_
          refine va_get (D := g.1) (cl := vwCl) (ci := 8) (v := .ref (a 5)) (C := RX8) (T := TX8) (N := 29) hx hb hts hX8_mean_X8 hown hK hP 0 rfl rfl 5 (by decide) (hts _ kX8_mean_f16) (fun _ h9 => h9) rfl dX8_mean_32 ?_
          refine lv_iload_n hx hb dX8_mean_35 rfl (lv_at hl 0 rfl) ?_
          refine ald_i (D := g.1) (cl := vwCl) (f := ar 5) (i := j) (n := 6) hx hb hK hP 3 0 rfl rfl (by omega) (by decide) dX8_mean_36 ?_
          refine lv_is (nI_cl (hpt j (by omega)).1) ?_
          refine lv_imul hx hb dX8_mean_37 ?_
          refine lv_is (pk_mul ((rkN ((ar 5)) j ((sc 4))) + 1) ((ar 5 j).toNatClampNeg)) ?_
          refine lv_iadd hx hb dX8_mean_38 ?_
          refine lv_is (nI_add x2 (((rkN ((ar 5)) j ((sc 4))) + 1) * ((ar 5 j).toNatClampNeg))) ?_
          refine lv_istore_n (lv' := [(2, .int (nI (x2 + (((rkN ((ar 5)) j ((sc 4))) + 1) * ((ar 5 j).toNatClampNeg))))), (3, .int (nI j)), (0, .ref o), (1, .int pv)]) hx hb dX8_mean_39 rfl hl (by decide) rfl (fun ls hl => ?_)
          refine lv_iinc (v := nI (j + 1)) (lv' := [(3, .int (nI (j + 1))), (2, .int (nI (x2 + (((rkN ((ar 5)) j ((sc 4))) + 1) * ((ar 5 j).toNatClampNeg))))), (0, .ref o), (1, .int pv)]) hx hb dX8_mean_40 hl (k := 1) rfl (iincK j 1) (by decide) rfl (fun ls hl => ?_)
          refine lv_goto (tgt := 15) hx hb dX8_mean_43 (by decide) ?_
          exact ih15 (j + 1) (x2 + (((rkN ((ar 5)) j ((sc 4))) + 1) * ((ar 5 j).toNatClampNeg))) (by omega) (by omega) (by rw [mMn, ← e2]) ls (lv_sub hl [0, 1, 2, 3] rfl)
    exact LP15 (sc 4 + 1) 0 0 (by omega) (by omega) (rfl) ls (lv_sub hl [0, 1, 2, 3] rfl)
  · replace c_2 := bI_f c_2
    rw [isPb_inB] at c_2
    refine lv_iconst (v := (-1)) hx hb dX8_mean_9 (by decide) ?_
    exact hret (-1) 10 ls (by simp [c_2]) (rfl) dX8_mean_10
theorem kX8_inTime_f143 : (Cond.fieldLink RX8 143 "LastCallersWordModel" "words" "I" : Cond) ∈ wsX8_inTime := List.mem_cons_of_mem _ aw_326
theorem hX8_inTime_X8 : ∀ w ∈ wsX80, w ∈ wsX8_inTime := fun w h => List.mem_cons_of_mem _ (ac_X8 w h)
theorem kX8_inTime_f146 : (Cond.fieldLink RX8 146 "LastCallersWordModel" "bars" "I" : Cond) ∈ wsX8_inTime := List.mem_cons_of_mem _ aw_327
theorem kX8_inTime_f16 : (Cond.fieldLink RX8 16 "LastCallersWordModel" "parts" "[I" : Cond) ∈ wsX8_inTime := List.mem_cons_of_mem _ aw_290
set_option maxHeartbeats 400000 in
set_option maxRecDepth 100000 in
theorem c_X8_inTime (l : Launch) (g : GG) (o : Nat) (a : Nat → Nat) (sc : Nat → Nat) (ar : Nat → Nat → Int32) (pv : Int32) (hW : sc 4 ≤ 6) (hB : sc 6 ≤ 9) (hpt : ptOk (ar 5) (sc 4)) : Met l yX8_inTime wsX8_inTime ({ frames := 1, cells := 0, slots := 0, locals := 25 } : Room) (ro g [.ref o, .int pv] (mW g o a sc ar)) (vp_Si (fun rr => rr = if isPb pv = true then (if sc 4 = 0 then -4 else nI (mLow (mIn (ar 5) (sc 4) (sc 6) (sc 4)) (mSumP (ar 5) (sc 4)) pv)) else -1)) 0 0 (fun _ => False) := by
  refine ro_start (cc := cX8_inTime) (maxL := 4) (ty := .int) (by decide) rfl (Nat.le_of_ble_eq_true rfl) (fun p e s m args below meth c Q C hP hret ls hl => ?_)
  obtain ⟨hx, hb, hml, hr, hown, hts, hlk, hKK⟩ := id C
  have hK := hKK.1
  have hown : s.vm.findClass RX8 = some m.cls := hown
  have ctx : CallFix p m c cX8_inTime 4 s args wsX8_inTime RX8 := ⟨hx, hb, hml, hown, hts⟩
  have hl : lv_has ls 4 [(0, .ref o), (1, .int pv)] := hl
  refine lv_iload_n hx hb dX8_inTime_0 rfl (lv_at hl 1 rfl) ?_
  refine lv_iconst (v := nI 0) hx hb dX8_inTime_1 (by decide) ?_
  refine lv_iconst (v := nI 1) hx hb dX8_inTime_2 (by decide) ?_
  refine ro_callS (As := [.int pv, .int (nI 0), .int (nI 1)]) (rest := []) ctx hKK hP (c_X8_in l g pv (nI 0) (nI 1)) gX8_inTime_X8_in rfl rfl rfl hdX8_in ⟨Nat.le_of_ble_eq_true rfl, Nat.le_of_ble_eq_true rfl⟩ [] rfl hl.1 rfl rfl (Nat.le_of_ble_eq_true rfl) dX8_inTime_3 (fun r_1 hr_1 => ?_)
  subst hr_1
  refine lv_if_ne (tgt := 11) hx hb dX8_inTime_6 (by decide) (fun c_2 => ?_) (fun c_2 => ?_)
  · replace c_2 := bI_t c_2
    rw [isPb_inB] at c_2
    refine lv_iconst (v := nI 0) hx hb dX8_inTime_11 (by decide) ?_
    refine lv_istore_n (lv' := [(2, .int (nI 0)), (0, .ref o), (1, .int pv)]) hx hb dX8_inTime_12 rfl hl (by decide) rfl (fun ls hl => ?_)
    refine lv_iconst (v := nI 0) hx hb dX8_inTime_13 (by decide) ?_
    refine lv_istore_n (lv' := [(3, .int (nI 0)), (2, .int (nI 0)), (0, .ref o), (1, .int pv)]) hx hb dX8_inTime_14 rfl hl (by decide) rfl (fun ls hl => ?_)
    have LP15 : ∀ (fu : Nat) (j : Nat) (x2 : Nat), sc 4 - j < fu → (j ≤ sc 4) → (x2 = mIn (ar 5) (sc 4) (sc 6) j) → ∀ (ls : Array Slot), lv_has ls 4 [(3, .int (nI j)), (2, .int (nI x2)), (0, .ref o), (1, .int pv)] → W p l e ({ frames := 1, cells := 0, slots := 0, locals := 25 } : Room) s m args below meth c s.heap [] 0 0 Q (F0 m 15 ls []) := by
      intro fu
      induction fu with
      | zero => intro j x2 hfu; exact absurd hfu (Nat.not_lt_zero _)
      | succ fu ih15 =>
        intro j x2 hfu hj e2 ls hl
        have hrk := rkN_le (ar 5) j (sc 4)
        refine lv_iload_n hx hb dX8_inTime_15 rfl (lv_at hl 0 rfl) ?_
        refine lv_aload_n hx hb dX8_inTime_16 rfl (lv_at hl 2 rfl) ?_
        refine va_get (D := g.1) (cl := vwCl) (ci := 8) (v := .int (nI (sc 4))) (C := RX8) (T := TX8) (N := 29) hx hb hts hX8_inTime_X8 hown hK hP 0 rfl rfl 4 (by decide) (hts _ kX8_inTime_f143) (fun _ h9 => h9) rfl dX8_inTime_17 ?_
        refine lv_icmp_ge (tgt := 54) hx hb dX8_inTime_20 (by decide) (fun c_3 => ?_) (fun c_3 => ?_)
        · replace c_3 : (sc 4) ≤ j := (nI_leI (a := sc 4) (b := j) (by omega) (by omega)).mp c_3
          have hle := mIn_le (V := sc 4) (B := sc 6) hpt j hj
          rw [← e2] at hle
          have hsm := mSumP_le hpt (sc 4) (Nat.le_refl _)
          rw [show j = sc 4 by omega] at e2
          refine lv_aload_n hx hb dX8_inTime_54 rfl (lv_at hl 2 rfl) ?_
          refine va_get (D := g.1) (cl := vwCl) (ci := 8) (v := .int (nI (sc 4))) (C := RX8) (T := TX8) (N := 29) hx hb hts hX8_inTime_X8 hown hK hP 0 rfl rfl 4 (by decide) (hts _ kX8_inTime_f143) (fun _ h9 => h9) rfl dX8_inTime_55 ?_
          refine lv_if_ne (tgt := 66) hx hb dX8_inTime_58 (by decide) (fun c_4 => ?_) (fun c_4 => ?_)
          · replace c_4 : ¬ (sc 4) = 0 := fun h => c_4 ((nI_eq (a := sc 4) (b := 0) (by omega) (by omega)).mpr h)
            refine lv_iload_n hx hb dX8_inTime_66 rfl (lv_at hl 1 rfl) ?_
            refine lv_aload_n hx hb dX8_inTime_67 rfl (lv_at hl 2 rfl) ?_
            refine ro_callV0 (As := []) (rest := [.int (nI x2)]) (b := o) ctx hKK hP (c_X8_allParts l g o a sc ar (show (sc 4) ≤ 6 from by omega) (show ptOk ((ar 5)) ((sc 4)) from hpt)) gX8_inTime_X8_allParts rfl rfl rfl hdX8_allParts ⟨Nat.le_of_ble_eq_true rfl, Nat.le_of_ble_eq_true rfl⟩ (ci := 8) (q0 := 0) rfl rfl hl.1 rfl rfl (Nat.le_of_ble_eq_true rfl) dX8_inTime_68 (fun r_5 hr_5 => ?_)
            have hr_5 : r_5 = nI (mSumP ((ar 5)) ((sc 4))) := hr_5
            subst hr_5
            refine lv_iload_n hx hb dX8_inTime_71 rfl (lv_at hl 3 rfl) ?_
            refine ro_callS (As := [.int (nI x2), .int (nI (mSumP ((ar 5)) ((sc 4)))), .int pv]) (rest := []) ctx hKK hP (c_X8_lowest l g x2 (mSumP ((ar 5)) ((sc 4))) pv (by omega) (by omega)) gX8_inTime_X8_lowest rfl rfl rfl hdX8_lowest ⟨Nat.le_of_ble_eq_true rfl, Nat.le_of_ble_eq_true rfl⟩ [] rfl hl.1 rfl rfl (Nat.le_of_ble_eq_true rfl) dX8_inTime_72 (fun r_6 hr_6 => ?_)
            subst hr_6
            exact hret (nI (mLow x2 (mSumP ((ar 5)) ((sc 4))) pv)) 75 ls (by simp [c_2, c_3, c_4, ← e2]) (rfl) dX8_inTime_75
          · replace c_4 : (sc 4) = 0 := (nI_eq (a := sc 4) (b := 0) (by omega) (by omega)).mp c_4
            refine lv_bipush (v := (-4)) hx hb dX8_inTime_61 (by decide) ?_
            refine lv_goto (tgt := 75) hx hb dX8_inTime_63 (by decide) ?_
            exact hret (-4) 75 ls (by simp [c_2, c_3, c_4, ← e2]) (rfl) dX8_inTime_75
        · replace c_3 : ¬ (sc 4) ≤ j := fun h => c_3 ((nI_leI (a := sc 4) (b := j) (by omega) (by omega)).mpr h)
          refine lv_iload_n hx hb dX8_inTime_23 rfl (lv_at hl 1 rfl) ?_
          refine lv_aload_n hx hb dX8_inTime_24 rfl (lv_at hl 2 rfl) ?_
          refine lv_iload_n hx hb dX8_inTime_25 rfl (lv_at hl 0 rfl) ?_
          refine ro_callV0 (As := [.int (nI j)]) (rest := [.int (nI x2)]) (b := o) ctx hKK hP (c_X8_rankOf l g o a sc ar j (show (sc 4) ≤ 6 from by omega) (show j < 6 from by omega)) gX8_inTime_X8_rankOf rfl rfl rfl hdX8_rankOf ⟨Nat.le_of_ble_eq_true rfl, Nat.le_of_ble_eq_true rfl⟩ (ci := 8) (q0 := 0) rfl rfl hl.1 rfl rfl (Nat.le_of_ble_eq_true rfl) dX8_inTime_26 (fun r_7 hr_7 => ?_)
          have hr_7 : r_7 = nI (rkN ((ar 5)) j ((sc 4))) := hr_7
          subst hr_7
          refine lv_aload_n hx hb dX8_inTime_29 rfl (lv_at hl 2 rfl) ?_
          refine va_get (D := g.1) (cl := vwCl) (ci := 8) (v := .int (nI (sc 6))) (C := RX8) (T := TX8) (N := 29) hx hb hts hX8_inTime_X8 hown hK hP 0 rfl rfl 6 (by decide) (hts _ kX8_inTime_f146) (fun _ h9 => h9) rfl dX8_inTime_30 ?_
          refine lv_icmp_ge (tgt := 45) hx hb dX8_inTime_33 (by decide) (fun c_8 => ?_) (fun c_8 => ?_)
          · replace c_8 : (sc 6) ≤ (rkN ((ar 5)) j ((sc 4))) := (nI_leI (a := sc 6) (b := rkN ((ar 5)) j ((sc 4))) (by omega) (by omega)).mp c_8
            refine lv_iconst (v := nI 0) hx hb dX8_inTime_45 (by decide) ?_
            refine lv_iadd hx hb dX8_inTime_46 ?_
            refine lv_is (nI_add x2 0) ?_
            refine lv_istore_n (lv' := [(2, .int (nI (x2 + 0))), (3, .int (nI j)), (0, .ref o), (1, .int pv)]) hx hb dX8_inTime_47 rfl hl (by decide) rfl (fun ls hl => ?_)
            refine lv_iinc (v := nI (j + 1)) (lv' := [(3, .int (nI (j + 1))), (2, .int (nI (x2 + 0))), (0, .ref o), (1, .int pv)]) hx hb dX8_inTime_48 hl (k := 1) rfl (iincK j 1) (by decide) rfl (fun ls hl => ?_)
            refine lv_goto (tgt := 15) hx hb dX8_inTime_51 (by decide) ?_
            exact ih15 (j + 1) (x2 + 0) (by omega) (by omega) (by rw [mIn, ← e2]; simp [c_2, c_3, c_8]) ls (lv_sub hl [0, 1, 2, 3] rfl)
          · replace c_8 : ¬ (sc 6) ≤ (rkN ((ar 5)) j ((sc 4))) := fun h => c_8 ((nI_leI (a := sc 6) (b := rkN ((ar 5)) j ((sc 4))) (by omega) (by omega)).mpr h)
            refine lv_aload_n hx hb dX8_inTime_36 rfl (lv_at hl 2 rfl) ?_
            refine va_get (D := g.1) (cl := vwCl) (ci := 8) (v := .ref (a 5)) (C := RX8) (T := TX8) (N := 29) hx hb hts hX8_inTime_X8 hown hK hP 0 rfl rfl 5 (by decide) (hts _ kX8_inTime_f16) (fun _ h9 => h9) rfl dX8_inTime_37 ?_
            refine lv_iload_n hx hb dX8_inTime_40 rfl (lv_at hl 0 rfl) ?_
            refine ald_i (D := g.1) (cl := vwCl) (f := ar 5) (i := j) (n := 6) hx hb hK hP 3 0 rfl rfl (by omega) (by decide) dX8_inTime_41 ?_
            refine lv_is (nI_cl (hpt j (by omega)).1) ?_
            refine lv_goto (tgt := 46) hx hb dX8_inTime_42 (by decide) ?_
            refine lv_iadd hx hb dX8_inTime_46 ?_
            refine lv_is (nI_add x2 ((ar 5 j).toNatClampNeg)) ?_
            refine lv_istore_n (lv' := [(2, .int (nI (x2 + ((ar 5 j).toNatClampNeg)))), (3, .int (nI j)), (0, .ref o), (1, .int pv)]) hx hb dX8_inTime_47 rfl hl (by decide) rfl (fun ls hl => ?_)
            refine lv_iinc (v := nI (j + 1)) (lv' := [(3, .int (nI (j + 1))), (2, .int (nI (x2 + ((ar 5 j).toNatClampNeg)))), (0, .ref o), (1, .int pv)]) hx hb dX8_inTime_48 hl (k := 1) rfl (iincK j 1) (by decide) rfl (fun ls hl => ?_)
            refine lv_goto (tgt := 15) hx hb dX8_inTime_51 (by decide) ?_
            exact ih15 (j + 1) (x2 + ((ar 5 j).toNatClampNeg)) (by omega) (by omega) (by rw [mIn, ← e2]; simp [c_2, c_3, c_8]) ls (lv_sub hl [0, 1, 2, 3] rfl)
    exact LP15 (sc 4 + 1) 0 0 (by omega) (by omega) (rfl) ls (lv_sub hl [0, 1, 2, 3] rfl)
  · replace c_2 := bI_f c_2
    rw [isPb_inB] at c_2
    refine lv_iconst (v := (-1)) hx hb dX8_inTime_9 (by decide) ?_
    exact hret (-1) 10 ls (by simp [c_2]) (rfl) dX8_inTime_10
theorem kX8_friend_f82 : (Cond.fieldLink RX8 82 "LastCallersWordModel" "persons" "I" : Cond) ∈ wsX8_friend := List.mem_cons_of_mem _ aw_324
theorem hX8_friend_X8 : ∀ w ∈ wsX80, w ∈ wsX8_friend := fun w h => List.mem_cons_of_mem _ (ac_X8 w h)
theorem kX8_friend_f19 : (Cond.fieldLink RX8 19 "LastCallersWordModel" "st" "[I" : Cond) ∈ wsX8_friend := List.mem_cons_of_mem _ aw_291
set_option maxHeartbeats 400000 in
set_option maxRecDepth 100000 in
theorem c_X8_friend (l : Launch) (g : GG) (o : Nat) (a : Nat → Nat) (sc : Nat → Nat) (ar : Nat → Nat → Int32) (iv : Int32) (wv : Int32) (hP8 : sc 0 ≤ 8) : Met l yX8_friend wsX8_friend ({ frames := 2, cells := 0, slots := 0, locals := 43 } : Room) (ro g [.ref o, .int iv, .int wv] (mW g o a sc ar)) (vp_Si (fun rr => rr = if inPb (sc 0) iv = true ∧ isPb wv = true then (if wv = 0 then (mFr (ar 7) iv.toNatClampNeg (sc 0)).1 else (mFr (ar 7) iv.toNatClampNeg (sc 0)).2) else -1)) 0 0 (fun _ => False) := by
  refine ro_start (cc := cX8_friend) (maxL := 8) (ty := .int) (by decide) rfl (Nat.le_of_ble_eq_true rfl) (fun p e s m args below meth c Q C hP hret ls hl => ?_)
  obtain ⟨hx, hb, hml, hr, hown, hts, hlk, hKK⟩ := id C
  have hK := hKK.1
  have hown : s.vm.findClass RX8 = some m.cls := hown
  have ctx : CallFix p m c cX8_friend 8 s args wsX8_friend RX8 := ⟨hx, hb, hml, hown, hts⟩
  have hl : lv_has ls 8 [(0, .ref o), (1, .int iv), (2, .int wv)] := hl
  refine lv_aload_n hx hb dX8_friend_0 rfl (lv_at hl 0 rfl) ?_
  refine lv_iload_n hx hb dX8_friend_1 rfl (lv_at hl 1 rfl) ?_
  refine ro_callV0 (As := [.int iv]) (rest := []) (b := o) ctx hKK hP (c_X8_isPerson l g o a sc ar iv (show (sc 0) ≤ 8 from by omega)) gX8_friend_X8_isPerson rfl rfl rfl hdX8_isPerson ⟨Nat.le_of_ble_eq_true rfl, Nat.le_of_ble_eq_true rfl⟩ (ci := 8) (q0 := 0) rfl rfl hl.1 rfl rfl (Nat.le_of_ble_eq_true rfl) dX8_friend_2 (fun r_1 hr_1 => ?_)
  have hr_1 : r_1 = bI (inPb ((sc 0)) iv) := hr_1
  subst hr_1
  refine lv_if_eq (tgt := 17) hx hb dX8_friend_5 (by decide) (fun c_2 => ?_) (fun c_2 => ?_)
  · replace c_2 := bI_f c_2
    refine lv_iconst (v := (-1)) hx hb dX8_friend_17 (by decide) ?_
    exact hret (-1) 18 ls (by simp [c_2]) (rfl) dX8_friend_18
  · replace c_2 := bI_t c_2
    obtain ⟨i, hi, rfl⟩ := inPb_nat c_2 (by omega)
    refine lv_iload_n hx hb dX8_friend_8 rfl (lv_at hl 2 rfl) ?_
    refine lv_iconst (v := nI 0) hx hb dX8_friend_9 (by decide) ?_
    refine lv_iconst (v := nI 1) hx hb dX8_friend_10 (by decide) ?_
    refine ro_callS (As := [.int wv, .int (nI 0), .int (nI 1)]) (rest := []) ctx hKK hP (c_X8_in l g wv (nI 0) (nI 1)) gX8_friend_X8_in rfl rfl rfl hdX8_in ⟨Nat.le_of_ble_eq_true rfl, Nat.le_of_ble_eq_true rfl⟩ [] rfl hl.1 rfl rfl (Nat.le_of_ble_eq_true rfl) dX8_friend_11 (fun r_3 hr_3 => ?_)
    subst hr_3
    refine lv_if_ne (tgt := 19) hx hb dX8_friend_14 (by decide) (fun c_4 => ?_) (fun c_4 => ?_)
    · replace c_4 := bI_t c_4
      rw [isPb_inB] at c_4
      refine lv_bipush (v := (-4)) hx hb dX8_friend_19 (by decide) ?_
      refine lv_istore_n (lv' := [(3, .int (-4)), (0, .ref o), (1, .int (nI i)), (2, .int wv)]) hx hb dX8_friend_21 rfl hl (by decide) rfl (fun ls hl => ?_)
      refine lv_bipush (v := (-4)) hx hb dX8_friend_22 (by decide) ?_
      refine lv_istore (lv' := [(4, .int (-4)), (3, .int (-4)), (0, .ref o), (1, .int (nI i)), (2, .int wv)]) hx hb dX8_friend_24 hl (by decide) rfl (fun ls hl => ?_)
      refine lv_iconst (v := nI 0) hx hb dX8_friend_26 (by decide) ?_
      refine lv_istore (lv' := [(5, .int (nI 0)), (4, .int (-4)), (3, .int (-4)), (0, .ref o), (1, .int (nI i)), (2, .int wv)]) hx hb dX8_friend_27 hl (by decide) rfl (fun ls hl => ?_)
      have LP29 : ∀ (fu : Nat) (j : Nat) (x3 : Int32) (x4 : Int32), sc 0 - j < fu → (j ≤ sc 0) → (x3 = (mFr (ar 7) i j).1) → (x4 = (mFr (ar 7) i j).2) → ∀ (ls : Array Slot), lv_has ls 8 [(5, .int (nI j)), (4, .int x4), (3, .int x3), (0, .ref o), (1, .int (nI i)), (2, .int wv)] → W p l e ({ frames := 2, cells := 0, slots := 0, locals := 43 } : Room) s m args below meth c s.heap [] 0 0 Q (F0 m 29 ls []) := by
        intro fu
        induction fu with
        | zero => intro j x3 x4 hfu; exact absurd hfu (Nat.not_lt_zero _)
        | succ fu ih29 =>
          intro j x3 x4 hfu hj e3 e4 ls hl
          refine lv_iload hx hb dX8_friend_29 (lv_at hl 0 rfl) ?_
          refine lv_aload_n hx hb dX8_friend_31 rfl (lv_at hl 3 rfl) ?_
          refine va_get (D := g.1) (cl := vwCl) (ci := 8) (v := .int (nI (sc 0))) (C := RX8) (T := TX8) (N := 29) hx hb hts hX8_friend_X8 hown hK hP 0 rfl rfl 0 (by decide) (hts _ kX8_friend_f82) (fun _ h9 => h9) rfl dX8_friend_32 ?_
          refine lv_icmp_ge (tgt := 106) hx hb dX8_friend_35 (by decide) (fun c_5 => ?_) (fun c_5 => ?_)
          · replace c_5 : (sc 0) ≤ j := (nI_leI (a := sc 0) (b := j) (by omega) (by omega)).mp c_5
            refine lv_iload_n hx hb dX8_friend_106 rfl (lv_at hl 5 rfl) ?_
            refine lv_if_ne (tgt := 114) hx hb dX8_friend_107 (by decide) (fun c_6 => ?_) (fun c_6 => ?_)
            · refine lv_iload hx hb dX8_friend_114 (lv_at hl 1 rfl) ?_
              exact hret x4 116 ls (by rw [show j = sc 0 by omega] at e3 e4; simp [c_2, c_4, c_5, c_6, nI_clamp (show i < 2 ^ 31 by omega), isPb_0, ← e3, ← e4]) (rfl) dX8_friend_116
            · refine lv_iload_n hx hb dX8_friend_110 rfl (lv_at hl 2 rfl) ?_
              refine lv_goto (tgt := 116) hx hb dX8_friend_111 (by decide) ?_
              exact hret x3 116 ls (by rw [show j = sc 0 by omega] at e3 e4; simp [c_2, c_4, c_5, c_6, nI_clamp (show i < 2 ^ 31 by omega), isPb_0, ← e3, ← e4]) (rfl) dX8_friend_116
          · replace c_5 : ¬ (sc 0) ≤ j := fun h => c_5 ((nI_leI (a := sc 0) (b := j) (by omega) (by omega)).mpr h)
            refine lv_aload_n hx hb dX8_friend_38 rfl (lv_at hl 3 rfl) ?_
            refine va_get (D := g.1) (cl := vwCl) (ci := 8) (v := .ref (a 7)) (C := RX8) (T := TX8) (N := 29) hx hb hts hX8_friend_X8 hown hK hP 0 rfl rfl 7 (by decide) (hts _ kX8_friend_f19) (fun _ h9 => h9) rfl dX8_friend_39 ?_
            refine lv_iconst (v := nI 1) hx hb dX8_friend_42 (by decide) ?_
            refine lv_bipush (v := nI 8) hx hb dX8_friend_43 (by decide) ?_
            refine lv_iload hx hb dX8_friend_45 (lv_at hl 0 rfl) ?_
            refine lv_imul hx hb dX8_friend_47 ?_
            refine lv_is (pk_mul 8 j) ?_
            refine lv_iadd hx hb dX8_friend_48 ?_
            refine lv_is (nI_add 1 (8 * j)) ?_
            refine lv_iload_n hx hb dX8_friend_49 rfl (lv_at hl 4 rfl) ?_
            refine lv_iadd hx hb dX8_friend_50 ?_
            refine lv_is (nI_add (1 + (8 * j)) i) ?_
            refine ald_i (D := g.1) (cl := vwCl) (f := ar 7) (i := (1 + (8 * j)) + i) (n := 115) hx hb hK hP 4 0 rfl rfl (by omega) (by decide) dX8_friend_51 ?_
            refine lv_istore (lv' := [(6, .int ((ar 7) ((1 + (8 * j)) + i))), (5, .int (nI j)), (4, .int x4), (3, .int x3), (0, .ref o), (1, .int (nI i)), (2, .int wv)]) hx hb dX8_friend_52 hl (by decide) rfl (fun ls hl => ?_)
            refine lv_iload hx hb dX8_friend_54 (lv_at hl 1 rfl) ?_
            refine lv_iload_n hx hb dX8_friend_56 rfl (lv_at hl 5 rfl) ?_
            refine lv_icmp_eq (tgt := 71) hx hb dX8_friend_57 (by decide) (fun c_7 => ?_) (fun c_7 => ?_)
            · replace c_7 : j = i := (nI_eq (a := j) (b := i) (by omega) (by omega)).mp c_7
              refine lv_iconst (v := nI 0) hx hb dX8_friend_71 (by decide) ?_
              refine lv_istore (lv' := [(7, .int (nI 0)), (6, .int ((ar 7) ((1 + (8 * j)) + i))), (5, .int (nI j)), (4, .int x4), (3, .int x3), (0, .ref o), (1, .int (nI i)), (2, .int wv)]) hx hb dX8_friend_72 hl (by decide) rfl (fun ls hl => ?_)
              refine lv_iload hx hb dX8_friend_74 (lv_at hl 0 rfl) ?_
              refine lv_if_eq (tgt := 84) hx hb dX8_friend_76 (by decide) (fun c_8 => ?_) (fun c_8 => absurd c_8 (by decide))
              refine lv_iload_n hx hb dX8_friend_84 rfl (lv_at hl 4 rfl) ?_
              refine lv_istore_n (lv' := [(3, .int x3), (7, .int (nI 0)), (6, .int ((ar 7) ((1 + (8 * j)) + i))), (5, .int (nI j)), (4, .int x4), (0, .ref o), (1, .int (nI i)), (2, .int wv)]) hx hb dX8_friend_85 rfl hl (by decide) rfl (fun ls hl => ?_)
              refine lv_iload hx hb dX8_friend_86 (lv_at hl 1 rfl) ?_
              refine lv_if_eq (tgt := 96) hx hb dX8_friend_88 (by decide) (fun c_9 => ?_) (fun c_9 => absurd c_9 (by decide))
              refine lv_iload hx hb dX8_friend_96 (lv_at hl 4 rfl) ?_
              refine lv_istore (lv' := [(4, .int x4), (3, .int x3), (7, .int (nI 0)), (6, .int ((ar 7) ((1 + (8 * j)) + i))), (5, .int (nI j)), (0, .ref o), (1, .int (nI i)), (2, .int wv)]) hx hb dX8_friend_98 hl (by decide) rfl (fun ls hl => ?_)
              refine lv_iinc (v := nI (j + 1)) (lv' := [(5, .int (nI (j + 1))), (4, .int x4), (3, .int x3), (7, .int (nI 0)), (6, .int ((ar 7) ((1 + (8 * j)) + i))), (0, .ref o), (1, .int (nI i)), (2, .int wv)]) hx hb dX8_friend_100 hl (k := 4) rfl (iincK j 1) (by decide) rfl (fun ls hl => ?_)
              refine lv_goto (tgt := 29) hx hb dX8_friend_103 (by decide) ?_
              exact ih29 (j + 1) x3 x4 (by omega) (by omega) (by rw [mFr, if_neg (by rintro ⟨h1, h2⟩; first | exact h1 c_7 | (rw [← e4] at h2; exact h2 c_7))]; exact e3) (by rw [mFr, if_neg (by rintro ⟨h1, h2⟩; first | exact h1 c_7 | (rw [← e4] at h2; exact h2 c_7))]; exact e4) ls (lv_sub hl [0, 1, 2, 5, 6, 7] rfl)
            · replace c_7 : ¬ j = i := fun h => c_7 ((nI_eq (a := j) (b := i) (by omega) (by omega)).mpr h)
              refine lv_iload hx hb dX8_friend_60 (lv_at hl 0 rfl) ?_
              refine lv_iload hx hb dX8_friend_62 (lv_at hl 2 rfl) ?_
              refine lv_icmp_le (tgt := 71) hx hb dX8_friend_64 (by decide) (fun c_10 => ?_) (fun c_10 => ?_)
              · refine lv_iconst (v := nI 0) hx hb dX8_friend_71 (by decide) ?_
                refine lv_istore (lv' := [(7, .int (nI 0)), (6, .int ((ar 7) ((1 + (8 * j)) + i))), (5, .int (nI j)), (4, .int x4), (3, .int x3), (0, .ref o), (1, .int (nI i)), (2, .int wv)]) hx hb dX8_friend_72 hl (by decide) rfl (fun ls hl => ?_)
                refine lv_iload hx hb dX8_friend_74 (lv_at hl 0 rfl) ?_
                refine lv_if_eq (tgt := 84) hx hb dX8_friend_76 (by decide) (fun c_11 => ?_) (fun c_11 => absurd c_11 (by decide))
                refine lv_iload_n hx hb dX8_friend_84 rfl (lv_at hl 4 rfl) ?_
                refine lv_istore_n (lv' := [(3, .int x3), (7, .int (nI 0)), (6, .int ((ar 7) ((1 + (8 * j)) + i))), (5, .int (nI j)), (4, .int x4), (0, .ref o), (1, .int (nI i)), (2, .int wv)]) hx hb dX8_friend_85 rfl hl (by decide) rfl (fun ls hl => ?_)
                refine lv_iload hx hb dX8_friend_86 (lv_at hl 1 rfl) ?_
                refine lv_if_eq (tgt := 96) hx hb dX8_friend_88 (by decide) (fun c_12 => ?_) (fun c_12 => absurd c_12 (by decide))
                refine lv_iload hx hb dX8_friend_96 (lv_at hl 4 rfl) ?_
                refine lv_istore (lv' := [(4, .int x4), (3, .int x3), (7, .int (nI 0)), (6, .int ((ar 7) ((1 + (8 * j)) + i))), (5, .int (nI j)), (0, .ref o), (1, .int (nI i)), (2, .int wv)]) hx hb dX8_friend_98 hl (by decide) rfl (fun ls hl => ?_)
                refine lv_iinc (v := nI (j + 1)) (lv' := [(5, .int (nI (j + 1))), (4, .int x4), (3, .int x3), (7, .int (nI 0)), (6, .int ((ar 7) ((1 + (8 * j)) + i))), (0, .ref o), (1, .int (nI i)), (2, .int wv)]) hx hb dX8_friend_100 hl (k := 4) rfl (iincK j 1) (by decide) rfl (fun ls hl => ?_)
                refine lv_goto (tgt := 29) hx hb dX8_friend_103 (by decide) ?_
                exact ih29 (j + 1) x3 x4 (by omega) (by omega) (by rw [mFr, if_neg (by rintro ⟨h1, h2⟩; first | exact h1 c_10 | (rw [← e4] at h2; exact h2 c_10))]; exact e3) (by rw [mFr, if_neg (by rintro ⟨h1, h2⟩; first | exact h1 c_10 | (rw [← e4] at h2; exact h2 c_10))]; exact e4) ls (lv_sub hl [0, 1, 2, 5, 6, 7] rfl)
              · refine lv_iconst (v := nI 1) hx hb dX8_friend_67 (by decide) ?_
                refine lv_goto (tgt := 72) hx hb dX8_friend_68 (by decide) ?_
                refine lv_istore (lv' := [(7, .int (nI 1)), (6, .int ((ar 7) ((1 + (8 * j)) + i))), (5, .int (nI j)), (4, .int x4), (3, .int x3), (0, .ref o), (1, .int (nI i)), (2, .int wv)]) hx hb dX8_friend_72 hl (by decide) rfl (fun ls hl => ?_)
                refine lv_iload hx hb dX8_friend_74 (lv_at hl 0 rfl) ?_
                refine lv_if_eq (tgt := 84) hx hb dX8_friend_76 (by decide) (fun c_13 => absurd c_13 (by decide)) (fun c_13 => ?_)
                refine lv_iload hx hb dX8_friend_79 (lv_at hl 2 rfl) ?_
                refine lv_goto (tgt := 85) hx hb dX8_friend_81 (by decide) ?_
                refine lv_istore_n (lv' := [(3, .int (nI j)), (7, .int (nI 1)), (6, .int ((ar 7) ((1 + (8 * j)) + i))), (5, .int (nI j)), (4, .int x4), (0, .ref o), (1, .int (nI i)), (2, .int wv)]) hx hb dX8_friend_85 rfl hl (by decide) rfl (fun ls hl => ?_)
                refine lv_iload hx hb dX8_friend_86 (lv_at hl 1 rfl) ?_
                refine lv_if_eq (tgt := 96) hx hb dX8_friend_88 (by decide) (fun c_14 => absurd c_14 (by decide)) (fun c_14 => ?_)
                refine lv_iload hx hb dX8_friend_91 (lv_at hl 2 rfl) ?_
                refine lv_goto (tgt := 98) hx hb dX8_friend_93 (by decide) ?_
                refine lv_istore (lv' := [(4, .int ((ar 7) ((1 + (8 * j)) + i))), (3, .int (nI j)), (7, .int (nI 1)), (6, .int ((ar 7) ((1 + (8 * j)) + i))), (5, .int (nI j)), (0, .ref o), (1, .int (nI i)), (2, .int wv)]) hx hb dX8_friend_98 hl (by decide) rfl (fun ls hl => ?_)
                refine lv_iinc (v := nI (j + 1)) (lv' := [(5, .int (nI (j + 1))), (4, .int ((ar 7) ((1 + (8 * j)) + i))), (3, .int (nI j)), (7, .int (nI 1)), (6, .int ((ar 7) ((1 + (8 * j)) + i))), (0, .ref o), (1, .int (nI i)), (2, .int wv)]) hx hb dX8_friend_100 hl (k := 4) rfl (iincK j 1) (by decide) rfl (fun ls hl => ?_)
                refine lv_goto (tgt := 29) hx hb dX8_friend_103 (by decide) ?_
                exact ih29 (j + 1) (nI j) ((ar 7) ((1 + (8 * j)) + i)) (by omega) (by omega) (by rw [mFr, if_pos ⟨c_7, by rw [← e4]; exact c_10⟩]) (by rw [mFr, if_pos ⟨c_7, by rw [← e4]; exact c_10⟩]) ls (lv_sub hl [0, 1, 2, 5, 6, 7] rfl)
      exact LP29 (sc 0 + 1) 0 (-4) (-4) (by omega) (by omega) (rfl) (rfl) ls (lv_sub hl [0, 1, 2, 3, 4, 5] rfl)
    · replace c_4 := bI_f c_4
      rw [isPb_inB] at c_4
      refine lv_iconst (v := (-1)) hx hb dX8_friend_17 (by decide) ?_
      exact hret (-1) 18 ls (by simp [c_2, c_4, nI_clamp (show i < 2 ^ 31 by omega)]) (rfl) dX8_friend_18
theorem kX8_seen_f158 : (Cond.fieldLink RX8 158 "LastCallersWordModel" "seens" "I" : Cond) ∈ wsX8_seen := List.mem_cons_of_mem _ aw_330
theorem hX8_seen_X8 : ∀ w ∈ wsX80, w ∈ wsX8_seen := fun w h => List.mem_cons_of_mem _ (ac_X8 w h)
theorem kX8_seen_f28 : (Cond.fieldLink RX8 28 "LastCallersWordModel" "seen" "[I" : Cond) ∈ wsX8_seen := List.mem_cons_of_mem _ aw_294
set_option maxHeartbeats 400000 in
set_option maxRecDepth 100000 in
theorem c_X8_seen (l : Launch) (g : GG) (o : Nat) (a : Nat → Nat) (sc : Nat → Nat) (ar : Nat → Nat → Int32) (iv : Int32) (dv : Int32) (cv : Int32) (hP8 : sc 0 ≤ 8) (hD5 : sc 2 ≤ 5) (hS8 : sc 12 ≤ 8) : Met l yX8_seen wsX8_seen ({ frames := 2, cells := 0, slots := 0, locals := 43 } : Room) (wr g [.ref o, .int iv, .int dv, .int cv] (mW g o a sc ar)) (wQi g (mW g o a sc ar) (fun u : Nat × (Nat → Int32) => (mW g o a (updN sc 12 u.1) (upA ar 13 u.2))) (fun rr u => rr = (if inPb (sc 0) iv = true ∧ inPb (sc 2) dv = true ∧ isPb cv = true then (if sc 12 = 8 then -3 else nI (sc 12 + 1)) else -1) ∧ u = (if inPb (sc 0) iv = true ∧ inPb (sc 2) dv = true ∧ isPb cv = true ∧ ¬ sc 12 = 8 then (sc 12 + 1, upd (upd (upd (ar 13) (3 * sc 12) iv) ((3 * sc 12) + 1) dv) ((3 * sc 12) + 2) cv) else (sc 12, ar 13)))) 0 0 (cA (mW g o a sc ar)) := by
  refine wr_starti (cc := cX8_seen) (maxL := 4) (ty := .int) (by decide) rfl (Nat.le_of_ble_eq_true rfl) (fun p e s m args below meth c Q A C hP hD hS hret ls hl => ?_)
  obtain ⟨hx, hb, hml, hr, hown, hts, hlk, hKK⟩ := id C
  have hK := hKK.1
  have hown : s.vm.findClass RX8 = some m.cls := hown
  have ctx : CallFix p m c cX8_seen 4 s args wsX8_seen RX8 := ⟨hx, hb, hml, hown, hts⟩
  have hl : lv_has ls 4 [(0, .ref o), (1, .int iv), (2, .int dv), (3, .int cv)] := hl
  obtain ⟨H, hHe⟩ : ∃ H, H = s.heap := ⟨_, rfl⟩
  obtain ⟨locs, hLe⟩ : ∃ L : List Loc, L = [] := ⟨_, rfl⟩
  have hP : va_P g.1 vwCl (mW g o a sc ar) H := by rw [hHe]; exact hP
  have hS : va_S A s.heap H locs := by rw [hHe, hLe]; exact hS
  suffices hgo : W p l e ({ frames := 2, cells := 0, slots := 0, locals := 43 } : Room) s m args below meth c H locs 0 0 Q (F0 m 0 ls []) by rw [hHe, hLe] at hgo; exact hgo
  clear hHe hLe
  refine lv_aload_n hx hb dX8_seen_0 rfl (lv_at hl 0 rfl) ?_
  refine lv_iload_n hx hb dX8_seen_1 rfl (lv_at hl 1 rfl) ?_
  refine ro_callV0 (As := [.int iv]) (rest := []) (b := o) ctx hKK hP (c_X8_isPerson l g o a sc ar iv (show (sc 0) ≤ 8 from by omega)) gX8_seen_X8_isPerson rfl rfl rfl hdX8_isPerson ⟨Nat.le_of_ble_eq_true rfl, Nat.le_of_ble_eq_true rfl⟩ (ci := 8) (q0 := 0) rfl rfl hl.1 rfl rfl (Nat.le_of_ble_eq_true rfl) dX8_seen_2 (fun r_1 hr_1 => ?_)
  have hr_1 : r_1 = bI (inPb ((sc 0)) iv) := hr_1
  subst hr_1
  refine lv_if_eq (tgt := 25) hx hb dX8_seen_5 (by decide) (fun c_2 => ?_) (fun c_2 => ?_)
  · replace c_2 := bI_f c_2
    refine lv_iconst (v := (-1)) hx hb dX8_seen_25 (by decide) ?_
    exact hret (-1) (sc 12, ar 13) H locs 26 ls (⟨by simp [c_2], by simp [c_2]⟩) (hP) (hD) hS (rfl) dX8_seen_26
  · replace c_2 := bI_t c_2
    refine lv_aload_n hx hb dX8_seen_8 rfl (lv_at hl 0 rfl) ?_
    refine lv_iload_n hx hb dX8_seen_9 rfl (lv_at hl 2 rfl) ?_
    refine ro_callV0 (As := [.int dv]) (rest := []) (b := o) ctx hKK hP (c_X8_isDoor l g o a sc ar dv (show (sc 2) ≤ 5 from by omega)) gX8_seen_X8_isDoor rfl rfl rfl hdX8_isDoor ⟨Nat.le_of_ble_eq_true rfl, Nat.le_of_ble_eq_true rfl⟩ (ci := 8) (q0 := 0) rfl rfl hl.1 rfl rfl (Nat.le_of_ble_eq_true rfl) dX8_seen_10 (fun r_3 hr_3 => ?_)
    have hr_3 : r_3 = bI (inPb ((sc 2)) dv) := hr_3
    subst hr_3
    refine lv_if_eq (tgt := 25) hx hb dX8_seen_13 (by decide) (fun c_4 => ?_) (fun c_4 => ?_)
    · replace c_4 := bI_f c_4
      refine lv_iconst (v := (-1)) hx hb dX8_seen_25 (by decide) ?_
      exact hret (-1) (sc 12, ar 13) H locs 26 ls (⟨by simp [c_2, c_4], by simp [c_2, c_4]⟩) (hP) (hD) hS (rfl) dX8_seen_26
    · replace c_4 := bI_t c_4
      refine lv_iload_n hx hb dX8_seen_16 rfl (lv_at hl 3 rfl) ?_
      refine lv_iconst (v := nI 0) hx hb dX8_seen_17 (by decide) ?_
      refine lv_iconst (v := nI 1) hx hb dX8_seen_18 (by decide) ?_
      refine ro_callS (As := [.int cv, .int (nI 0), .int (nI 1)]) (rest := []) ctx hKK hP (c_X8_in l g cv (nI 0) (nI 1)) gX8_seen_X8_in rfl rfl rfl hdX8_in ⟨Nat.le_of_ble_eq_true rfl, Nat.le_of_ble_eq_true rfl⟩ [] rfl hl.1 rfl rfl (Nat.le_of_ble_eq_true rfl) dX8_seen_19 (fun r_5 hr_5 => ?_)
      subst hr_5
      refine lv_if_ne (tgt := 27) hx hb dX8_seen_22 (by decide) (fun c_6 => ?_) (fun c_6 => ?_)
      · replace c_6 := bI_t c_6
        rw [isPb_inB] at c_6
        refine lv_aload_n hx hb dX8_seen_27 rfl (lv_at hl 0 rfl) ?_
        refine va_get (D := g.1) (cl := vwCl) (ci := 8) (v := .int (nI (sc 12))) (C := RX8) (T := TX8) (N := 29) hx hb hts hX8_seen_X8 hown hK hP 0 rfl rfl 12 (by decide) (hts _ kX8_seen_f158) (fun _ h9 => h9) rfl dX8_seen_28 ?_
        refine lv_bipush (v := nI 8) hx hb dX8_seen_31 (by decide) ?_
        refine lv_icmp_ne (tgt := 39) hx hb dX8_seen_33 (by decide) (fun c_7 => ?_) (fun c_7 => ?_)
        · replace c_7 : ¬ (sc 12) = 8 := fun h => c_7 ((nI_eq (a := sc 12) (b := 8) (by omega) (by omega)).mpr h)
          refine lv_aload_n hx hb dX8_seen_39 rfl (lv_at hl 0 rfl) ?_
          refine va_get (D := g.1) (cl := vwCl) (ci := 8) (v := .ref (a 13)) (C := RX8) (T := TX8) (N := 29) hx hb hts hX8_seen_X8 hown hK hP 0 rfl rfl 13 (by decide) (hts _ kX8_seen_f28) (fun _ h9 => h9) rfl dX8_seen_40 ?_
          refine lv_iconst (v := nI 3) hx hb dX8_seen_43 (by decide) ?_
          refine lv_aload_n hx hb dX8_seen_44 rfl (lv_at hl 0 rfl) ?_
          refine va_get (D := g.1) (cl := vwCl) (ci := 8) (v := .int (nI (sc 12))) (C := RX8) (T := TX8) (N := 29) hx hb hts hX8_seen_X8 hown hK hP 0 rfl rfl 12 (by decide) (hts _ kX8_seen_f158) (fun _ h9 => h9) rfl dX8_seen_45 ?_
          refine lv_imul hx hb dX8_seen_48 ?_
          refine lv_is (pk_mul 3 (sc 12)) ?_
          refine lv_iload_n hx hb dX8_seen_49 rfl (lv_at hl 1 rfl) ?_
          refine ast_i (D := g.1) (cl := vwCl) (f := ar 13) (i := 3 * (sc 12)) (n := 24) (x := iv) hx hb hK hP hD hS 7 0 rfl rfl (by omega) (by decide) dX8_seen_50 (fun H locs hP hD hS => ?_)
          have hP : va_P g.1 vwCl (mW g o a sc (upA ar 13 (upd (ar 13) (3 * (sc 12)) iv))) H := hP
          have hD : va_D A (mW g o a sc (upA ar 13 (upd (ar 13) (3 * (sc 12)) iv))) := hD
          refine lv_aload_n hx hb dX8_seen_51 rfl (lv_at hl 0 rfl) ?_
          refine va_get (D := g.1) (cl := vwCl) (ci := 8) (v := .ref (a 13)) (C := RX8) (T := TX8) (N := 29) hx hb hts hX8_seen_X8 hown hK hP 0 rfl rfl 13 (by decide) (hts _ kX8_seen_f28) (fun _ h9 => h9) rfl dX8_seen_52 ?_
          refine lv_iconst (v := nI 3) hx hb dX8_seen_55 (by decide) ?_
          refine lv_aload_n hx hb dX8_seen_56 rfl (lv_at hl 0 rfl) ?_
          refine va_get (D := g.1) (cl := vwCl) (ci := 8) (v := .int (nI (sc 12))) (C := RX8) (T := TX8) (N := 29) hx hb hts hX8_seen_X8 hown hK hP 0 rfl rfl 12 (by decide) (hts _ kX8_seen_f158) (fun _ h9 => h9) rfl dX8_seen_57 ?_
          refine lv_imul hx hb dX8_seen_60 ?_
          refine lv_is (pk_mul 3 (sc 12)) ?_
          refine lv_iconst (v := nI 1) hx hb dX8_seen_61 (by decide) ?_
          refine lv_iadd hx hb dX8_seen_62 ?_
          refine lv_is (nI_add (3 * (sc 12)) 1) ?_
          refine lv_iload_n hx hb dX8_seen_63 rfl (lv_at hl 2 rfl) ?_
          refine ast_i (D := g.1) (cl := vwCl) (f := upd (ar 13) (3 * (sc 12)) iv) (i := (3 * (sc 12)) + 1) (n := 24) (x := dv) hx hb hK hP hD hS 7 0 rfl rfl (by omega) (by decide) dX8_seen_64 (fun H locs hP hD hS => ?_)
          have hP : va_P g.1 vwCl (mW g o a sc (upA ar 13 (upd (upd (ar 13) (3 * (sc 12)) iv) ((3 * (sc 12)) + 1) dv))) H := hP
          have hD : va_D A (mW g o a sc (upA ar 13 (upd (upd (ar 13) (3 * (sc 12)) iv) ((3 * (sc 12)) + 1) dv))) := hD
          refine lv_aload_n hx hb dX8_seen_65 rfl (lv_at hl 0 rfl) ?_
          refine va_get (D := g.1) (cl := vwCl) (ci := 8) (v := .ref (a 13)) (C := RX8) (T := TX8) (N := 29) hx hb hts hX8_seen_X8 hown hK hP 0 rfl rfl 13 (by decide) (hts _ kX8_seen_f28) (fun _ h9 => h9) rfl dX8_seen_66 ?_
          refine lv_iconst (v := nI 3) hx hb dX8_seen_69 (by decide) ?_
          refine lv_aload_n hx hb dX8_seen_70 rfl (lv_at hl 0 rfl) ?_
          refine va_get (D := g.1) (cl := vwCl) (ci := 8) (v := .int (nI (sc 12))) (C := RX8) (T := TX8) (N := 29) hx hb hts hX8_seen_X8 hown hK hP 0 rfl rfl 12 (by decide) (hts _ kX8_seen_f158) (fun _ h9 => h9) rfl dX8_seen_71 ?_
          refine lv_imul hx hb dX8_seen_74 ?_
          refine lv_is (pk_mul 3 (sc 12)) ?_
          refine lv_iconst (v := nI 2) hx hb dX8_seen_75 (by decide) ?_
          refine lv_iadd hx hb dX8_seen_76 ?_
          refine lv_is (nI_add (3 * (sc 12)) 2) ?_
          refine lv_iload_n hx hb dX8_seen_77 rfl (lv_at hl 3 rfl) ?_
          refine ast_i (D := g.1) (cl := vwCl) (f := upd (upd (ar 13) (3 * (sc 12)) iv) ((3 * (sc 12)) + 1) dv) (i := (3 * (sc 12)) + 2) (n := 24) (x := cv) hx hb hK hP hD hS 7 0 rfl rfl (by omega) (by decide) dX8_seen_78 (fun H locs hP hD hS => ?_)
          have hP : va_P g.1 vwCl (mW g o a sc (upA ar 13 (upd (upd (upd (ar 13) (3 * (sc 12)) iv) ((3 * (sc 12)) + 1) dv) ((3 * (sc 12)) + 2) cv))) H := hP
          have hD : va_D A (mW g o a sc (upA ar 13 (upd (upd (upd (ar 13) (3 * (sc 12)) iv) ((3 * (sc 12)) + 1) dv) ((3 * (sc 12)) + 2) cv))) := hD
          refine lv_aload_n hx hb dX8_seen_79 rfl (lv_at hl 0 rfl) ?_
          refine lv_dup hx hb dX8_seen_80 rfl ?_
          refine va_get (D := g.1) (cl := vwCl) (ci := 8) (v := .int (nI (sc 12))) (C := RX8) (T := TX8) (N := 29) hx hb hts hX8_seen_X8 hown hK hP 0 rfl rfl 12 (by decide) (hts _ kX8_seen_f158) (fun _ h9 => h9) rfl dX8_seen_81 ?_
          refine lv_iconst (v := nI 1) hx hb dX8_seen_84 (by decide) ?_
          refine lv_iadd hx hb dX8_seen_85 ?_
          refine lv_is (nI_add (sc 12) 1) ?_
          refine va_put (D := g.1) (cl := vwCl) (ci := 8) (v := .int (nI ((sc 12) + 1))) (ty := .int) (C := RX8) (T := TX8) (N := 29) hx hb hts hX8_seen_X8 tyX8 tyX8_ok nmX8 hown hK hP hD hS 0 rfl rfl 12 (by decide) (hts _ kX8_seen_f158) (fun _ h9 => h9) rfl (by decide +kernel) (rfl) (rfl) (Nat.le_of_ble_eq_true rfl) dX8_seen_86 (fun H locs hP hD hS => ?_)
          have hP : va_P g.1 vwCl (mW g o a (updN sc 12 ((sc 12) + 1)) (upA ar 13 (upd (upd (upd (ar 13) (3 * (sc 12)) iv) ((3 * (sc 12)) + 1) dv) ((3 * (sc 12)) + 2) cv))) H := hP
          have hD : va_D A (mW g o a (updN sc 12 ((sc 12) + 1)) (upA ar 13 (upd (upd (upd (ar 13) (3 * (sc 12)) iv) ((3 * (sc 12)) + 1) dv) ((3 * (sc 12)) + 2) cv))) := hD
          refine lv_aload_n hx hb dX8_seen_89 rfl (lv_at hl 0 rfl) ?_
          refine va_get (D := g.1) (cl := vwCl) (ci := 8) (v := .int (nI ((sc 12) + 1))) (C := RX8) (T := TX8) (N := 29) hx hb hts hX8_seen_X8 hown hK hP 0 rfl rfl 12 (by decide) (hts _ kX8_seen_f158) (fun _ h9 => h9) rfl dX8_seen_90 ?_
          exact hret (nI ((sc 12) + 1)) ((sc 12) + 1, upd (upd (upd (ar 13) (3 * (sc 12)) iv) ((3 * (sc 12)) + 1) dv) ((3 * (sc 12)) + 2) cv) H locs 93 ls (⟨by simp [c_2, c_4, c_6, c_7], by simp [c_2, c_4, c_6, c_7]⟩) (hP) (hD) hS (rfl) dX8_seen_93
        · replace c_7 : (sc 12) = 8 := (nI_eq (a := sc 12) (b := 8) (by omega) (by omega)).mp c_7
          refine lv_bipush (v := (-3)) hx hb dX8_seen_36 (by decide) ?_
          exact hret (-3) (sc 12, ar 13) H locs 38 ls (⟨by simp [c_2, c_4, c_6, c_7], by simp [c_2, c_4, c_6, c_7]⟩) (hP) (hD) hS (rfl) dX8_seen_38
      · replace c_6 := bI_f c_6
        rw [isPb_inB] at c_6
        refine lv_iconst (v := (-1)) hx hb dX8_seen_25 (by decide) ?_
        exact hret (-1) (sc 12, ar 13) H locs 26 ls (⟨by simp [c_2, c_4, c_6], by simp [c_2, c_4, c_6]⟩) (hP) (hD) hS (rfl) dX8_seen_26
theorem kX8_forget_f158 : (Cond.fieldLink RX8 158 "LastCallersWordModel" "seens" "I" : Cond) ∈ wsX8_forget := List.mem_cons_of_mem _ aw_330
theorem hX8_forget_X8 : ∀ w ∈ wsX80, w ∈ wsX8_forget := fun w h => List.mem_cons_of_mem _ (ac_X8 w h)
set_option maxHeartbeats 400000 in
set_option maxRecDepth 100000 in
theorem c_X8_forget (l : Launch) (g : GG) (o : Nat) (a : Nat → Nat) (sc : Nat → Nat) (ar : Nat → Nat → Int32) : Met l yX8_forget wsX8_forget ({ frames := 0, cells := 0, slots := 0, locals := 0 } : Room) (wr g [.ref o] (mW g o a sc ar)) (wQi g (mW g o a sc ar) (fun u : Unit => (mW g o a (updN sc 12 0) ar)) (fun rr u => rr = nI (sc 12))) 0 0 (cA (mW g o a sc ar)) := by
  refine wr_starti (cc := cX8_forget) (maxL := 2) (ty := .int) (by decide) rfl (Nat.le_of_ble_eq_true rfl) (fun p e s m args below meth c Q A C hP hD hS hret ls hl => ?_)
  obtain ⟨hx, hb, hml, hr, hown, hts, hlk, hKK⟩ := id C
  have hK := hKK.1
  have hown : s.vm.findClass RX8 = some m.cls := hown
  have ctx : CallFix p m c cX8_forget 2 s args wsX8_forget RX8 := ⟨hx, hb, hml, hown, hts⟩
  have hl : lv_has ls 2 [(0, .ref o)] := hl
  obtain ⟨H, hHe⟩ : ∃ H, H = s.heap := ⟨_, rfl⟩
  obtain ⟨locs, hLe⟩ : ∃ L : List Loc, L = [] := ⟨_, rfl⟩
  have hP : va_P g.1 vwCl (mW g o a sc ar) H := by rw [hHe]; exact hP
  have hS : va_S A s.heap H locs := by rw [hHe, hLe]; exact hS
  suffices hgo : W p l e ({ frames := 0, cells := 0, slots := 0, locals := 0 } : Room) s m args below meth c H locs 0 0 Q (F0 m 0 ls []) by rw [hHe, hLe] at hgo; exact hgo
  clear hHe hLe
  refine lv_aload_n hx hb dX8_forget_0 rfl (lv_at hl 0 rfl) ?_
  refine va_get (D := g.1) (cl := vwCl) (ci := 8) (v := .int (nI (sc 12))) (C := RX8) (T := TX8) (N := 29) hx hb hts hX8_forget_X8 hown hK hP 0 rfl rfl 12 (by decide) (hts _ kX8_forget_f158) (fun _ h9 => h9) rfl dX8_forget_1 ?_
  refine lv_istore_n (lv' := [(1, .int (nI (sc 12))), (0, .ref o)]) hx hb dX8_forget_4 rfl hl (by decide) rfl (fun ls hl => ?_)
  refine lv_aload_n hx hb dX8_forget_5 rfl (lv_at hl 1 rfl) ?_
  refine lv_iconst (v := nI 0) hx hb dX8_forget_6 (by decide) ?_
  refine va_put (D := g.1) (cl := vwCl) (ci := 8) (v := .int (nI 0)) (ty := .int) (C := RX8) (T := TX8) (N := 29) hx hb hts hX8_forget_X8 tyX8 tyX8_ok nmX8 hown hK hP hD hS 0 rfl rfl 12 (by decide) (hts _ kX8_forget_f158) (fun _ h9 => h9) rfl (by decide +kernel) (rfl) (rfl) (Nat.le_of_ble_eq_true rfl) dX8_forget_7 (fun H locs hP hD hS => ?_)
  have hP : va_P g.1 vwCl (mW g o a (updN sc 12 0) ar) H := hP
  have hD : va_D A (mW g o a (updN sc 12 0) ar) := hD
  refine lv_iload_n hx hb dX8_forget_10 rfl (lv_at hl 0 rfl) ?_
  exact hret (nI (sc 12)) () H locs 11 ls (rfl) (hP) (hD) hS (rfl) dX8_forget_11
theorem kX8_called_f82 : (Cond.fieldLink RX8 82 "LastCallersWordModel" "persons" "I" : Cond) ∈ wsX8_called := List.mem_cons_of_mem _ aw_324
theorem hX8_called_X8 : ∀ w ∈ wsX80, w ∈ wsX8_called := fun w h => List.mem_cons_of_mem _ (ac_X8 w h)
theorem kX8_called_f158 : (Cond.fieldLink RX8 158 "LastCallersWordModel" "seens" "I" : Cond) ∈ wsX8_called := List.mem_cons_of_mem _ aw_330
theorem kX8_called_f28 : (Cond.fieldLink RX8 28 "LastCallersWordModel" "seen" "[I" : Cond) ∈ wsX8_called := List.mem_cons_of_mem _ aw_294
set_option maxHeartbeats 400000 in
set_option maxRecDepth 100000 in
theorem c_X8_called (l : Launch) (g : GG) (o : Nat) (a : Nat → Nat) (sc : Nat → Nat) (ar : Nat → Nat → Int32) (dv : Int32) (hP8 : sc 0 ≤ 8) (hD5 : sc 2 ≤ 5) (hS8 : sc 12 ≤ 8) : Met l yX8_called wsX8_called ({ frames := 3, cells := 0, slots := 0, locals := 74 } : Room) (wr g [.ref o, .int dv] (mW g o a sc ar)) (wQi g (mW g o a sc ar) (fun u : (Nat → Int32) => (mW g o a sc (upA ar 28 u))) (fun rr u => rr = (if inPb (sc 2) dv = true then mCd (ar 1) (ar 7) (ar 13) (sc 0) (sc 12) dv (sc 0) else -1))) 0 0 (cA (mW g o a sc ar)) := by
  refine wr_starti (cc := cX8_called) (maxL := 7) (ty := .int) (by decide) rfl (Nat.le_of_ble_eq_true rfl) (fun p e s m args below meth c Q A C hP hD hS hret ls hl => ?_)
  obtain ⟨hx, hb, hml, hr, hown, hts, hlk, hKK⟩ := id C
  have hK := hKK.1
  have hown : s.vm.findClass RX8 = some m.cls := hown
  have ctx : CallFix p m c cX8_called 7 s args wsX8_called RX8 := ⟨hx, hb, hml, hown, hts⟩
  have hl : lv_has ls 7 [(0, .ref o), (1, .int dv)] := hl
  obtain ⟨H, hHe⟩ : ∃ H, H = s.heap := ⟨_, rfl⟩
  obtain ⟨locs, hLe⟩ : ∃ L : List Loc, L = [] := ⟨_, rfl⟩
  have hP : va_P g.1 vwCl (mW g o a sc ar) H := by rw [hHe]; exact hP
  have hS : va_S A s.heap H locs := by rw [hHe, hLe]; exact hS
  suffices hgo : W p l e ({ frames := 3, cells := 0, slots := 0, locals := 74 } : Room) s m args below meth c H locs 0 0 Q (F0 m 0 ls []) by rw [hHe, hLe] at hgo; exact hgo
  clear hHe hLe
  refine lv_aload_n hx hb dX8_called_0 rfl (lv_at hl 0 rfl) ?_
  refine lv_iload_n hx hb dX8_called_1 rfl (lv_at hl 1 rfl) ?_
  refine ro_callV0 (As := [.int dv]) (rest := []) (b := o) ctx hKK hP (c_X8_isDoor l g o a sc ar dv (show (sc 2) ≤ 5 from by omega)) gX8_called_X8_isDoor rfl rfl rfl hdX8_isDoor ⟨Nat.le_of_ble_eq_true rfl, Nat.le_of_ble_eq_true rfl⟩ (ci := 8) (q0 := 0) rfl rfl hl.1 rfl rfl (Nat.le_of_ble_eq_true rfl) dX8_called_2 (fun r_1 hr_1 => ?_)
  have hr_1 : r_1 = bI (inPb ((sc 2)) dv) := hr_1
  subst hr_1
  refine lv_if_ne (tgt := 10) hx hb dX8_called_5 (by decide) (fun c_2 => ?_) (fun c_2 => ?_)
  · replace c_2 := bI_t c_2
    refine lv_aload_n hx hb dX8_called_10 rfl (lv_at hl 0 rfl) ?_
    refine wr_callVv0 (As := []) (rest := []) (b := o) ctx hKK hP hD hS (c_X8_asItIs l g o a sc ar) gX8_called_X8_asItIs rfl rfl rfl hdX8_asItIs ⟨Nat.le_of_ble_eq_true rfl, Nat.le_of_ble_eq_true rfl⟩ (ci := 8) (q0 := 0) rfl rfl hl.1 rfl rfl (Nat.le_of_ble_eq_true rfl) dX8_called_11 (fun u_4 H locs hr_3 hP hD hS => ?_)
    have hP : va_P g.1 vwCl (mW g o a sc (upA ar 28 (ar 7))) H := hP
    have hD : va_D A (mW g o a sc (upA ar 28 (ar 7))) := hD
    refine lv_iconst (v := nI 0) hx hb dX8_called_14 (by decide) ?_
    refine lv_istore_n (lv' := [(2, .int (nI 0)), (0, .ref o), (1, .int dv)]) hx hb dX8_called_15 rfl hl (by decide) rfl (fun ls hl => ?_)
    refine lv_iconst (v := nI 0) hx hb dX8_called_16 (by decide) ?_
    refine lv_istore_n (lv' := [(3, .int (nI 0)), (2, .int (nI 0)), (0, .ref o), (1, .int dv)]) hx hb dX8_called_17 rfl hl (by decide) rfl (fun ls hl => ?_)
    have LP18 : ∀ (fu : Nat) (j : Nat) (x2 : Int32), sc 0 - j < fu → (j ≤ sc 0) → (x2 = mCd (ar 1) (ar 7) (ar 13) (sc 0) (sc 12) dv j) → ∀ (H : Heap) (locs : List Loc), va_P g.1 vwCl (mW g o a sc (upA ar 28 (ar 7))) H → va_D A (mW g o a sc (upA ar 28 (ar 7))) → va_S A s.heap H locs → ∀ (ls : Array Slot), lv_has ls 7 [(3, .int (nI j)), (2, .int x2), (0, .ref o), (1, .int dv)] → W p l e ({ frames := 3, cells := 0, slots := 0, locals := 74 } : Room) s m args below meth c H locs 0 0 Q (F0 m 18 ls []) := by
      intro fu
      induction fu with
      | zero => intro j x2 hfu; exact absurd hfu (Nat.not_lt_zero _)
      | succ fu ih18 =>
        intro j x2 hfu hj e2 H locs hP hD hS ls hl
        refine lv_iload_n hx hb dX8_called_18 rfl (lv_at hl 0 rfl) ?_
        refine lv_aload_n hx hb dX8_called_19 rfl (lv_at hl 2 rfl) ?_
        refine va_get (D := g.1) (cl := vwCl) (ci := 8) (v := .int (nI (sc 0))) (C := RX8) (T := TX8) (N := 29) hx hb hts hX8_called_X8 hown hK hP 0 rfl rfl 0 (by decide) (hts _ kX8_called_f82) (fun _ h9 => h9) rfl dX8_called_20 ?_
        refine lv_icmp_ge (tgt := 139) hx hb dX8_called_23 (by decide) (fun c_5 => ?_) (fun c_5 => ?_)
        · replace c_5 : (sc 0) ≤ j := (nI_leI (a := sc 0) (b := j) (by omega) (by omega)).mp c_5
          refine lv_iload_n hx hb dX8_called_139 rfl (lv_at hl 1 rfl) ?_
          exact hret x2 (ar 7) H locs 140 ls (by rw [if_pos (by assumption), e2, show j = sc 0 by omega]) (hP) (hD) hS (rfl) dX8_called_140
        · replace c_5 : ¬ (sc 0) ≤ j := fun h => c_5 ((nI_leI (a := sc 0) (b := j) (by omega) (by omega)).mpr h)
          refine lv_aload_n hx hb dX8_called_26 rfl (lv_at hl 2 rfl) ?_
          refine lv_iload_n hx hb dX8_called_27 rfl (lv_at hl 0 rfl) ?_
          refine ro_callV0 (As := [.int (nI j)]) (rest := []) (b := o) ctx hKK hP (c_X8_tellsTo l g o a sc (upA ar 28 (ar 7)) j (show (sc 0) ≤ 8 from by omega) (show j < 8 from by omega)) gX8_called_X8_tellsTo rfl rfl rfl hdX8_tellsTo ⟨Nat.le_of_ble_eq_true rfl, Nat.le_of_ble_eq_true rfl⟩ (ci := 8) (q0 := 0) rfl rfl hl.1 rfl rfl (Nat.le_of_ble_eq_true rfl) dX8_called_28 (fun r_6 hr_6 => ?_)
          have hr_6 : r_6 = mTell ((ar 1)) ((ar 7)) ((sc 0)) j := hr_6
          subst hr_6
          refine lv_istore (lv' := [(4, .int (mTell ((ar 1)) ((ar 7)) ((sc 0)) j)), (3, .int (nI j)), (2, .int x2), (0, .ref o), (1, .int dv)]) hx hb dX8_called_31 hl (by decide) rfl (fun ls hl => ?_)
          refine lv_iconst (v := nI 1) hx hb dX8_called_33 (by decide) ?_
          refine lv_istore (lv' := [(5, .int (nI 1)), (4, .int (mTell ((ar 1)) ((ar 7)) ((sc 0)) j)), (3, .int (nI j)), (2, .int x2), (0, .ref o), (1, .int dv)]) hx hb dX8_called_34 hl (by decide) rfl (fun ls hl => ?_)
          refine lv_iconst (v := nI 0) hx hb dX8_called_36 (by decide) ?_
          refine lv_istore (lv' := [(6, .int (nI 0)), (5, .int (nI 1)), (4, .int (mTell ((ar 1)) ((ar 7)) ((sc 0)) j)), (3, .int (nI j)), (2, .int x2), (0, .ref o), (1, .int dv)]) hx hb dX8_called_37 hl (by decide) rfl (fun ls hl => ?_)
          have LP39 : ∀ (fu : Nat) (k : Nat) (x5 : Nat), sc 12 - k < fu → (k ≤ sc 12) → (x5 ≤ 1) → (x5 = mCk (ar 13) (mTell (ar 1) (ar 7) (sc 0) j) dv k) → ∀ (H : Heap) (locs : List Loc), va_P g.1 vwCl (mW g o a sc (upA ar 28 (ar 7))) H → va_D A (mW g o a sc (upA ar 28 (ar 7))) → va_S A s.heap H locs → ∀ (ls : Array Slot), lv_has ls 7 [(6, .int (nI k)), (5, .int (nI x5)), (4, .int (mTell ((ar 1)) ((ar 7)) ((sc 0)) j)), (3, .int (nI j)), (2, .int x2), (0, .ref o), (1, .int dv)] → W p l e ({ frames := 3, cells := 0, slots := 0, locals := 74 } : Room) s m args below meth c H locs 0 0 Q (F0 m 39 ls []) := by
            intro fu
            induction fu with
            | zero => intro k x5 hfu; exact absurd hfu (Nat.not_lt_zero _)
            | succ fu ih39 =>
              intro k x5 hfu hk h5 e5 H locs hP hD hS ls hl
              refine lv_iload hx hb dX8_called_39 (lv_at hl 0 rfl) ?_
              refine lv_aload_n hx hb dX8_called_41 rfl (lv_at hl 5 rfl) ?_
              refine va_get (D := g.1) (cl := vwCl) (ci := 8) (v := .int (nI (sc 12))) (C := RX8) (T := TX8) (N := 29) hx hb hts hX8_called_X8 hown hK hP 0 rfl rfl 12 (by decide) (hts _ kX8_called_f158) (fun _ h9 => h9) rfl dX8_called_42 ?_
              refine lv_icmp_ge (tgt := 118) hx hb dX8_called_45 (by decide) (fun c_7 => ?_) (fun c_7 => ?_)
              · replace c_7 : (sc 12) ≤ k := (nI_leI (a := sc 12) (b := k) (by omega) (by omega)).mp c_7
                refine lv_iload_n hx hb dX8_called_118 rfl (lv_at hl 4 rfl) ?_
                refine lv_iload hx hb dX8_called_119 (lv_at hl 1 rfl) ?_
                refine lv_if_eq (tgt := 130) hx hb dX8_called_121 (by decide) (fun c_8 => ?_) (fun c_8 => ?_)
                · replace c_8 : x5 = 0 := (nI_eq (a := x5) (b := 0) (by omega) (by omega)).mp c_8
                  refine lv_iconst (v := nI 0) hx hb dX8_called_130 (by decide) ?_
                  refine lv_ior hx hb dX8_called_131 ?_
                  refine lv_istore_n (lv' := [(2, .int (x2 ||| (nI 0))), (6, .int (nI k)), (5, .int (nI x5)), (4, .int (mTell ((ar 1)) ((ar 7)) ((sc 0)) j)), (3, .int (nI j)), (0, .ref o), (1, .int dv)]) hx hb dX8_called_132 rfl hl (by decide) rfl (fun ls hl => ?_)
                  refine lv_iinc (v := nI (j + 1)) (lv' := [(3, .int (nI (j + 1))), (2, .int (x2 ||| (nI 0))), (6, .int (nI k)), (5, .int (nI x5)), (4, .int (mTell ((ar 1)) ((ar 7)) ((sc 0)) j)), (0, .ref o), (1, .int dv)]) hx hb dX8_called_133 hl (k := 4) rfl (iincK j 1) (by decide) rfl (fun ls hl => ?_)
                  refine lv_goto (tgt := 18) hx hb dX8_called_136 (by decide) ?_
                  exact ih18 (j + 1) (x2 ||| (nI 0)) (by omega) (by omega) (by rw [mCd, ← e2, ← show k = sc 12 by omega, ← e5]; simp [c_2, c_5, c_7, c_8]) _ _ hP hD hS ls (lv_sub hl [0, 1, 5, 6] rfl)
                · replace c_8 : ¬ x5 = 0 := fun h => c_8 ((nI_eq (a := x5) (b := 0) (by omega) (by omega)).mpr h)
                  refine lv_iconst (v := nI 1) hx hb dX8_called_124 (by decide) ?_
                  refine lv_iload_n hx hb dX8_called_125 rfl (lv_at hl 3 rfl) ?_
                  refine lv_ishl hx hb dX8_called_126 ?_
                  refine lv_goto (tgt := 131) hx hb dX8_called_127 (by decide) ?_
                  refine lv_ior hx hb dX8_called_131 ?_
                  refine lv_istore_n (lv' := [(2, .int (x2 ||| ((nI 1) <<< ((nI j) &&& 31)))), (6, .int (nI k)), (5, .int (nI x5)), (4, .int (mTell ((ar 1)) ((ar 7)) ((sc 0)) j)), (3, .int (nI j)), (0, .ref o), (1, .int dv)]) hx hb dX8_called_132 rfl hl (by decide) rfl (fun ls hl => ?_)
                  refine lv_iinc (v := nI (j + 1)) (lv' := [(3, .int (nI (j + 1))), (2, .int (x2 ||| ((nI 1) <<< ((nI j) &&& 31)))), (6, .int (nI k)), (5, .int (nI x5)), (4, .int (mTell ((ar 1)) ((ar 7)) ((sc 0)) j)), (0, .ref o), (1, .int dv)]) hx hb dX8_called_133 hl (k := 4) rfl (iincK j 1) (by decide) rfl (fun ls hl => ?_)
                  refine lv_goto (tgt := 18) hx hb dX8_called_136 (by decide) ?_
                  exact ih18 (j + 1) (x2 ||| ((nI 1) <<< ((nI j) &&& 31))) (by omega) (by omega) (by rw [mCd, ← e2, ← show k = sc 12 by omega, ← e5]; simp [c_2, c_5, c_7, c_8]) _ _ hP hD hS ls (lv_sub hl [0, 1, 5, 6] rfl)
              · replace c_7 : ¬ (sc 12) ≤ k := fun h => c_7 ((nI_leI (a := sc 12) (b := k) (by omega) (by omega)).mpr h)
                refine lv_iload hx hb dX8_called_48 (lv_at hl 1 rfl) ?_
                refine lv_if_eq (tgt := 109) hx hb dX8_called_50 (by decide) (fun c_9 => ?_) (fun c_9 => ?_)
                · replace c_9 : x5 = 0 := (nI_eq (a := x5) (b := 0) (by omega) (by omega)).mp c_9
                  refine lv_iconst (v := nI 0) hx hb dX8_called_109 (by decide) ?_
                  refine lv_istore (lv' := [(5, .int (nI 0)), (6, .int (nI k)), (4, .int (mTell ((ar 1)) ((ar 7)) ((sc 0)) j)), (3, .int (nI j)), (2, .int x2), (0, .ref o), (1, .int dv)]) hx hb dX8_called_110 hl (by decide) rfl (fun ls hl => ?_)
                  refine lv_iinc (v := nI (k + 1)) (lv' := [(6, .int (nI (k + 1))), (5, .int (nI 0)), (4, .int (mTell ((ar 1)) ((ar 7)) ((sc 0)) j)), (3, .int (nI j)), (2, .int x2), (0, .ref o), (1, .int dv)]) hx hb dX8_called_112 hl (k := 1) rfl (iincK k 1) (by decide) rfl (fun ls hl => ?_)
                  refine lv_goto (tgt := 39) hx hb dX8_called_115 (by decide) ?_
                  exact ih39 (k + 1) 0 (by omega) (by omega) (by omega) (by rw [mCk, ← e5]; simp (decide := true) [c_2, c_5, c_7, c_9]) _ _ hP hD hS ls (lv_sub hl [0, 1, 2, 3, 4, 5, 6] rfl)
                · replace c_9 : ¬ x5 = 0 := fun h => c_9 ((nI_eq (a := x5) (b := 0) (by omega) (by omega)).mpr h)
                  refine lv_aload_n hx hb dX8_called_53 rfl (lv_at hl 5 rfl) ?_
                  refine va_get (D := g.1) (cl := vwCl) (ci := 8) (v := .ref (a 13)) (C := RX8) (T := TX8) (N := 29) hx hb hts hX8_called_X8 hown hK hP 0 rfl rfl 13 (by decide) (hts _ kX8_called_f28) (fun _ h9 => h9) rfl dX8_called_54 ?_
                  refine lv_iconst (v := nI 3) hx hb dX8_called_57 (by decide) ?_
                  refine lv_iload hx hb dX8_called_58 (lv_at hl 0 rfl) ?_
                  refine lv_imul hx hb dX8_called_60 ?_
                  refine lv_is (pk_mul 3 k) ?_
                  refine lv_iconst (v := nI 1) hx hb dX8_called_61 (by decide) ?_
                  refine lv_iadd hx hb dX8_called_62 ?_
                  refine lv_is (nI_add (3 * k) 1) ?_
                  refine ald_i (D := g.1) (cl := vwCl) (f := ar 13) (i := (3 * k) + 1) (n := 24) hx hb hK hP 7 0 rfl rfl (by omega) (by decide) dX8_called_63 ?_
                  refine lv_iload_n hx hb dX8_called_64 rfl (lv_at hl 6 rfl) ?_
                  refine lv_icmp_ne (tgt := 105) hx hb dX8_called_65 (by decide) (fun c_10 => ?_) (fun c_10 => ?_)
                  · refine lv_iconst (v := nI 1) hx hb dX8_called_105 (by decide) ?_
                    refine lv_goto (tgt := 110) hx hb dX8_called_106 (by decide) ?_
                    refine lv_istore (lv' := [(5, .int (nI 1)), (6, .int (nI k)), (4, .int (mTell ((ar 1)) ((ar 7)) ((sc 0)) j)), (3, .int (nI j)), (2, .int x2), (0, .ref o), (1, .int dv)]) hx hb dX8_called_110 hl (by decide) rfl (fun ls hl => ?_)
                    refine lv_iinc (v := nI (k + 1)) (lv' := [(6, .int (nI (k + 1))), (5, .int (nI 1)), (4, .int (mTell ((ar 1)) ((ar 7)) ((sc 0)) j)), (3, .int (nI j)), (2, .int x2), (0, .ref o), (1, .int dv)]) hx hb dX8_called_112 hl (k := 1) rfl (iincK k 1) (by decide) rfl (fun ls hl => ?_)
                    refine lv_goto (tgt := 39) hx hb dX8_called_115 (by decide) ?_
                    exact ih39 (k + 1) 1 (by omega) (by omega) (by omega) (by rw [mCk, ← e5]; simp (decide := true) [c_2, c_5, c_7, c_9, c_10]) _ _ hP hD hS ls (lv_sub hl [0, 1, 2, 3, 4, 5, 6] rfl)
                  · refine lv_iload hx hb dX8_called_68 (lv_at hl 2 rfl) ?_
                    refine lv_aload_n hx hb dX8_called_70 rfl (lv_at hl 5 rfl) ?_
                    refine va_get (D := g.1) (cl := vwCl) (ci := 8) (v := .ref (a 13)) (C := RX8) (T := TX8) (N := 29) hx hb hts hX8_called_X8 hown hK hP 0 rfl rfl 13 (by decide) (hts _ kX8_called_f28) (fun _ h9 => h9) rfl dX8_called_71 ?_
                    refine lv_iconst (v := nI 3) hx hb dX8_called_74 (by decide) ?_
                    refine lv_iload hx hb dX8_called_75 (lv_at hl 0 rfl) ?_
                    refine lv_imul hx hb dX8_called_77 ?_
                    refine lv_is (pk_mul 3 k) ?_
                    refine ald_i (D := g.1) (cl := vwCl) (f := ar 13) (i := 3 * k) (n := 24) hx hb hK hP 7 0 rfl rfl (by omega) (by decide) dX8_called_78 ?_
                    refine ro_callS (As := [.int (mTell ((ar 1)) ((ar 7)) ((sc 0)) j), .int ((ar 13) (3 * k))]) (rest := []) ctx hKK hP (c_X8_has l g (mTell ((ar 1)) ((ar 7)) ((sc 0)) j) ((ar 13) (3 * k))) gX8_called_X8_has rfl rfl rfl hdX8_has ⟨Nat.le_of_ble_eq_true rfl, Nat.le_of_ble_eq_true rfl⟩ [] rfl hl.1 rfl rfl (Nat.le_of_ble_eq_true rfl) dX8_called_79 (fun r_11 hr_11 => ?_)
                    subst hr_11
                    refine lv_aload_n hx hb dX8_called_82 rfl (lv_at hl 5 rfl) ?_
                    refine va_get (D := g.1) (cl := vwCl) (ci := 8) (v := .ref (a 13)) (C := RX8) (T := TX8) (N := 29) hx hb hts hX8_called_X8 hown hK hP 0 rfl rfl 13 (by decide) (hts _ kX8_called_f28) (fun _ h9 => h9) rfl dX8_called_83 ?_
                    refine lv_iconst (v := nI 3) hx hb dX8_called_86 (by decide) ?_
                    refine lv_iload hx hb dX8_called_87 (lv_at hl 0 rfl) ?_
                    refine lv_imul hx hb dX8_called_89 ?_
                    refine lv_is (pk_mul 3 k) ?_
                    refine lv_iconst (v := nI 2) hx hb dX8_called_90 (by decide) ?_
                    refine lv_iadd hx hb dX8_called_91 ?_
                    refine lv_is (nI_add (3 * k) 2) ?_
                    refine ald_i (D := g.1) (cl := vwCl) (f := ar 13) (i := (3 * k) + 2) (n := 24) hx hb hK hP 7 0 rfl rfl (by omega) (by decide) dX8_called_92 ?_
                    refine lv_iconst (v := nI 1) hx hb dX8_called_93 (by decide) ?_
                    refine lv_icmp_ne (tgt := 101) hx hb dX8_called_94 (by decide) (fun c_12 => ?_) (fun c_12 => ?_)
                    · refine lv_iconst (v := nI 0) hx hb dX8_called_101 (by decide) ?_
                      refine lv_icmp_ne (tgt := 109) hx hb dX8_called_102 (by decide) (fun c_13 => ?_) (fun c_13 => ?_)
                      · replace c_13 := bI_t c_13
                        refine lv_iconst (v := nI 0) hx hb dX8_called_109 (by decide) ?_
                        refine lv_istore (lv' := [(5, .int (nI 0)), (6, .int (nI k)), (4, .int (mTell ((ar 1)) ((ar 7)) ((sc 0)) j)), (3, .int (nI j)), (2, .int x2), (0, .ref o), (1, .int dv)]) hx hb dX8_called_110 hl (by decide) rfl (fun ls hl => ?_)
                        refine lv_iinc (v := nI (k + 1)) (lv' := [(6, .int (nI (k + 1))), (5, .int (nI 0)), (4, .int (mTell ((ar 1)) ((ar 7)) ((sc 0)) j)), (3, .int (nI j)), (2, .int x2), (0, .ref o), (1, .int dv)]) hx hb dX8_called_112 hl (k := 1) rfl (iincK k 1) (by decide) rfl (fun ls hl => ?_)
                        refine lv_goto (tgt := 39) hx hb dX8_called_115 (by decide) ?_
                        exact ih39 (k + 1) 0 (by omega) (by omega) (by omega) (by rw [mCk, ← e5]; simp (decide := true) [c_2, c_5, c_7, c_9, c_10, c_12, c_13]) _ _ hP hD hS ls (lv_sub hl [0, 1, 2, 3, 4, 5, 6] rfl)
                      · replace c_13 := bI_f c_13
                        refine lv_iconst (v := nI 1) hx hb dX8_called_105 (by decide) ?_
                        refine lv_goto (tgt := 110) hx hb dX8_called_106 (by decide) ?_
                        refine lv_istore (lv' := [(5, .int (nI 1)), (6, .int (nI k)), (4, .int (mTell ((ar 1)) ((ar 7)) ((sc 0)) j)), (3, .int (nI j)), (2, .int x2), (0, .ref o), (1, .int dv)]) hx hb dX8_called_110 hl (by decide) rfl (fun ls hl => ?_)
                        refine lv_iinc (v := nI (k + 1)) (lv' := [(6, .int (nI (k + 1))), (5, .int (nI 1)), (4, .int (mTell ((ar 1)) ((ar 7)) ((sc 0)) j)), (3, .int (nI j)), (2, .int x2), (0, .ref o), (1, .int dv)]) hx hb dX8_called_112 hl (k := 1) rfl (iincK k 1) (by decide) rfl (fun ls hl => ?_)
                        refine lv_goto (tgt := 39) hx hb dX8_called_115 (by decide) ?_
                        exact ih39 (k + 1) 1 (by omega) (by omega) (by omega) (by rw [mCk, ← e5]; simp (decide := true) [c_2, c_5, c_7, c_9, c_10, c_12, c_13]) _ _ hP hD hS ls (lv_sub hl [0, 1, 2, 3, 4, 5, 6] rfl)
                    · refine lv_iconst (v := nI 1) hx hb dX8_called_97 (by decide) ?_
                      refine lv_goto (tgt := 102) hx hb dX8_called_98 (by decide) ?_
                      refine lv_icmp_ne (tgt := 109) hx hb dX8_called_102 (by decide) (fun c_14 => ?_) (fun c_14 => ?_)
                      · refine lv_iconst (v := nI 0) hx hb dX8_called_109 (by decide) ?_
                        refine lv_istore (lv' := [(5, .int (nI 0)), (6, .int (nI k)), (4, .int (mTell ((ar 1)) ((ar 7)) ((sc 0)) j)), (3, .int (nI j)), (2, .int x2), (0, .ref o), (1, .int dv)]) hx hb dX8_called_110 hl (by decide) rfl (fun ls hl => ?_)
                        refine lv_iinc (v := nI (k + 1)) (lv' := [(6, .int (nI (k + 1))), (5, .int (nI 0)), (4, .int (mTell ((ar 1)) ((ar 7)) ((sc 0)) j)), (3, .int (nI j)), (2, .int x2), (0, .ref o), (1, .int dv)]) hx hb dX8_called_112 hl (k := 1) rfl (iincK k 1) (by decide) rfl (fun ls hl => ?_)
                        refine lv_goto (tgt := 39) hx hb dX8_called_115 (by decide) ?_
                        exact ih39 (k + 1) 0 (by omega) (by omega) (by omega) (by rw [mCk, ← e5]; simp (decide := true) [c_2, c_5, c_7, c_9, c_10, c_12, c_14]) _ _ hP hD hS ls (lv_sub hl [0, 1, 2, 3, 4, 5, 6] rfl)
                      · refine lv_iconst (v := nI 1) hx hb dX8_called_105 (by decide) ?_
                        refine lv_goto (tgt := 110) hx hb dX8_called_106 (by decide) ?_
                        refine lv_istore (lv' := [(5, .int (nI 1)), (6, .int (nI k)), (4, .int (mTell ((ar 1)) ((ar 7)) ((sc 0)) j)), (3, .int (nI j)), (2, .int x2), (0, .ref o), (1, .int dv)]) hx hb dX8_called_110 hl (by decide) rfl (fun ls hl => ?_)
                        refine lv_iinc (v := nI (k + 1)) (lv' := [(6, .int (nI (k + 1))), (5, .int (nI 1)), (4, .int (mTell ((ar 1)) ((ar 7)) ((sc 0)) j)), (3, .int (nI j)), (2, .int x2), (0, .ref o), (1, .int dv)]) hx hb dX8_called_112 hl (k := 1) rfl (iincK k 1) (by decide) rfl (fun ls hl => ?_)
                        refine lv_goto (tgt := 39) hx hb dX8_called_115 (by decide) ?_
                        exact ih39 (k + 1) 1 (by omega) (by omega) (by omega) (by rw [mCk, ← e5]; simp (decide := true) [c_2, c_5, c_7, c_9, c_10, c_12, c_14]) _ _ hP hD hS ls (lv_sub hl [0, 1, 2, 3, 4, 5, 6] rfl)
          exact LP39 (sc 12 + 1) 0 1 (by omega) (by omega) (by omega) (rfl) _ _ hP hD hS ls (lv_sub hl [0, 1, 2, 3, 4, 5, 6] rfl)
    exact LP18 (sc 0 + 1) 0 (nI 0) (by omega) (by omega) (rfl) _ _ hP hD hS ls (lv_sub hl [0, 1, 2, 3] rfl)
  · replace c_2 := bI_f c_2
    refine lv_iconst (v := (-1)) hx hb dX8_called_8 (by decide) ?_
    exact hret (-1) (ar 28) H locs 9 ls (by simp [c_2]) (hP) (hD) hS (rfl) dX8_called_9
theorem kX8_likely_f82 : (Cond.fieldLink RX8 82 "LastCallersWordModel" "persons" "I" : Cond) ∈ wsX8_likely := List.mem_cons_of_mem _ aw_324
theorem hX8_likely_X8 : ∀ w ∈ wsX80, w ∈ wsX8_likely := fun w h => List.mem_cons_of_mem _ (ac_X8 w h)
theorem kX8_likely_f49 : (Cond.fieldLink RX8 49 "LastCallersWordModel" "now" "[I" : Cond) ∈ wsX8_likely := List.mem_cons_of_mem _ aw_301
set_option maxHeartbeats 400000 in
set_option maxRecDepth 100000 in
theorem c_X8_likely (l : Launch) (g : GG) (o : Nat) (a : Nat → Nat) (sc : Nat → Nat) (ar : Nat → Nat → Int32) (dv : Int32) (nv : Int32) (pv : Int32) (hP8 : sc 0 ≤ 8) (hD5 : sc 2 ≤ 5) (hP0 : 0 < sc 0) : Met l yX8_likely wsX8_likely ({ frames := 4, cells := 0, slots := 0, locals := 96 } : Room) (wr g [.ref o, .int dv, .int nv, .int pv] (mW g o a sc ar)) (wQi g (mW g o a sc ar) (fun u : (Nat → Int32) => (mW g o a sc (upA ar 28 u))) (fun rr u => rr = (if inPb (sc 2) dv = true ∧ inB nv (nI 0) (nI 3) = true ∧ isPb pv = true then nI (mLow (mLkA (ar 1) (ar 3) (sc 0) dv.toNatClampNeg (ar 7) nv.toNatClampNeg (sc 0 ^ nv.toNatClampNeg)) (sc 0 ^ nv.toNatClampNeg) pv) else -1))) 0 0 (cA (mW g o a sc ar)) := by
  refine wr_starti (cc := cX8_likely) (maxL := 10) (ty := .int) (by decide) rfl (Nat.le_of_ble_eq_true rfl) (fun p e s m args below meth c Q A C hP hD hS hret ls hl => ?_)
  obtain ⟨hx, hb, hml, hr, hown, hts, hlk, hKK⟩ := id C
  have hK := hKK.1
  have hown : s.vm.findClass RX8 = some m.cls := hown
  have ctx : CallFix p m c cX8_likely 10 s args wsX8_likely RX8 := ⟨hx, hb, hml, hown, hts⟩
  have hl : lv_has ls 10 [(0, .ref o), (1, .int dv), (2, .int nv), (3, .int pv)] := hl
  obtain ⟨H, hHe⟩ : ∃ H, H = s.heap := ⟨_, rfl⟩
  obtain ⟨locs, hLe⟩ : ∃ L : List Loc, L = [] := ⟨_, rfl⟩
  have hP : va_P g.1 vwCl (mW g o a sc ar) H := by rw [hHe]; exact hP
  have hS : va_S A s.heap H locs := by rw [hHe, hLe]; exact hS
  suffices hgo : W p l e ({ frames := 4, cells := 0, slots := 0, locals := 96 } : Room) s m args below meth c H locs 0 0 Q (F0 m 0 ls []) by rw [hHe, hLe] at hgo; exact hgo
  clear hHe hLe
  refine lv_aload_n hx hb dX8_likely_0 rfl (lv_at hl 0 rfl) ?_
  refine lv_iload_n hx hb dX8_likely_1 rfl (lv_at hl 1 rfl) ?_
  refine ro_callV0 (As := [.int dv]) (rest := []) (b := o) ctx hKK hP (c_X8_isDoor l g o a sc ar dv (show (sc 2) ≤ 5 from by omega)) gX8_likely_X8_isDoor rfl rfl rfl hdX8_isDoor ⟨Nat.le_of_ble_eq_true rfl, Nat.le_of_ble_eq_true rfl⟩ (ci := 8) (q0 := 0) rfl rfl hl.1 rfl rfl (Nat.le_of_ble_eq_true rfl) dX8_likely_2 (fun r_1 hr_1 => ?_)
  have hr_1 : r_1 = bI (inPb ((sc 2)) dv) := hr_1
  subst hr_1
  refine lv_if_eq (tgt := 26) hx hb dX8_likely_5 (by decide) (fun c_2 => ?_) (fun c_2 => ?_)
  · replace c_2 := bI_f c_2
    refine lv_iconst (v := (-1)) hx hb dX8_likely_26 (by decide) ?_
    exact hret (-1) (ar 28) H locs 27 ls (by simp [c_2]) (hP) (hD) hS (rfl) dX8_likely_27
  · replace c_2 := bI_t c_2
    obtain ⟨d, hd, rfl⟩ := inPb_nat c_2 (by omega)
    refine lv_iload_n hx hb dX8_likely_8 rfl (lv_at hl 2 rfl) ?_
    refine lv_iconst (v := nI 0) hx hb dX8_likely_9 (by decide) ?_
    refine lv_iconst (v := nI 3) hx hb dX8_likely_10 (by decide) ?_
    refine ro_callS (As := [.int nv, .int (nI 0), .int (nI 3)]) (rest := []) ctx hKK hP (c_X8_in l g nv (nI 0) (nI 3)) gX8_likely_X8_in rfl rfl rfl hdX8_in ⟨Nat.le_of_ble_eq_true rfl, Nat.le_of_ble_eq_true rfl⟩ [] rfl hl.1 rfl rfl (Nat.le_of_ble_eq_true rfl) dX8_likely_11 (fun r_3 hr_3 => ?_)
    subst hr_3
    refine lv_if_eq (tgt := 26) hx hb dX8_likely_14 (by decide) (fun c_4 => ?_) (fun c_4 => ?_)
    · replace c_4 := bI_f c_4
      refine lv_iconst (v := (-1)) hx hb dX8_likely_26 (by decide) ?_
      exact hret (-1) (ar 28) H locs 27 ls (by simp [c_2, c_4, nI_clamp (show d < 2 ^ 31 by omega)]) (hP) (hD) hS (rfl) dX8_likely_27
    · replace c_4 := bI_t c_4
      obtain ⟨n, hn, rfl⟩ := inB_rng (k := 0) (n := 3) c_4 (by decide) (by decide)
      refine lv_iload_n hx hb dX8_likely_17 rfl (lv_at hl 3 rfl) ?_
      refine lv_iconst (v := nI 0) hx hb dX8_likely_18 (by decide) ?_
      refine lv_iconst (v := nI 1) hx hb dX8_likely_19 (by decide) ?_
      refine ro_callS (As := [.int pv, .int (nI 0), .int (nI 1)]) (rest := []) ctx hKK hP (c_X8_in l g pv (nI 0) (nI 1)) gX8_likely_X8_in rfl rfl rfl hdX8_in ⟨Nat.le_of_ble_eq_true rfl, Nat.le_of_ble_eq_true rfl⟩ [] rfl hl.1 rfl rfl (Nat.le_of_ble_eq_true rfl) dX8_likely_20 (fun r_5 hr_5 => ?_)
      subst hr_5
      refine lv_if_ne (tgt := 28) hx hb dX8_likely_23 (by decide) (fun c_6 => ?_) (fun c_6 => ?_)
      · replace c_6 := bI_t c_6
        rw [isPb_inB] at c_6
        refine lv_iconst (v := nI 1) hx hb dX8_likely_28 (by decide) ?_
        refine lv_istore (lv' := [(4, .int (nI 1)), (0, .ref o), (1, .int (nI d)), (2, .int (nI n)), (3, .int pv)]) hx hb dX8_likely_29 hl (by decide) rfl (fun ls hl => ?_)
        refine lv_iconst (v := nI 0) hx hb dX8_likely_31 (by decide) ?_
        refine lv_istore (lv' := [(5, .int (nI 0)), (4, .int (nI 1)), (0, .ref o), (1, .int (nI d)), (2, .int (nI n)), (3, .int pv)]) hx hb dX8_likely_32 hl (by decide) rfl (fun ls hl => ?_)
        have LP34 : ∀ (fu : Nat) (j : Nat) (x4 : Nat), n - j < fu → (j ≤ n) → (x4 = sc 0 ^ j) → ∀ (H : Heap) (locs : List Loc), va_P g.1 vwCl (mW g o a sc ar) H → va_D A (mW g o a sc ar) → va_S A s.heap H locs → ∀ (ls : Array Slot), lv_has ls 10 [(5, .int (nI j)), (4, .int (nI x4)), (0, .ref o), (1, .int (nI d)), (2, .int (nI n)), (3, .int pv)] → W p l e ({ frames := 4, cells := 0, slots := 0, locals := 96 } : Room) s m args below meth c H locs 0 0 Q (F0 m 34 ls []) := by
          intro fu
          induction fu with
          | zero => intro j x4 hfu; exact absurd hfu (Nat.not_lt_zero _)
          | succ fu ih34 =>
            intro j x4 hfu hj e4 H locs hP hD hS ls hl
            refine lv_iload hx hb dX8_likely_34 (lv_at hl 0 rfl) ?_
            refine lv_iload_n hx hb dX8_likely_36 rfl (lv_at hl 4 rfl) ?_
            refine lv_icmp_ge (tgt := 55) hx hb dX8_likely_37 (by decide) (fun c_7 => ?_) (fun c_7 => ?_)
            · replace c_7 : n ≤ j := (nI_leI (a := n) (b := j) (by omega) (by omega)).mp c_7
              have hje : n = j := by omega
              subst hje
              have hx4 : x4 ≤ 512 := by rw [e4]; exact pow_le hP8 hn.2
              have hx40 : 0 < x4 := by rw [e4]; exact Nat.pow_pos hP0
              refine lv_iconst (v := nI 0) hx hb dX8_likely_55 (by decide) ?_
              refine lv_istore (lv' := [(5, .int (nI 0)), (4, .int (nI x4)), (0, .ref o), (1, .int (nI d)), (2, .int (nI n)), (3, .int pv)]) hx hb dX8_likely_56 hl (by decide) rfl (fun ls hl => ?_)
              refine lv_iconst (v := nI 0) hx hb dX8_likely_58 (by decide) ?_
              refine lv_istore (lv' := [(6, .int (nI 0)), (5, .int (nI 0)), (4, .int (nI x4)), (0, .ref o), (1, .int (nI d)), (2, .int (nI n)), (3, .int pv)]) hx hb dX8_likely_59 hl (by decide) rfl (fun ls hl => ?_)
              have LP61 : ∀ (fu : Nat) (w : Nat) (x5 : Nat) (f : Nat → Int32), x4 - w < fu → (w ≤ x4) → (x5 = mLkA (ar 1) (ar 3) (sc 0) d (ar 7) n w) → ∀ (H : Heap) (locs : List Loc), va_P g.1 vwCl (mW g o a sc (upA ar 28 f)) H → va_D A (mW g o a sc (upA ar 28 f)) → va_S A s.heap H locs → ∀ (ls : Array Slot), lv_has ls 10 [(6, .int (nI w)), (5, .int (nI x5)), (4, .int (nI x4)), (0, .ref o), (1, .int (nI d)), (2, .int (nI n)), (3, .int pv)] → W p l e ({ frames := 4, cells := 0, slots := 0, locals := 96 } : Room) s m args below meth c H locs 0 0 Q (F0 m 61 ls []) := by
                intro fu
                induction fu with
                | zero => intro w x5 f hfu; exact absurd hfu (Nat.not_lt_zero _)
                | succ fu ih61 =>
                  intro w x5 f hfu hw e5 H locs hP hD hS ls hl
                  have hx5 := mLkA_le (ar 1) (ar 3) (sc 0) d (ar 7) n w
                  rw [← e5] at hx5
                  refine lv_iload hx hb dX8_likely_61 (lv_at hl 0 rfl) ?_
                  refine lv_iload hx hb dX8_likely_63 (lv_at hl 2 rfl) ?_
                  refine lv_icmp_ge (tgt := 162) hx hb dX8_likely_65 (by decide) (fun c_8 => ?_) (fun c_8 => ?_)
                  · replace c_8 : x4 ≤ w := (nI_leI (a := x4) (b := w) (by omega) (by omega)).mp c_8
                    refine lv_iload hx hb dX8_likely_162 (lv_at hl 1 rfl) ?_
                    refine lv_iload hx hb dX8_likely_164 (lv_at hl 2 rfl) ?_
                    refine lv_iload_n hx hb dX8_likely_166 rfl (lv_at hl 6 rfl) ?_
                    refine ro_callS (As := [.int (nI x5), .int (nI x4), .int pv]) (rest := []) ctx hKK hP (c_X8_lowest l g x5 x4 pv (by omega) (by omega)) gX8_likely_X8_lowest rfl rfl rfl hdX8_lowest ⟨Nat.le_of_ble_eq_true rfl, Nat.le_of_ble_eq_true rfl⟩ [] rfl hl.1 rfl rfl (Nat.le_of_ble_eq_true rfl) dX8_likely_167 (fun r_9 hr_9 => ?_)
                    subst hr_9
                    exact hret (nI (mLow x5 x4 pv)) f H locs 170 ls (by rw [show w = x4 by omega] at e5; simp [c_2, c_4, c_6, c_7, c_8, nI_clamp (show d < 2 ^ 31 by omega), nI_clamp (show n < 2 ^ 31 by omega), ← e4, ← e5]) (hP) (hD) hS (rfl) dX8_likely_170
                  · replace c_8 : ¬ x4 ≤ w := fun h => c_8 ((nI_leI (a := x4) (b := w) (by omega) (by omega)).mpr h)
                    refine lv_iload hx hb dX8_likely_68 (lv_at hl 0 rfl) ?_
                    refine lv_istore (lv' := [(7, .int (nI w)), (6, .int (nI w)), (5, .int (nI x5)), (4, .int (nI x4)), (0, .ref o), (1, .int (nI d)), (2, .int (nI n)), (3, .int pv)]) hx hb dX8_likely_70 hl (by decide) rfl (fun ls hl => ?_)
                    refine lv_aload_n hx hb dX8_likely_72 rfl (lv_at hl 4 rfl) ?_
                    refine wr_callVv0 (As := []) (rest := []) (b := o) ctx hKK hP hD hS (c_X8_asItIs l g o a sc (upA ar 28 f)) gX8_likely_X8_asItIs rfl rfl rfl hdX8_asItIs ⟨Nat.le_of_ble_eq_true rfl, Nat.le_of_ble_eq_true rfl⟩ (ci := 8) (q0 := 0) rfl rfl hl.1 rfl rfl (Nat.le_of_ble_eq_true rfl) dX8_likely_73 (fun u_11 H locs hr_10 hP hD hS => ?_)
                    have hP : va_P g.1 vwCl (mW g o a sc (upA ar 28 (ar 7))) H := hP
                    have hD : va_D A (mW g o a sc (upA ar 28 (ar 7))) := hD
                    refine lv_iconst (v := nI 0) hx hb dX8_likely_76 (by decide) ?_
                    refine lv_istore (lv' := [(8, .int (nI 0)), (7, .int (nI w)), (6, .int (nI w)), (5, .int (nI x5)), (4, .int (nI x4)), (0, .ref o), (1, .int (nI d)), (2, .int (nI n)), (3, .int pv)]) hx hb dX8_likely_77 hl (by decide) rfl (fun ls hl => ?_)
                    have LP79 : ∀ (fu : Nat) (t : Nat) (x7 : Nat) (h : Nat → Int32), n - t < fu → (t ≤ n) → (x7 = (mLkl (ar 1) (sc 0) d (ar 7) w t).2) → (h = (mLkl (ar 1) (sc 0) d (ar 7) w t).1) → ∀ (H : Heap) (locs : List Loc), va_P g.1 vwCl (mW g o a sc (upA ar 28 h)) H → va_D A (mW g o a sc (upA ar 28 h)) → va_S A s.heap H locs → ∀ (ls : Array Slot), lv_has ls 10 [(8, .int (nI t)), (7, .int (nI x7)), (6, .int (nI w)), (5, .int (nI x5)), (4, .int (nI x4)), (0, .ref o), (1, .int (nI d)), (2, .int (nI n)), (3, .int pv)] → W p l e ({ frames := 4, cells := 0, slots := 0, locals := 96 } : Room) s m args below meth c H locs 0 0 Q (F0 m 79 ls []) := by
                      intro fu
                      induction fu with
                      | zero => intro t x7 h hfu; exact absurd hfu (Nat.not_lt_zero _)
                      | succ fu ih79 =>
                        intro t x7 h hfu ht e7 eh H locs hP hD hS ls hl
                        have hx7 : x7 ≤ w := by rw [e7]; exact mLkl_le _ _ _ _ _ _
                        refine lv_iload hx hb dX8_likely_79 (lv_at hl 0 rfl) ?_
                        refine lv_iload_n hx hb dX8_likely_81 rfl (lv_at hl 7 rfl) ?_
                        refine lv_icmp_ge (tgt := 138) hx hb dX8_likely_82 (by decide) (fun c_12 => ?_) (fun c_12 => ?_)
                        · replace c_12 : n ≤ t := (nI_leI (a := n) (b := t) (by omega) (by omega)).mp c_12
                          refine lv_iload hx hb dX8_likely_138 (lv_at hl 3 rfl) ?_
                          refine lv_aload_n hx hb dX8_likely_140 rfl (lv_at hl 5 rfl) ?_
                          refine lv_iload_n hx hb dX8_likely_141 rfl (lv_at hl 6 rfl) ?_
                          refine ro_callV0 (As := [.int (nI d)]) (rest := [.int (nI x5)]) (b := o) ctx hKK hP (c_X8_isShutOut l g o a sc (upA ar 28 h) d (show d < 5 from by omega)) gX8_likely_X8_isShutOut rfl rfl rfl hdX8_isShutOut ⟨Nat.le_of_ble_eq_true rfl, Nat.le_of_ble_eq_true rfl⟩ (ci := 8) (q0 := 0) rfl rfl hl.1 rfl rfl (Nat.le_of_ble_eq_true rfl) dX8_likely_142 (fun r_13 hr_13 => ?_)
                          have hr_13 : r_13 = bI (mShut (h) ((ar 3)) d) := hr_13
                          subst hr_13
                          refine lv_if_eq (tgt := 152) hx hb dX8_likely_145 (by decide) (fun c_14 => ?_) (fun c_14 => ?_)
                          · replace c_14 := bI_f c_14
                            refine lv_iconst (v := nI 0) hx hb dX8_likely_152 (by decide) ?_
                            refine lv_iadd hx hb dX8_likely_153 ?_
                            refine lv_is (nI_add x5 0) ?_
                            refine lv_istore (lv' := [(5, .int (nI (x5 + 0))), (8, .int (nI t)), (7, .int (nI x7)), (6, .int (nI w)), (4, .int (nI x4)), (0, .ref o), (1, .int (nI d)), (2, .int (nI n)), (3, .int pv)]) hx hb dX8_likely_154 hl (by decide) rfl (fun ls hl => ?_)
                            refine lv_iinc (v := nI (w + 1)) (lv' := [(6, .int (nI (w + 1))), (5, .int (nI (x5 + 0))), (8, .int (nI t)), (7, .int (nI x7)), (4, .int (nI x4)), (0, .ref o), (1, .int (nI d)), (2, .int (nI n)), (3, .int pv)]) hx hb dX8_likely_156 hl (k := 3) rfl (iincK w 1) (by decide) rfl (fun ls hl => ?_)
                            refine lv_goto (tgt := 61) hx hb dX8_likely_159 (by decide) ?_
                            exact ih61 (w + 1) (x5 + 0) h (by omega) (by omega) (by rw [mLkA, ← e5, ← show t = n by omega, ← eh]; simp [c_2, c_4, c_6, c_7, c_8, c_12, c_14]) _ _ hP hD hS ls (lv_sub hl [0, 1, 4, 5, 6, 7, 8] rfl)
                          · replace c_14 := bI_t c_14
                            refine lv_iconst (v := nI 1) hx hb dX8_likely_148 (by decide) ?_
                            refine lv_goto (tgt := 153) hx hb dX8_likely_149 (by decide) ?_
                            refine lv_iadd hx hb dX8_likely_153 ?_
                            refine lv_is (nI_add x5 1) ?_
                            refine lv_istore (lv' := [(5, .int (nI (x5 + 1))), (8, .int (nI t)), (7, .int (nI x7)), (6, .int (nI w)), (4, .int (nI x4)), (0, .ref o), (1, .int (nI d)), (2, .int (nI n)), (3, .int pv)]) hx hb dX8_likely_154 hl (by decide) rfl (fun ls hl => ?_)
                            refine lv_iinc (v := nI (w + 1)) (lv' := [(6, .int (nI (w + 1))), (5, .int (nI (x5 + 1))), (8, .int (nI t)), (7, .int (nI x7)), (4, .int (nI x4)), (0, .ref o), (1, .int (nI d)), (2, .int (nI n)), (3, .int pv)]) hx hb dX8_likely_156 hl (k := 3) rfl (iincK w 1) (by decide) rfl (fun ls hl => ?_)
                            refine lv_goto (tgt := 61) hx hb dX8_likely_159 (by decide) ?_
                            exact ih61 (w + 1) (x5 + 1) h (by omega) (by omega) (by rw [mLkA, ← e5, ← show t = n by omega, ← eh]; simp [c_2, c_4, c_6, c_7, c_8, c_12, c_14]) _ _ hP hD hS ls (lv_sub hl [0, 1, 4, 5, 6, 7, 8] rfl)
                        · replace c_12 : ¬ n ≤ t := fun h => c_12 ((nI_leI (a := n) (b := t) (by omega) (by omega)).mpr h)
                          refine lv_iload hx hb dX8_likely_85 (lv_at hl 1 rfl) ?_
                          refine lv_aload_n hx hb dX8_likely_87 rfl (lv_at hl 5 rfl) ?_
                          refine va_get (D := g.1) (cl := vwCl) (ci := 8) (v := .int (nI (sc 0))) (C := RX8) (T := TX8) (N := 29) hx hb hts hX8_likely_X8 hown hK hP 0 rfl rfl 0 (by decide) (hts _ kX8_likely_f82) (fun _ h9 => h9) rfl dX8_likely_88 ?_
                          have hmd := Nat.mod_lt x7 hP0
                          refine lv_irem hx hb dX8_likely_91 (nI_ne0 (by omega) (by omega)) ?_
                          refine lv_is (pk_rem (a := x7) (d := sc 0) (by omega) (by omega) (by omega)) ?_
                          refine lv_istore (lv' := [(9, .int (nI (x7 % (sc 0)))), (8, .int (nI t)), (7, .int (nI x7)), (6, .int (nI w)), (5, .int (nI x5)), (4, .int (nI x4)), (0, .ref o), (1, .int (nI d)), (2, .int (nI n)), (3, .int pv)]) hx hb dX8_likely_92 hl (by decide) rfl (fun ls hl => ?_)
                          refine lv_iload hx hb dX8_likely_94 (lv_at hl 2 rfl) ?_
                          refine lv_aload_n hx hb dX8_likely_96 rfl (lv_at hl 6 rfl) ?_
                          refine va_get (D := g.1) (cl := vwCl) (ci := 8) (v := .int (nI (sc 0))) (C := RX8) (T := TX8) (N := 29) hx hb hts hX8_likely_X8 hown hK hP 0 rfl rfl 0 (by decide) (hts _ kX8_likely_f82) (fun _ h9 => h9) rfl dX8_likely_97 ?_
                          refine lv_idiv hx hb dX8_likely_100 (nI_ne0 (by omega) (by omega)) ?_
                          refine lv_is (pk_div (a := x7) (d := sc 0) (by omega) (by omega) (by omega)) ?_
                          refine lv_istore (lv' := [(7, .int (nI (x7 / (sc 0)))), (9, .int (nI (x7 % (sc 0)))), (8, .int (nI t)), (6, .int (nI w)), (5, .int (nI x5)), (4, .int (nI x4)), (0, .ref o), (1, .int (nI d)), (2, .int (nI n)), (3, .int pv)]) hx hb dX8_likely_101 hl (by decide) rfl (fun ls hl => ?_)
                          refine lv_aload_n hx hb dX8_likely_103 rfl (lv_at hl 6 rfl) ?_
                          refine va_get (D := g.1) (cl := vwCl) (ci := 8) (v := .ref (a 28)) (C := RX8) (T := TX8) (N := 29) hx hb hts hX8_likely_X8 hown hK hP 0 rfl rfl 28 (by decide) (hts _ kX8_likely_f49) (fun _ h9 => h9) rfl dX8_likely_104 ?_
                          refine lv_bipush (v := nI 70) hx hb dX8_likely_107 (by decide) ?_
                          refine lv_iload_n hx hb dX8_likely_109 rfl (lv_at hl 7 rfl) ?_
                          refine lv_iadd hx hb dX8_likely_110 ?_
                          refine lv_is (nI_add 70 d) ?_
                          refine ald_i (D := g.1) (cl := vwCl) (f := h) (i := 70 + d) (n := 115) hx hb hK hP 14 0 rfl rfl (by omega) (by decide) dX8_likely_111 ?_
                          refine lv_iload hx hb dX8_likely_112 (lv_at hl 1 rfl) ?_
                          refine ro_callS (As := [.int (h (70 + d)), .int (nI (x7 % (sc 0)))]) (rest := []) ctx hKK hP (c_X8_has l g (h (70 + d)) (nI (x7 % (sc 0)))) gX8_likely_X8_has rfl rfl rfl hdX8_has ⟨Nat.le_of_ble_eq_true rfl, Nat.le_of_ble_eq_true rfl⟩ [] rfl hl.1 rfl rfl (Nat.le_of_ble_eq_true rfl) dX8_likely_114 (fun r_15 hr_15 => ?_)
                          subst hr_15
                          refine lv_if_eq (tgt := 127) hx hb dX8_likely_117 (by decide) (fun c_16 => ?_) (fun c_16 => ?_)
                          · replace c_16 := bI_f c_16
                            refine lv_aload_n hx hb dX8_likely_127 rfl (lv_at hl 6 rfl) ?_
                            refine lv_iload_n hx hb dX8_likely_128 rfl (lv_at hl 7 rfl) ?_
                            refine wr_callVv0 (As := [.int (nI d)]) (rest := []) (b := o) ctx hKK hP hD hS (c_X8_dayAt l g o a sc (upA ar 28 h) d (show (sc 0) ≤ 8 from by omega) (show d < 5 from by omega)) gX8_likely_X8_dayAt rfl rfl rfl hdX8_dayAt ⟨Nat.le_of_ble_eq_true rfl, Nat.le_of_ble_eq_true rfl⟩ (ci := 8) (q0 := 0) rfl rfl hl.1 rfl rfl (Nat.le_of_ble_eq_true rfl) dX8_likely_129 (fun u_18 H locs hr_17 hP hD hS => ?_)
                            have hP : va_P g.1 vwCl (mW g o a sc (upA ar 28 (mDayA ((ar 1)) ((sc 0)) d (h)))) H := hP
                            have hD : va_D A (mW g o a sc (upA ar 28 (mDayA ((ar 1)) ((sc 0)) d (h)))) := hD
                            refine lv_iinc (v := nI (t + 1)) (lv' := [(8, .int (nI (t + 1))), (7, .int (nI (x7 / (sc 0)))), (9, .int (nI (x7 % (sc 0)))), (6, .int (nI w)), (5, .int (nI x5)), (4, .int (nI x4)), (0, .ref o), (1, .int (nI d)), (2, .int (nI n)), (3, .int pv)]) hx hb dX8_likely_132 hl (k := 2) rfl (iincK t 1) (by decide) rfl (fun ls hl => ?_)
                            refine lv_goto (tgt := 79) hx hb dX8_likely_135 (by decide) ?_
                            exact ih79 (t + 1) (x7 / (sc 0)) (mDayA ((ar 1)) ((sc 0)) d (h)) (by omega) (by omega) (by simp only [mLkl, ← e7, ← eh]) (by simp only [mLkl, ← e7, ← eh, c_2, c_4, c_6, c_7, c_8, c_12, c_16]; try simp) _ _ hP hD hS ls (lv_sub hl [0, 1, 3, 4, 5, 6, 7, 8, 9] rfl)
                          · replace c_16 := bI_t c_16
                            refine lv_aload_n hx hb dX8_likely_120 rfl (lv_at hl 6 rfl) ?_
                            refine lv_iload hx hb dX8_likely_121 (lv_at hl 1 rfl) ?_
                            refine lv_iload_n hx hb dX8_likely_123 rfl (lv_at hl 7 rfl) ?_
                            refine wr_callVv0 (As := [.int (nI (x7 % (sc 0))), .int (nI d)]) (rest := []) (b := o) ctx hKK hP hD hS (c_X8_calls l g o a sc (upA ar 28 h) (x7 % (sc 0)) d (show (sc 0) ≤ 8 from by omega) (show (x7 % (sc 0)) < 8 from by omega) (show d < 5 from by omega)) gX8_likely_X8_calls rfl rfl rfl hdX8_calls ⟨Nat.le_of_ble_eq_true rfl, Nat.le_of_ble_eq_true rfl⟩ (ci := 8) (q0 := 0) rfl rfl hl.1 rfl rfl (Nat.le_of_ble_eq_true rfl) dX8_likely_124 (fun u_20 H locs hr_19 hP hD hS => ?_)
                            have hP : va_P g.1 vwCl (mW g o a sc (upA ar 28 (mCallW ((ar 1)) ((sc 0)) (h) (x7 % (sc 0)) d))) H := hP
                            have hD : va_D A (mW g o a sc (upA ar 28 (mCallW ((ar 1)) ((sc 0)) (h) (x7 % (sc 0)) d))) := hD
                            refine lv_aload_n hx hb dX8_likely_127 rfl (lv_at hl 6 rfl) ?_
                            refine lv_iload_n hx hb dX8_likely_128 rfl (lv_at hl 7 rfl) ?_
                            refine wr_callVv0 (As := [.int (nI d)]) (rest := []) (b := o) ctx hKK hP hD hS (c_X8_dayAt l g o a sc (upA ar 28 (mCallW ((ar 1)) ((sc 0)) (h) (x7 % (sc 0)) d)) d (show (sc 0) ≤ 8 from by omega) (show d < 5 from by omega)) gX8_likely_X8_dayAt rfl rfl rfl hdX8_dayAt ⟨Nat.le_of_ble_eq_true rfl, Nat.le_of_ble_eq_true rfl⟩ (ci := 8) (q0 := 0) rfl rfl hl.1 rfl rfl (Nat.le_of_ble_eq_true rfl) dX8_likely_129 (fun u_22 H locs hr_21 hP hD hS => ?_)
                            have hP : va_P g.1 vwCl (mW g o a sc (upA ar 28 (mDayA ((ar 1)) ((sc 0)) d ((mCallW ((ar 1)) ((sc 0)) (h) (x7 % (sc 0)) d))))) H := hP
                            have hD : va_D A (mW g o a sc (upA ar 28 (mDayA ((ar 1)) ((sc 0)) d ((mCallW ((ar 1)) ((sc 0)) (h) (x7 % (sc 0)) d))))) := hD
                            refine lv_iinc (v := nI (t + 1)) (lv' := [(8, .int (nI (t + 1))), (7, .int (nI (x7 / (sc 0)))), (9, .int (nI (x7 % (sc 0)))), (6, .int (nI w)), (5, .int (nI x5)), (4, .int (nI x4)), (0, .ref o), (1, .int (nI d)), (2, .int (nI n)), (3, .int pv)]) hx hb dX8_likely_132 hl (k := 2) rfl (iincK t 1) (by decide) rfl (fun ls hl => ?_)
                            refine lv_goto (tgt := 79) hx hb dX8_likely_135 (by decide) ?_
                            exact ih79 (t + 1) (x7 / (sc 0)) (mDayA ((ar 1)) ((sc 0)) d ((mCallW ((ar 1)) ((sc 0)) (h) (x7 % (sc 0)) d))) (by omega) (by omega) (by simp only [mLkl, ← e7, ← eh]) (by simp only [mLkl, ← e7, ← eh, c_2, c_4, c_6, c_7, c_8, c_12, c_16]; try simp) _ _ hP hD hS ls (lv_sub hl [0, 1, 3, 4, 5, 6, 7, 8, 9] rfl)
                    exact LP79 (n + 1) 0 w (ar 7) (by omega) (by omega) (rfl) (rfl) _ _ hP hD hS ls (lv_sub hl [0, 1, 2, 3, 4, 5, 6, 7, 8] rfl)
              exact LP61 (x4 + 1) 0 0 (ar 28) (by omega) (by omega) (rfl) _ _ hP hD hS ls (lv_sub hl [0, 1, 2, 3, 4, 5, 6] rfl)
            · replace c_7 : ¬ n ≤ j := fun h => c_7 ((nI_leI (a := n) (b := j) (by omega) (by omega)).mpr h)
              refine lv_iload hx hb dX8_likely_40 (lv_at hl 1 rfl) ?_
              refine lv_aload_n hx hb dX8_likely_42 rfl (lv_at hl 2 rfl) ?_
              refine va_get (D := g.1) (cl := vwCl) (ci := 8) (v := .int (nI (sc 0))) (C := RX8) (T := TX8) (N := 29) hx hb hts hX8_likely_X8 hown hK hP 0 rfl rfl 0 (by decide) (hts _ kX8_likely_f82) (fun _ h9 => h9) rfl dX8_likely_43 ?_
              refine lv_imul hx hb dX8_likely_46 ?_
              refine lv_is (pk_mul x4 (sc 0)) ?_
              refine lv_istore (lv' := [(4, .int (nI (x4 * (sc 0)))), (5, .int (nI j)), (0, .ref o), (1, .int (nI d)), (2, .int (nI n)), (3, .int pv)]) hx hb dX8_likely_47 hl (by decide) rfl (fun ls hl => ?_)
              refine lv_iinc (v := nI (j + 1)) (lv' := [(5, .int (nI (j + 1))), (4, .int (nI (x4 * (sc 0)))), (0, .ref o), (1, .int (nI d)), (2, .int (nI n)), (3, .int pv)]) hx hb dX8_likely_49 hl (k := 1) rfl (iincK j 1) (by decide) rfl (fun ls hl => ?_)
              refine lv_goto (tgt := 34) hx hb dX8_likely_52 (by decide) ?_
              exact ih34 (j + 1) (x4 * (sc 0)) (by omega) (by omega) (by rw [e4, Nat.pow_succ]) _ _ hP hD hS ls (lv_sub hl [0, 1, 2, 3, 4, 5] rfl)
        exact LP34 (n + 1) 0 1 (by omega) (by omega) (rfl) _ _ hP hD hS ls (lv_sub hl [0, 1, 2, 3, 4, 5] rfl)
      · replace c_6 := bI_f c_6
        rw [isPb_inB] at c_6
        refine lv_iconst (v := (-1)) hx hb dX8_likely_26 (by decide) ?_
        exact hret (-1) (ar 28) H locs 27 ls (by simp [c_2, c_4, c_6, nI_clamp (show d < 2 ^ 31 by omega), nI_clamp (show n < 2 ^ 31 by omega)]) (hP) (hD) hS (rfl) dX8_likely_27
theorem kX8_street_L222 : (Cond.constantLong RX8 222 (7919) : Cond) ∈ wsX8_street := List.mem_cons_of_mem _ aw_754
theorem kX8_street_L224 : (Cond.constantLong RX8 224 (6151) : Cond) ∈ wsX8_street := List.mem_cons_of_mem _ aw_755
theorem kX8_street_L226 : (Cond.constantLong RX8 226 (65521) : Cond) ∈ wsX8_street := List.mem_cons_of_mem _ aw_756
theorem kX8_street_L228 : (Cond.constantLong RX8 228 (4) : Cond) ∈ wsX8_street := List.mem_cons_of_mem _ aw_757
theorem kX8_street_f82 : (Cond.fieldLink RX8 82 "LastCallersWordModel" "persons" "I" : Cond) ∈ wsX8_street := List.mem_cons_of_mem _ aw_324
theorem hX8_street_X8 : ∀ w ∈ wsX80, w ∈ wsX8_street := fun w h => List.mem_cons_of_mem _ (ac_X8 w h)
theorem kX8_street_f89 : (Cond.fieldLink RX8 89 "LastCallersWordModel" "doors" "I" : Cond) ∈ wsX8_street := List.mem_cons_of_mem _ aw_325
set_option maxHeartbeats 400000 in
set_option maxRecDepth 100000 in
theorem c_X8_street (l : Launch) (g : GG) (o : Nat) (a : Nat → Nat) (sc : Nat → Nat) (ar : Nat → Nat → Int32) (zv : Int32) (nv : Int32) (wv : Int32) (hP8 : sc 0 ≤ 8) (hD5 : sc 2 ≤ 5) (hP0 : 0 < sc 0) (hD0 : 0 < sc 2) : Met l yX8_street wsX8_street ({ frames := 4, cells := 0, slots := 0, locals := 96 } : Room) (wr g [.ref o, .int zv, .int nv, .int wv] (mW g o a sc ar)) (wQi g (mW g o a sc ar) (fun u : (Nat → Int32) => (mW g o a sc (upA ar 28 u))) (fun rr u => rr = (if inB zv (nI 0) (nI 9999) = true ∧ inB nv (nI 1) (nI 60) = true ∧ isPb wv = true then (if wv = 0 then mSo (mSt (ar 1) (ar 3) (sc 0) (sc 2) zv.toNatClampNeg (ar 7) nv.toNatClampNeg).1 (ar 3) (sc 2) else nI (mSt (ar 1) (ar 3) (sc 0) (sc 2) zv.toNatClampNeg (ar 7) nv.toNatClampNeg).2) else -1))) 0 0 (cA (mW g o a sc ar)) := by
  refine wr_starti (cc := cX8_street) (maxL := 9) (ty := .int) (by decide) rfl (Nat.le_of_ble_eq_true rfl) (fun p e s m args below meth c Q A C hP hD hS hret ls hl => ?_)
  obtain ⟨hx, hb, hml, hr, hown, hts, hlk, hKK⟩ := id C
  have hK := hKK.1
  have hown : s.vm.findClass RX8 = some m.cls := hown
  have ctx : CallFix p m c cX8_street 9 s args wsX8_street RX8 := ⟨hx, hb, hml, hown, hts⟩
  have hl : lv_has ls 9 [(0, .ref o), (1, .int zv), (2, .int nv), (3, .int wv)] := hl
  obtain ⟨H, hHe⟩ : ∃ H, H = s.heap := ⟨_, rfl⟩
  obtain ⟨locs, hLe⟩ : ∃ L : List Loc, L = [] := ⟨_, rfl⟩
  have hP : va_P g.1 vwCl (mW g o a sc ar) H := by rw [hHe]; exact hP
  have hS : va_S A s.heap H locs := by rw [hHe, hLe]; exact hS
  suffices hgo : W p l e ({ frames := 4, cells := 0, slots := 0, locals := 96 } : Room) s m args below meth c H locs 0 0 Q (F0 m 0 ls []) by rw [hHe, hLe] at hgo; exact hgo
  clear hHe hLe
  refine lv_iload_n hx hb dX8_street_0 rfl (lv_at hl 1 rfl) ?_
  refine lv_iconst (v := nI 0) hx hb dX8_street_1 (by decide) ?_
  refine lv_sipush (v := nI 9999) hx hb dX8_street_2 (by decide) ?_
  refine ro_callS (As := [.int zv, .int (nI 0), .int (nI 9999)]) (rest := []) ctx hKK hP (c_X8_in l g zv (nI 0) (nI 9999)) gX8_street_X8_in rfl rfl rfl hdX8_in ⟨Nat.le_of_ble_eq_true rfl, Nat.le_of_ble_eq_true rfl⟩ [] rfl hl.1 rfl rfl (Nat.le_of_ble_eq_true rfl) dX8_street_5 (fun r_1 hr_1 => ?_)
  subst hr_1
  refine lv_if_eq (tgt := 30) hx hb dX8_street_8 (by decide) (fun c_2 => ?_) (fun c_2 => ?_)
  · replace c_2 := bI_f c_2
    refine lv_iconst (v := (-1)) hx hb dX8_street_30 (by decide) ?_
    exact hret (-1) (ar 28) H locs 31 ls (by simp [c_2]) (hP) (hD) hS (rfl) dX8_street_31
  · replace c_2 := bI_t c_2
    obtain ⟨z, hz, rfl⟩ := inB_rng (k := 0) (n := 9999) c_2 (by decide) (by decide)
    refine lv_iload_n hx hb dX8_street_11 rfl (lv_at hl 2 rfl) ?_
    refine lv_iconst (v := nI 1) hx hb dX8_street_12 (by decide) ?_
    refine lv_bipush (v := nI 60) hx hb dX8_street_13 (by decide) ?_
    refine ro_callS (As := [.int nv, .int (nI 1), .int (nI 60)]) (rest := []) ctx hKK hP (c_X8_in l g nv (nI 1) (nI 60)) gX8_street_X8_in rfl rfl rfl hdX8_in ⟨Nat.le_of_ble_eq_true rfl, Nat.le_of_ble_eq_true rfl⟩ [] rfl hl.1 rfl rfl (Nat.le_of_ble_eq_true rfl) dX8_street_15 (fun r_3 hr_3 => ?_)
    subst hr_3
    refine lv_if_eq (tgt := 30) hx hb dX8_street_18 (by decide) (fun c_4 => ?_) (fun c_4 => ?_)
    · replace c_4 := bI_f c_4
      refine lv_iconst (v := (-1)) hx hb dX8_street_30 (by decide) ?_
      exact hret (-1) (ar 28) H locs 31 ls (by simp [c_2, c_4, nI_clamp (show z < 2 ^ 31 by omega)]) (hP) (hD) hS (rfl) dX8_street_31
    · replace c_4 := bI_t c_4
      obtain ⟨n, hn, rfl⟩ := inB_rng (k := 1) (n := 60) c_4 (by decide) (by decide)
      refine lv_iload_n hx hb dX8_street_21 rfl (lv_at hl 3 rfl) ?_
      refine lv_iconst (v := nI 0) hx hb dX8_street_22 (by decide) ?_
      refine lv_iconst (v := nI 1) hx hb dX8_street_23 (by decide) ?_
      refine ro_callS (As := [.int wv, .int (nI 0), .int (nI 1)]) (rest := []) ctx hKK hP (c_X8_in l g wv (nI 0) (nI 1)) gX8_street_X8_in rfl rfl rfl hdX8_in ⟨Nat.le_of_ble_eq_true rfl, Nat.le_of_ble_eq_true rfl⟩ [] rfl hl.1 rfl rfl (Nat.le_of_ble_eq_true rfl) dX8_street_24 (fun r_5 hr_5 => ?_)
      subst hr_5
      refine lv_if_ne (tgt := 32) hx hb dX8_street_27 (by decide) (fun c_6 => ?_) (fun c_6 => ?_)
      · replace c_6 := bI_t c_6
        rw [isPb_inB] at c_6
        refine lv_aload_n hx hb dX8_street_32 rfl (lv_at hl 0 rfl) ?_
        refine wr_callVv0 (As := []) (rest := []) (b := o) ctx hKK hP hD hS (c_X8_asItIs l g o a sc ar) gX8_street_X8_asItIs rfl rfl rfl hdX8_asItIs ⟨Nat.le_of_ble_eq_true rfl, Nat.le_of_ble_eq_true rfl⟩ (ci := 8) (q0 := 0) rfl rfl hl.1 rfl rfl (Nat.le_of_ble_eq_true rfl) dX8_street_33 (fun u_8 H locs hr_7 hP hD hS => ?_)
        have hP : va_P g.1 vwCl (mW g o a sc (upA ar 28 (ar 7))) H := hP
        have hD : va_D A (mW g o a sc (upA ar 28 (ar 7))) := hD
        refine lv_iconst (v := nI 0) hx hb dX8_street_36 (by decide) ?_
        refine lv_istore (lv' := [(4, .int (nI 0)), (0, .ref o), (1, .int (nI z)), (2, .int (nI n)), (3, .int wv)]) hx hb dX8_street_37 hl (by decide) rfl (fun ls hl => ?_)
        refine lv_iconst (v := nI 0) hx hb dX8_street_39 (by decide) ?_
        refine lv_istore (lv' := [(5, .int (nI 0)), (4, .int (nI 0)), (0, .ref o), (1, .int (nI z)), (2, .int (nI n)), (3, .int wv)]) hx hb dX8_street_40 hl (by decide) rfl (fun ls hl => ?_)
        have LP42 : ∀ (fu : Nat) (j : Nat) (f : Nat → Int32) (k : Nat), n - j < fu → (j ≤ n) → (f = (mSt (ar 1) (ar 3) (sc 0) (sc 2) z (ar 7) j).1) → (k = (mSt (ar 1) (ar 3) (sc 0) (sc 2) z (ar 7) j).2) → ∀ (H : Heap) (locs : List Loc), va_P g.1 vwCl (mW g o a sc (upA ar 28 f)) H → va_D A (mW g o a sc (upA ar 28 f)) → va_S A s.heap H locs → ∀ (ls : Array Slot), lv_has ls 9 [(5, .int (nI j)), (4, .int (nI k)), (0, .ref o), (1, .int (nI z)), (2, .int (nI n)), (3, .int wv)] → W p l e ({ frames := 4, cells := 0, slots := 0, locals := 96 } : Room) s m args below meth c H locs 0 0 Q (F0 m 42 ls []) := by
          intro fu
          induction fu with
          | zero => intro j f k hfu; exact absurd hfu (Nat.not_lt_zero _)
          | succ fu ih42 =>
            intro j f k hfu hj ef ek H locs hP hD hS ls hl
            have hdn := dN_le z j
            refine lv_iload hx hb dX8_street_42 (lv_at hl 0 rfl) ?_
            refine lv_iload_n hx hb dX8_street_44 rfl (lv_at hl 4 rfl) ?_
            refine lv_icmp_ge (tgt := 143) hx hb dX8_street_45 (by decide) (fun c_9 => ?_) (fun c_9 => ?_)
            · replace c_9 : n ≤ j := (nI_leI (a := n) (b := j) (by omega) (by omega)).mp c_9
              refine lv_iload_n hx hb dX8_street_143 rfl (lv_at hl 5 rfl) ?_
              refine lv_if_ne (tgt := 154) hx hb dX8_street_144 (by decide) (fun c_10 => ?_) (fun c_10 => ?_)
              · refine lv_iload hx hb dX8_street_154 (lv_at hl 1 rfl) ?_
                exact hret (nI k) f H locs 156 ls (by rw [show j = n by omega] at ef ek; simp [c_2, c_4, c_6, c_9, c_10, nI_clamp (show z < 2 ^ 31 by omega), nI_clamp (show n < 2 ^ 31 by omega), isPb_0, ← ef, ← ek]) (hP) (hD) hS (rfl) dX8_street_156
              · refine lv_aload_n hx hb dX8_street_147 rfl (lv_at hl 2 rfl) ?_
                refine ro_callV0 (As := []) (rest := []) (b := o) ctx hKK hP (c_X8_shutOutNow l g o a sc (upA ar 28 f) (show (sc 2) ≤ 5 from by omega)) gX8_street_X8_shutOutNow rfl rfl rfl hdX8_shutOutNow ⟨Nat.le_of_ble_eq_true rfl, Nat.le_of_ble_eq_true rfl⟩ (ci := 8) (q0 := 0) rfl rfl hl.1 rfl rfl (Nat.le_of_ble_eq_true rfl) dX8_street_148 (fun r_11 hr_11 => ?_)
                have hr_11 : r_11 = mSo (f) ((ar 3)) ((sc 2)) := hr_11
                subst hr_11
                refine lv_goto (tgt := 156) hx hb dX8_street_151 (by decide) ?_
                exact hret (mSo (f) ((ar 3)) ((sc 2))) f H locs 156 ls (by rw [show j = n by omega] at ef ek; simp [c_2, c_4, c_6, c_9, c_10, nI_clamp (show z < 2 ^ 31 by omega), nI_clamp (show n < 2 ^ 31 by omega), isPb_0, ← ef, ← ek]) (hP) (hD) hS (rfl) dX8_street_156
            · replace c_9 : ¬ n ≤ j := fun h => c_9 ((nI_leI (a := n) (b := j) (by omega) (by omega)).mpr h)
              refine lv_ldc2 (v := 7919) hx hb hown (hts _ kX8_street_L222) dX8_street_48 ?_
              refine lv_isl (x' := lN 7919) (by decide) ?_
              refine lv_iload_n hx hb dX8_street_51 rfl (lv_at hl 3 rfl) ?_
              refine lv_i2l (v := lN z) hx hb dX8_street_52 (nI_l (by omega)) ?_
              refine lv_lmul hx hb dX8_street_53 ?_
              refine lv_isl (lN_mul 7919 z) ?_
              refine lv_ldc2 (v := 6151) hx hb hown (hts _ kX8_street_L224) dX8_street_54 ?_
              refine lv_isl (x' := lN 6151) (by decide) ?_
              refine lv_iload hx hb dX8_street_57 (lv_at hl 0 rfl) ?_
              refine lv_i2l (v := lN j) hx hb dX8_street_59 (nI_l (by omega)) ?_
              refine lv_lmul hx hb dX8_street_60 ?_
              refine lv_isl (lN_mul 6151 j) ?_
              refine lv_ladd hx hb dX8_street_61 ?_
              refine lv_isl (lN_add (7919 * z) (6151 * j)) ?_
              refine lv_lconst (v := lN 1) hx hb dX8_street_62 (by decide) ?_
              refine lv_ladd hx hb dX8_street_63 ?_
              refine lv_isl (lN_add ((7919 * z) + (6151 * j)) 1) ?_
              refine lv_lstore (lv' := [(6, .long (lN (((7919 * z) + (6151 * j)) + 1))), (5, .int (nI j)), (4, .int (nI k)), (0, .ref o), (1, .int (nI z)), (2, .int (nI n)), (3, .int wv)]) hx hb dX8_street_64 hl (by decide) rfl (fun ls hl => ?_)
              refine lv_lload hx hb dX8_street_66 (lv_at hl 0 rfl) ?_
              refine lv_lload hx hb dX8_street_68 (lv_at hl 0 rfl) ?_
              refine lv_lmul hx hb dX8_street_70 ?_
              refine lv_isl (lN_mul (((7919 * z) + (6151 * j)) + 1) (((7919 * z) + (6151 * j)) + 1)) ?_
              refine lv_ldc2 (v := 65521) hx hb hown (hts _ kX8_street_L226) dX8_street_71 ?_
              refine lv_isl (x' := lN 65521) (by decide) ?_
              refine lv_lrem hx hb dX8_street_74 (by decide) ?_
              refine lv_isl (pk_lRem (a := (((7919 * z) + (6151 * j)) + 1) * (((7919 * z) + (6151 * j)) + 1)) (b := 65521) (Nat.lt_of_le_of_lt (Nat.mul_le_mul (show ((7919 * z) + (6151 * j)) + 1 ≤ 79600000 by omega) (show ((7919 * z) + (6151 * j)) + 1 ≤ 79600000 by omega)) (by decide)) (by omega) (by omega)) ?_
              refine lv_ldc2 (v := 4) hx hb hown (hts _ kX8_street_L228) dX8_street_75 ?_
              refine lv_isl (x' := lN 4) (by decide) ?_
              refine lv_ldiv hx hb dX8_street_78 (by decide) ?_
              refine lv_isl (pk_lDiv (a := ((((7919 * z) + (6151 * j)) + 1) * (((7919 * z) + (6151 * j)) + 1)) % 65521) (b := 4) (by omega) (by omega) (by omega)) ?_
              refine lv_l2i (v := nI ((((((7919 * z) + (6151 * j)) + 1) * (((7919 * z) + (6151 * j)) + 1)) % 65521) / 4)) hx hb dX8_street_79 (lN_i _) ?_
              refine lv_is (x' := nI (dN z j)) rfl ?_
              refine lv_istore (lv' := [(8, .int (nI (dN z j))), (6, .long (lN (((7919 * z) + (6151 * j)) + 1))), (5, .int (nI j)), (4, .int (nI k)), (0, .ref o), (1, .int (nI z)), (2, .int (nI n)), (3, .int wv)]) hx hb dX8_street_80 hl (by decide) rfl (fun ls hl => ?_)
              refine lv_iload hx hb dX8_street_82 (lv_at hl 0 rfl) ?_
              refine lv_bipush (v := nI 64) hx hb dX8_street_84 (by decide) ?_
              refine lv_idiv hx hb dX8_street_86 (nI_ne0 (by omega) (by omega)) ?_
              refine lv_is (pk_div (a := dN z j) (d := 64) (by omega) (by omega) (by omega)) ?_
              refine lv_iconst (v := nI 3) hx hb dX8_street_87 (by decide) ?_
              refine lv_irem hx hb dX8_street_88 (nI_ne0 (by omega) (by omega)) ?_
              refine lv_is (pk_rem (a := (dN z j) / 64) (d := 3) (by omega) (by omega) (by omega)) ?_
              refine lv_if_eq (tgt := 116) hx hb dX8_street_89 (by decide) (fun c_12 => ?_) (fun c_12 => ?_)
              · replace c_12 : (((dN z j) / 64) % 3) = 0 := (nI_eq (a := ((dN z j) / 64) % 3) (b := 0) (by omega) (by omega)).mp c_12
                refine lv_aload_n hx hb dX8_street_116 rfl (lv_at hl 4 rfl) ?_
                refine wr_callVv0 (As := []) (rest := []) (b := o) ctx hKK hP hD hS (c_X8_goes l g o a sc (upA ar 28 f) (show (sc 0) ≤ 8 from by omega) (show (sc 2) ≤ 5 from by omega)) gX8_street_X8_goes rfl rfl rfl hdX8_goes ⟨Nat.le_of_ble_eq_true rfl, Nat.le_of_ble_eq_true rfl⟩ (ci := 8) (q0 := 0) rfl rfl hl.1 rfl rfl (Nat.le_of_ble_eq_true rfl) dX8_street_117 (fun u_14 H locs hr_13 hP hD hS => ?_)
                have hP : va_P g.1 vwCl (mW g o a sc (upA ar 28 (mGoes ((ar 1)) ((sc 0)) ((sc 2)) (f)))) H := hP
                have hD : va_D A (mW g o a sc (upA ar 28 (mGoes ((ar 1)) ((sc 0)) ((sc 2)) (f)))) := hD
                refine lv_iload hx hb dX8_street_120 (lv_at hl 3 rfl) ?_
                refine lv_aload_n hx hb dX8_street_122 rfl (lv_at hl 4 rfl) ?_
                refine ro_callV0 (As := []) (rest := [.int (nI k)]) (b := o) ctx hKK hP (c_X8_shutOutNow l g o a sc (upA ar 28 (mGoes ((ar 1)) ((sc 0)) ((sc 2)) (f))) (show (sc 2) ≤ 5 from by omega)) gX8_street_X8_shutOutNow rfl rfl rfl hdX8_shutOutNow ⟨Nat.le_of_ble_eq_true rfl, Nat.le_of_ble_eq_true rfl⟩ (ci := 8) (q0 := 0) rfl rfl hl.1 rfl rfl (Nat.le_of_ble_eq_true rfl) dX8_street_123 (fun r_15 hr_15 => ?_)
                have hr_15 : r_15 = mSo ((mGoes ((ar 1)) ((sc 0)) ((sc 2)) (f))) ((ar 3)) ((sc 2)) := hr_15
                subst hr_15
                refine lv_if_ne (tgt := 133) hx hb dX8_street_126 (by decide) (fun c_16 => ?_) (fun c_16 => ?_)
                · refine lv_iconst (v := nI 0) hx hb dX8_street_133 (by decide) ?_
                  refine lv_iadd hx hb dX8_street_134 ?_
                  refine lv_is (nI_add k 0) ?_
                  refine lv_istore (lv' := [(4, .int (nI (k + 0))), (8, .int (nI (dN z j))), (6, .long (lN (((7919 * z) + (6151 * j)) + 1))), (5, .int (nI j)), (0, .ref o), (1, .int (nI z)), (2, .int (nI n)), (3, .int wv)]) hx hb dX8_street_135 hl (by decide) rfl (fun ls hl => ?_)
                  refine lv_iinc (v := nI (j + 1)) (lv' := [(5, .int (nI (j + 1))), (4, .int (nI (k + 0))), (8, .int (nI (dN z j))), (6, .long (lN (((7919 * z) + (6151 * j)) + 1))), (0, .ref o), (1, .int (nI z)), (2, .int (nI n)), (3, .int wv)]) hx hb dX8_street_137 hl (k := 3) rfl (iincK j 1) (by decide) rfl (fun ls hl => ?_)
                  refine lv_goto (tgt := 42) hx hb dX8_street_140 (by decide) ?_
                  exact ih42 (j + 1) (mGoes ((ar 1)) ((sc 0)) ((sc 2)) (f)) (k + 0) (by omega) (by omega) (by rw [mSt, ← ef]; simp [mStS, c_2, c_4, c_6, c_9, c_12, c_16]) (by rw [mSt, ← ef, ← ek]; simp [mStS, c_2, c_4, c_6, c_9, c_12, c_16]) _ _ hP hD hS ls (lv_sub hl [0, 1, 4, 5, 6, 7] rfl)
                · refine lv_iconst (v := nI 1) hx hb dX8_street_129 (by decide) ?_
                  refine lv_goto (tgt := 134) hx hb dX8_street_130 (by decide) ?_
                  refine lv_iadd hx hb dX8_street_134 ?_
                  refine lv_is (nI_add k 1) ?_
                  refine lv_istore (lv' := [(4, .int (nI (k + 1))), (8, .int (nI (dN z j))), (6, .long (lN (((7919 * z) + (6151 * j)) + 1))), (5, .int (nI j)), (0, .ref o), (1, .int (nI z)), (2, .int (nI n)), (3, .int wv)]) hx hb dX8_street_135 hl (by decide) rfl (fun ls hl => ?_)
                  refine lv_iinc (v := nI (j + 1)) (lv' := [(5, .int (nI (j + 1))), (4, .int (nI (k + 1))), (8, .int (nI (dN z j))), (6, .long (lN (((7919 * z) + (6151 * j)) + 1))), (0, .ref o), (1, .int (nI z)), (2, .int (nI n)), (3, .int wv)]) hx hb dX8_street_137 hl (k := 3) rfl (iincK j 1) (by decide) rfl (fun ls hl => ?_)
                  refine lv_goto (tgt := 42) hx hb dX8_street_140 (by decide) ?_
                  exact ih42 (j + 1) (mGoes ((ar 1)) ((sc 0)) ((sc 2)) (f)) (k + 1) (by omega) (by omega) (by rw [mSt, ← ef]; simp [mStS, c_2, c_4, c_6, c_9, c_12, c_16]) (by rw [mSt, ← ef, ← ek]; simp [mStS, c_2, c_4, c_6, c_9, c_12, c_16]) _ _ hP hD hS ls (lv_sub hl [0, 1, 4, 5, 6, 7] rfl)
              · replace c_12 : ¬ (((dN z j) / 64) % 3) = 0 := fun h => c_12 ((nI_eq (a := ((dN z j) / 64) % 3) (b := 0) (by omega) (by omega)).mpr h)
                have hmp := Nat.mod_lt (dN z j) hP0
                have hmd := Nat.mod_lt (dN z j / 8) hD0
                refine lv_aload_n hx hb dX8_street_92 rfl (lv_at hl 4 rfl) ?_
                refine lv_iload hx hb dX8_street_93 (lv_at hl 0 rfl) ?_
                refine lv_aload_n hx hb dX8_street_95 rfl (lv_at hl 4 rfl) ?_
                refine va_get (D := g.1) (cl := vwCl) (ci := 8) (v := .int (nI (sc 0))) (C := RX8) (T := TX8) (N := 29) hx hb hts hX8_street_X8 hown hK hP 0 rfl rfl 0 (by decide) (hts _ kX8_street_f82) (fun _ h9 => h9) rfl dX8_street_96 ?_
                refine lv_irem hx hb dX8_street_99 (nI_ne0 (by omega) (by omega)) ?_
                refine lv_is (pk_rem (a := dN z j) (d := sc 0) (by omega) (by omega) (by omega)) ?_
                refine lv_iload hx hb dX8_street_100 (lv_at hl 0 rfl) ?_
                refine lv_bipush (v := nI 8) hx hb dX8_street_102 (by decide) ?_
                refine lv_idiv hx hb dX8_street_104 (nI_ne0 (by omega) (by omega)) ?_
                refine lv_is (pk_div (a := dN z j) (d := 8) (by omega) (by omega) (by omega)) ?_
                refine lv_aload_n hx hb dX8_street_105 rfl (lv_at hl 4 rfl) ?_
                refine va_get (D := g.1) (cl := vwCl) (ci := 8) (v := .int (nI (sc 2))) (C := RX8) (T := TX8) (N := 29) hx hb hts hX8_street_X8 hown hK hP 0 rfl rfl 2 (by decide) (hts _ kX8_street_f89) (fun _ h9 => h9) rfl dX8_street_106 ?_
                refine lv_irem hx hb dX8_street_109 (nI_ne0 (by omega) (by omega)) ?_
                refine lv_is (pk_rem (a := (dN z j) / 8) (d := sc 2) (by omega) (by omega) (by omega)) ?_
                refine wr_callVv0 (As := [.int (nI ((dN z j) % (sc 0))), .int (nI (((dN z j) / 8) % (sc 2)))]) (rest := []) (b := o) ctx hKK hP hD hS (c_X8_calls l g o a sc (upA ar 28 f) ((dN z j) % (sc 0)) (((dN z j) / 8) % (sc 2)) (show (sc 0) ≤ 8 from by omega) (show ((dN z j) % (sc 0)) < 8 from by omega) (show (((dN z j) / 8) % (sc 2)) < 5 from by omega)) gX8_street_X8_calls rfl rfl rfl hdX8_calls ⟨Nat.le_of_ble_eq_true rfl, Nat.le_of_ble_eq_true rfl⟩ (ci := 8) (q0 := 0) rfl rfl hl.1 rfl rfl (Nat.le_of_ble_eq_true rfl) dX8_street_110 (fun u_18 H locs hr_17 hP hD hS => ?_)
                have hP : va_P g.1 vwCl (mW g o a sc (upA ar 28 (mCallW ((ar 1)) ((sc 0)) (f) ((dN z j) % (sc 0)) (((dN z j) / 8) % (sc 2))))) H := hP
                have hD : va_D A (mW g o a sc (upA ar 28 (mCallW ((ar 1)) ((sc 0)) (f) ((dN z j) % (sc 0)) (((dN z j) / 8) % (sc 2))))) := hD
                refine lv_goto (tgt := 120) hx hb dX8_street_113 (by decide) ?_
                refine lv_iload hx hb dX8_street_120 (lv_at hl 3 rfl) ?_
                refine lv_aload_n hx hb dX8_street_122 rfl (lv_at hl 4 rfl) ?_
                refine ro_callV0 (As := []) (rest := [.int (nI k)]) (b := o) ctx hKK hP (c_X8_shutOutNow l g o a sc (upA ar 28 (mCallW ((ar 1)) ((sc 0)) (f) ((dN z j) % (sc 0)) (((dN z j) / 8) % (sc 2)))) (show (sc 2) ≤ 5 from by omega)) gX8_street_X8_shutOutNow rfl rfl rfl hdX8_shutOutNow ⟨Nat.le_of_ble_eq_true rfl, Nat.le_of_ble_eq_true rfl⟩ (ci := 8) (q0 := 0) rfl rfl hl.1 rfl rfl (Nat.le_of_ble_eq_true rfl) dX8_street_123 (fun r_19 hr_19 => ?_)
                have hr_19 : r_19 = mSo ((mCallW ((ar 1)) ((sc 0)) (f) ((dN z j) % (sc 0)) (((dN z j) / 8) % (sc 2)))) ((ar 3)) ((sc 2)) := hr_19
                subst hr_19
                refine lv_if_ne (tgt := 133) hx hb dX8_street_126 (by decide) (fun c_20 => ?_) (fun c_20 => ?_)
                · refine lv_iconst (v := nI 0) hx hb dX8_street_133 (by decide) ?_
                  refine lv_iadd hx hb dX8_street_134 ?_
                  refine lv_is (nI_add k 0) ?_
                  refine lv_istore (lv' := [(4, .int (nI (k + 0))), (8, .int (nI (dN z j))), (6, .long (lN (((7919 * z) + (6151 * j)) + 1))), (5, .int (nI j)), (0, .ref o), (1, .int (nI z)), (2, .int (nI n)), (3, .int wv)]) hx hb dX8_street_135 hl (by decide) rfl (fun ls hl => ?_)
                  refine lv_iinc (v := nI (j + 1)) (lv' := [(5, .int (nI (j + 1))), (4, .int (nI (k + 0))), (8, .int (nI (dN z j))), (6, .long (lN (((7919 * z) + (6151 * j)) + 1))), (0, .ref o), (1, .int (nI z)), (2, .int (nI n)), (3, .int wv)]) hx hb dX8_street_137 hl (k := 3) rfl (iincK j 1) (by decide) rfl (fun ls hl => ?_)
                  refine lv_goto (tgt := 42) hx hb dX8_street_140 (by decide) ?_
                  exact ih42 (j + 1) (mCallW ((ar 1)) ((sc 0)) (f) ((dN z j) % (sc 0)) (((dN z j) / 8) % (sc 2))) (k + 0) (by omega) (by omega) (by rw [mSt, ← ef]; simp [mStS, c_2, c_4, c_6, c_9, c_12, c_20]) (by rw [mSt, ← ef, ← ek]; simp [mStS, c_2, c_4, c_6, c_9, c_12, c_20]) _ _ hP hD hS ls (lv_sub hl [0, 1, 4, 5, 6, 7] rfl)
                · refine lv_iconst (v := nI 1) hx hb dX8_street_129 (by decide) ?_
                  refine lv_goto (tgt := 134) hx hb dX8_street_130 (by decide) ?_
                  refine lv_iadd hx hb dX8_street_134 ?_
                  refine lv_is (nI_add k 1) ?_
                  refine lv_istore (lv' := [(4, .int (nI (k + 1))), (8, .int (nI (dN z j))), (6, .long (lN (((7919 * z) + (6151 * j)) + 1))), (5, .int (nI j)), (0, .ref o), (1, .int (nI z)), (2, .int (nI n)), (3, .int wv)]) hx hb dX8_street_135 hl (by decide) rfl (fun ls hl => ?_)
                  refine lv_iinc (v := nI (j + 1)) (lv' := [(5, .int (nI (j + 1))), (4, .int (nI (k + 1))), (8, .int (nI (dN z j))), (6, .long (lN (((7919 * z) + (6151 * j)) + 1))), (0, .ref o), (1, .int (nI z)), (2, .int (nI n)), (3, .int wv)]) hx hb dX8_street_137 hl (k := 3) rfl (iincK j 1) (by decide) rfl (fun ls hl => ?_)
                  refine lv_goto (tgt := 42) hx hb dX8_street_140 (by decide) ?_
                  exact ih42 (j + 1) (mCallW ((ar 1)) ((sc 0)) (f) ((dN z j) % (sc 0)) (((dN z j) / 8) % (sc 2))) (k + 1) (by omega) (by omega) (by rw [mSt, ← ef]; simp [mStS, c_2, c_4, c_6, c_9, c_12, c_20]) (by rw [mSt, ← ef, ← ek]; simp [mStS, c_2, c_4, c_6, c_9, c_12, c_20]) _ _ hP hD hS ls (lv_sub hl [0, 1, 4, 5, 6, 7] rfl)
        exact LP42 (n + 1) 0 (ar 7) 0 (by omega) (by omega) (rfl) (rfl) _ _ hP hD hS ls (lv_sub hl [0, 1, 2, 3, 4, 5] rfl)
      · replace c_6 := bI_f c_6
        rw [isPb_inB] at c_6
        refine lv_iconst (v := (-1)) hx hb dX8_street_30 (by decide) ?_
        exact hret (-1) (ar 28) H locs 31 ls (by simp [c_2, c_4, c_6, nI_clamp (show z < 2 ^ 31 by omega), nI_clamp (show n < 2 ^ 31 by omega)]) (hP) (hD) hS (rfl) dX8_street_31
theorem kX8_keep_f155 : (Cond.fieldLink RX8 155 "LastCallersWordModel" "keeps" "I" : Cond) ∈ wsX8_keep := List.mem_cons_of_mem _ aw_329
theorem hX8_keep_X8 : ∀ w ∈ wsX80, w ∈ wsX8_keep := fun w h => List.mem_cons_of_mem _ (ac_X8 w h)
theorem kX8_keep_f25 : (Cond.fieldLink RX8 25 "LastCallersWordModel" "kept" "[I" : Cond) ∈ wsX8_keep := List.mem_cons_of_mem _ aw_293
theorem kX8_keep_f19 : (Cond.fieldLink RX8 19 "LastCallersWordModel" "st" "[I" : Cond) ∈ wsX8_keep := List.mem_cons_of_mem _ aw_291
set_option maxHeartbeats 400000 in
set_option maxRecDepth 100000 in
theorem c_X8_keep (l : Launch) (g : GG) (o : Nat) (a : Nat → Nat) (sc : Nat → Nat) (ar : Nat → Nat → Int32) (hK2 : sc 10 ≤ 2) : Met l yX8_keep wsX8_keep ({ frames := 1, cells := 0, slots := 0, locals := 25 } : Room) (wr g [.ref o] (mW g o a sc ar)) (wQi g (mW g o a sc ar) (fun u : Nat × (Nat → Int32) => (mW g o a (updN sc 10 u.1) (upA ar 11 u.2))) (fun rr u => rr = (if sc 10 = 2 then -3 else nI (sc 10 + 1)) ∧ u = (if sc 10 = 2 then (sc 10, ar 11) else (sc 10 + 1, cpL (ar 11) (ar 7) (115 * sc 10) 0 115)))) 0 0 (cA (mW g o a sc ar)) := by
  refine wr_starti (cc := cX8_keep) (maxL := 1) (ty := .int) (by decide) rfl (Nat.le_of_ble_eq_true rfl) (fun p e s m args below meth c Q A C hP hD hS hret ls hl => ?_)
  obtain ⟨hx, hb, hml, hr, hown, hts, hlk, hKK⟩ := id C
  have hK := hKK.1
  have hown : s.vm.findClass RX8 = some m.cls := hown
  have ctx : CallFix p m c cX8_keep 1 s args wsX8_keep RX8 := ⟨hx, hb, hml, hown, hts⟩
  have hl : lv_has ls 1 [(0, .ref o)] := hl
  obtain ⟨H, hHe⟩ : ∃ H, H = s.heap := ⟨_, rfl⟩
  obtain ⟨locs, hLe⟩ : ∃ L : List Loc, L = [] := ⟨_, rfl⟩
  have hP : va_P g.1 vwCl (mW g o a sc ar) H := by rw [hHe]; exact hP
  have hS : va_S A s.heap H locs := by rw [hHe, hLe]; exact hS
  suffices hgo : W p l e ({ frames := 1, cells := 0, slots := 0, locals := 25 } : Room) s m args below meth c H locs 0 0 Q (F0 m 0 ls []) by rw [hHe, hLe] at hgo; exact hgo
  clear hHe hLe
  refine lv_aload_n hx hb dX8_keep_0 rfl (lv_at hl 0 rfl) ?_
  refine va_get (D := g.1) (cl := vwCl) (ci := 8) (v := .int (nI (sc 10))) (C := RX8) (T := TX8) (N := 29) hx hb hts hX8_keep_X8 hown hK hP 0 rfl rfl 10 (by decide) (hts _ kX8_keep_f155) (fun _ h9 => h9) rfl dX8_keep_1 ?_
  refine lv_iconst (v := nI 2) hx hb dX8_keep_4 (by decide) ?_
  refine lv_icmp_ne (tgt := 11) hx hb dX8_keep_5 (by decide) (fun c_1 => ?_) (fun c_1 => ?_)
  · replace c_1 : ¬ (sc 10) = 2 := fun h => c_1 ((nI_eq (a := sc 10) (b := 2) (by omega) (by omega)).mpr h)
    refine lv_aload_n hx hb dX8_keep_11 rfl (lv_at hl 0 rfl) ?_
    refine va_get (D := g.1) (cl := vwCl) (ci := 8) (v := .ref (a 11)) (C := RX8) (T := TX8) (N := 29) hx hb hts hX8_keep_X8 hown hK hP 0 rfl rfl 11 (by decide) (hts _ kX8_keep_f25) (fun _ h9 => h9) rfl dX8_keep_12 ?_
    refine lv_bipush (v := nI 115) hx hb dX8_keep_15 (by decide) ?_
    refine lv_aload_n hx hb dX8_keep_17 rfl (lv_at hl 0 rfl) ?_
    refine va_get (D := g.1) (cl := vwCl) (ci := 8) (v := .int (nI (sc 10))) (C := RX8) (T := TX8) (N := 29) hx hb hts hX8_keep_X8 hown hK hP 0 rfl rfl 10 (by decide) (hts _ kX8_keep_f155) (fun _ h9 => h9) rfl dX8_keep_18 ?_
    refine lv_imul hx hb dX8_keep_21 ?_
    refine lv_is (pk_mul 115 (sc 10)) ?_
    refine lv_aload_n hx hb dX8_keep_22 rfl (lv_at hl 0 rfl) ?_
    refine va_get (D := g.1) (cl := vwCl) (ci := 8) (v := .ref (a 7)) (C := RX8) (T := TX8) (N := 29) hx hb hts hX8_keep_X8 hown hK hP 0 rfl rfl 7 (by decide) (hts _ kX8_keep_f19) (fun _ h9 => h9) rfl dX8_keep_23 ?_
    refine lv_iconst (v := nI 0) hx hb dX8_keep_26 (by decide) ?_
    refine lv_bipush (v := nI 115) hx hb dX8_keep_27 (by decide) ?_
    refine wr_callSv (As := [.ref (a 11), .int (nI (115 * (sc 10))), .ref (a 7), .int (nI 0), .int (nI 115)]) (rest := []) ctx hKK hP hD hS (c_X8_copies_230_115_115 l g (a 11) (a 7) (ar 11) (ar 7) (115 * (sc 10)) 0 (by omega) (by omega)) gX8_keep_X8_copies rfl rfl rfl hdX8_copies ⟨Nat.le_of_ble_eq_true rfl, Nat.le_of_ble_eq_true rfl⟩ [6, 4] rfl rfl (fun _ _ => rfl) hl.1 rfl rfl (Nat.le_of_ble_eq_true rfl) dX8_keep_29 (fun u_3 H locs hr_2 hP hD hS => ?_)
    have hP : va_P g.1 vwCl (mW g o a sc (upA (upA ar 11 (cpL (ar 11) (ar 7) (115 * (sc 10)) 0 115)) 7 (ar 7))) H := hP
    have hD : va_D A (mW g o a sc (upA (upA ar 11 (cpL (ar 11) (ar 7) (115 * (sc 10)) 0 115)) 7 (ar 7))) := hD
    refine lv_aload_n hx hb dX8_keep_32 rfl (lv_at hl 0 rfl) ?_
    refine lv_dup hx hb dX8_keep_33 rfl ?_
    refine va_get (D := g.1) (cl := vwCl) (ci := 8) (v := .int (nI (sc 10))) (C := RX8) (T := TX8) (N := 29) hx hb hts hX8_keep_X8 hown hK hP 0 rfl rfl 10 (by decide) (hts _ kX8_keep_f155) (fun _ h9 => h9) rfl dX8_keep_34 ?_
    refine lv_iconst (v := nI 1) hx hb dX8_keep_37 (by decide) ?_
    refine lv_iadd hx hb dX8_keep_38 ?_
    refine lv_is (nI_add (sc 10) 1) ?_
    refine va_put (D := g.1) (cl := vwCl) (ci := 8) (v := .int (nI ((sc 10) + 1))) (ty := .int) (C := RX8) (T := TX8) (N := 29) hx hb hts hX8_keep_X8 tyX8 tyX8_ok nmX8 hown hK hP hD hS 0 rfl rfl 10 (by decide) (hts _ kX8_keep_f155) (fun _ h9 => h9) rfl (by decide +kernel) (rfl) (rfl) (Nat.le_of_ble_eq_true rfl) dX8_keep_39 (fun H locs hP hD hS => ?_)
    have hP : va_P g.1 vwCl (mW g o a (updN sc 10 ((sc 10) + 1)) (upA (upA ar 11 (cpL (ar 11) (ar 7) (115 * (sc 10)) 0 115)) 7 (ar 7))) H := hP
    have hD : va_D A (mW g o a (updN sc 10 ((sc 10) + 1)) (upA (upA ar 11 (cpL (ar 11) (ar 7) (115 * (sc 10)) 0 115)) 7 (ar 7))) := hD
    refine lv_aload_n hx hb dX8_keep_42 rfl (lv_at hl 0 rfl) ?_
    refine va_get (D := g.1) (cl := vwCl) (ci := 8) (v := .int (nI ((sc 10) + 1))) (C := RX8) (T := TX8) (N := 29) hx hb hts hX8_keep_X8 hown hK hP 0 rfl rfl 10 (by decide) (hts _ kX8_keep_f155) (fun _ h9 => h9) rfl dX8_keep_43 ?_
    exact hret (nI ((sc 10) + 1)) ((sc 10) + 1, cpL (ar 11) (ar 7) (115 * (sc 10)) 0 115) H locs 46 ls (⟨by simp [c_1], by simp [c_1]⟩) (hP) (hD) hS (rfl) dX8_keep_46
  · replace c_1 : (sc 10) = 2 := (nI_eq (a := sc 10) (b := 2) (by omega) (by omega)).mp c_1
    refine lv_bipush (v := (-3)) hx hb dX8_keep_8 (by decide) ?_
    exact hret (-3) (sc 10, ar 11) H locs 10 ls (⟨by simp [c_1], by simp [c_1]⟩) (hP) (hD) hS (rfl) dX8_keep_10
theorem kX8_back_f155 : (Cond.fieldLink RX8 155 "LastCallersWordModel" "keeps" "I" : Cond) ∈ wsX8_back := List.mem_cons_of_mem _ aw_329
theorem hX8_back_X8 : ∀ w ∈ wsX80, w ∈ wsX8_back := fun w h => List.mem_cons_of_mem _ (ac_X8 w h)
theorem kX8_back_f19 : (Cond.fieldLink RX8 19 "LastCallersWordModel" "st" "[I" : Cond) ∈ wsX8_back := List.mem_cons_of_mem _ aw_291
theorem kX8_back_f25 : (Cond.fieldLink RX8 25 "LastCallersWordModel" "kept" "[I" : Cond) ∈ wsX8_back := List.mem_cons_of_mem _ aw_293
theorem kX8_back_f152 : (Cond.fieldLink RX8 152 "LastCallersWordModel" "acts" "I" : Cond) ∈ wsX8_back := List.mem_cons_of_mem _ aw_328
set_option maxHeartbeats 400000 in
set_option maxRecDepth 100000 in
theorem c_X8_back (l : Launch) (g : GG) (o : Nat) (a : Nat → Nat) (sc : Nat → Nat) (ar : Nat → Nat → Int32) (hK2 : sc 10 ≤ 2) : Met l yX8_back wsX8_back ({ frames := 1, cells := 0, slots := 0, locals := 25 } : Room) (wr g [.ref o] (mW g o a sc ar)) (wQi g (mW g o a sc ar) (fun u : Nat × Nat × (Nat → Int32) => (mW g o a (updN (updN sc 8 u.1) 10 u.2.1) (upA ar 7 u.2.2))) (fun rr u => rr = (if sc 10 = 0 then -2 else nI (sc 10 - 1)) ∧ u = (if sc 10 = 0 then (sc 8, 0, ar 7) else (0, sc 10 - 1, cpL (ar 7) (ar 11) 0 (115 * (sc 10 - 1)) 115)))) 0 0 (cA (mW g o a sc ar)) := by
  refine wr_starti (cc := cX8_back) (maxL := 1) (ty := .int) (by decide) rfl (Nat.le_of_ble_eq_true rfl) (fun p e s m args below meth c Q A C hP hD hS hret ls hl => ?_)
  obtain ⟨hx, hb, hml, hr, hown, hts, hlk, hKK⟩ := id C
  have hK := hKK.1
  have hown : s.vm.findClass RX8 = some m.cls := hown
  have ctx : CallFix p m c cX8_back 1 s args wsX8_back RX8 := ⟨hx, hb, hml, hown, hts⟩
  have hl : lv_has ls 1 [(0, .ref o)] := hl
  obtain ⟨H, hHe⟩ : ∃ H, H = s.heap := ⟨_, rfl⟩
  obtain ⟨locs, hLe⟩ : ∃ L : List Loc, L = [] := ⟨_, rfl⟩
  have hP : va_P g.1 vwCl (mW g o a sc ar) H := by rw [hHe]; exact hP
  have hS : va_S A s.heap H locs := by rw [hHe, hLe]; exact hS
  suffices hgo : W p l e ({ frames := 1, cells := 0, slots := 0, locals := 25 } : Room) s m args below meth c H locs 0 0 Q (F0 m 0 ls []) by rw [hHe, hLe] at hgo; exact hgo
  clear hHe hLe
  refine lv_aload_n hx hb dX8_back_0 rfl (lv_at hl 0 rfl) ?_
  refine va_get (D := g.1) (cl := vwCl) (ci := 8) (v := .int (nI (sc 10))) (C := RX8) (T := TX8) (N := 29) hx hb hts hX8_back_X8 hown hK hP 0 rfl rfl 10 (by decide) (hts _ kX8_back_f155) (fun _ h9 => h9) rfl dX8_back_1 ?_
  refine lv_if_ne (tgt := 10) hx hb dX8_back_4 (by decide) (fun c_1 => ?_) (fun c_1 => ?_)
  · replace c_1 : ¬ (sc 10) = 0 := fun h => c_1 ((nI_eq (a := sc 10) (b := 0) (by omega) (by omega)).mpr h)
    refine lv_aload_n hx hb dX8_back_10 rfl (lv_at hl 0 rfl) ?_
    refine lv_dup hx hb dX8_back_11 rfl ?_
    refine va_get (D := g.1) (cl := vwCl) (ci := 8) (v := .int (nI (sc 10))) (C := RX8) (T := TX8) (N := 29) hx hb hts hX8_back_X8 hown hK hP 0 rfl rfl 10 (by decide) (hts _ kX8_back_f155) (fun _ h9 => h9) rfl dX8_back_12 ?_
    refine lv_iconst (v := nI 1) hx hb dX8_back_15 (by decide) ?_
    refine lv_isub hx hb dX8_back_16 ?_
    refine lv_is (pk_sub (a := sc 10) (b := 1) (by omega)) ?_
    refine va_put (D := g.1) (cl := vwCl) (ci := 8) (v := .int (nI ((sc 10) - 1))) (ty := .int) (C := RX8) (T := TX8) (N := 29) hx hb hts hX8_back_X8 tyX8 tyX8_ok nmX8 hown hK hP hD hS 0 rfl rfl 10 (by decide) (hts _ kX8_back_f155) (fun _ h9 => h9) rfl (by decide +kernel) (rfl) (rfl) (Nat.le_of_ble_eq_true rfl) dX8_back_17 (fun H locs hP hD hS => ?_)
    have hP : va_P g.1 vwCl (mW g o a (updN sc 10 ((sc 10) - 1)) ar) H := hP
    have hD : va_D A (mW g o a (updN sc 10 ((sc 10) - 1)) ar) := hD
    refine lv_aload_n hx hb dX8_back_20 rfl (lv_at hl 0 rfl) ?_
    refine va_get (D := g.1) (cl := vwCl) (ci := 8) (v := .ref (a 7)) (C := RX8) (T := TX8) (N := 29) hx hb hts hX8_back_X8 hown hK hP 0 rfl rfl 7 (by decide) (hts _ kX8_back_f19) (fun _ h9 => h9) rfl dX8_back_21 ?_
    refine lv_iconst (v := nI 0) hx hb dX8_back_24 (by decide) ?_
    refine lv_aload_n hx hb dX8_back_25 rfl (lv_at hl 0 rfl) ?_
    refine va_get (D := g.1) (cl := vwCl) (ci := 8) (v := .ref (a 11)) (C := RX8) (T := TX8) (N := 29) hx hb hts hX8_back_X8 hown hK hP 0 rfl rfl 11 (by decide) (hts _ kX8_back_f25) (fun _ h9 => h9) rfl dX8_back_26 ?_
    refine lv_bipush (v := nI 115) hx hb dX8_back_29 (by decide) ?_
    refine lv_aload_n hx hb dX8_back_31 rfl (lv_at hl 0 rfl) ?_
    refine va_get (D := g.1) (cl := vwCl) (ci := 8) (v := .int (nI ((sc 10) - 1))) (C := RX8) (T := TX8) (N := 29) hx hb hts hX8_back_X8 hown hK hP 0 rfl rfl 10 (by decide) (hts _ kX8_back_f155) (fun _ h9 => h9) rfl dX8_back_32 ?_
    refine lv_imul hx hb dX8_back_35 ?_
    refine lv_is (pk_mul 115 ((sc 10) - 1)) ?_
    refine lv_bipush (v := nI 115) hx hb dX8_back_36 (by decide) ?_
    refine wr_callSv (As := [.ref (a 7), .int (nI 0), .ref (a 11), .int (nI (115 * ((sc 10) - 1))), .int (nI 115)]) (rest := []) ctx hKK hP hD hS (c_X8_copies_115_230_115 l g (a 7) (a 11) (ar 7) (ar 11) 0 (115 * ((sc 10) - 1)) (by omega) (by omega)) gX8_back_X8_copies rfl rfl rfl hdX8_copies ⟨Nat.le_of_ble_eq_true rfl, Nat.le_of_ble_eq_true rfl⟩ [4, 6] rfl rfl (fun _ _ => rfl) hl.1 rfl rfl (Nat.le_of_ble_eq_true rfl) dX8_back_38 (fun u_3 H locs hr_2 hP hD hS => ?_)
    have hP : va_P g.1 vwCl (mW g o a (updN sc 10 ((sc 10) - 1)) (upA (upA ar 7 (cpL (ar 7) (ar 11) 0 (115 * ((sc 10) - 1)) 115)) 11 (ar 11))) H := hP
    have hD : va_D A (mW g o a (updN sc 10 ((sc 10) - 1)) (upA (upA ar 7 (cpL (ar 7) (ar 11) 0 (115 * ((sc 10) - 1)) 115)) 11 (ar 11))) := hD
    refine lv_aload_n hx hb dX8_back_41 rfl (lv_at hl 0 rfl) ?_
    refine lv_iconst (v := nI 0) hx hb dX8_back_42 (by decide) ?_
    refine va_put (D := g.1) (cl := vwCl) (ci := 8) (v := .int (nI 0)) (ty := .int) (C := RX8) (T := TX8) (N := 29) hx hb hts hX8_back_X8 tyX8 tyX8_ok nmX8 hown hK hP hD hS 0 rfl rfl 8 (by decide) (hts _ kX8_back_f152) (fun _ h9 => h9) rfl (by decide +kernel) (rfl) (rfl) (Nat.le_of_ble_eq_true rfl) dX8_back_43 (fun H locs hP hD hS => ?_)
    have hP : va_P g.1 vwCl (mW g o a (updN (updN sc 10 ((sc 10) - 1)) 8 0) (upA (upA ar 7 (cpL (ar 7) (ar 11) 0 (115 * ((sc 10) - 1)) 115)) 11 (ar 11))) H := hP
    have hD : va_D A (mW g o a (updN (updN sc 10 ((sc 10) - 1)) 8 0) (upA (upA ar 7 (cpL (ar 7) (ar 11) 0 (115 * ((sc 10) - 1)) 115)) 11 (ar 11))) := hD
    refine lv_aload_n hx hb dX8_back_46 rfl (lv_at hl 0 rfl) ?_
    refine va_get (D := g.1) (cl := vwCl) (ci := 8) (v := .int (nI ((sc 10) - 1))) (C := RX8) (T := TX8) (N := 29) hx hb hts hX8_back_X8 hown hK hP 0 rfl rfl 10 (by decide) (hts _ kX8_back_f155) (fun _ h9 => h9) rfl dX8_back_47 ?_
    exact hret (nI ((sc 10) - 1)) (0, (sc 10) - 1, cpL (ar 7) (ar 11) 0 (115 * ((sc 10) - 1)) 115) H locs 50 ls (⟨by simp [c_1], by simp [c_1]⟩) (hP) (hD) hS (rfl) dX8_back_50
  · replace c_1 : (sc 10) = 0 := (nI_eq (a := sc 10) (b := 0) (by omega) (by omega)).mp c_1
    refine lv_bipush (v := (-2)) hx hb dX8_back_7 (by decide) ?_
    exact hret (-2) (sc 8, sc 10, ar 7) H locs 9 ls (⟨by simp [c_1], by simp [c_1]⟩) (hP) (hD) hS (rfl) dX8_back_9
theorem kX8_count_f82 : (Cond.fieldLink RX8 82 "LastCallersWordModel" "persons" "I" : Cond) ∈ wsX8_count := List.mem_cons_of_mem _ aw_324
theorem hX8_count_X8 : ∀ w ∈ wsX80, w ∈ wsX8_count := fun w h => List.mem_cons_of_mem _ (ac_X8 w h)
theorem kX8_count_f89 : (Cond.fieldLink RX8 89 "LastCallersWordModel" "doors" "I" : Cond) ∈ wsX8_count := List.mem_cons_of_mem _ aw_325
theorem kX8_count_f143 : (Cond.fieldLink RX8 143 "LastCallersWordModel" "words" "I" : Cond) ∈ wsX8_count := List.mem_cons_of_mem _ aw_326
theorem kX8_count_f19 : (Cond.fieldLink RX8 19 "LastCallersWordModel" "st" "[I" : Cond) ∈ wsX8_count := List.mem_cons_of_mem _ aw_291
theorem kX8_count_f146 : (Cond.fieldLink RX8 146 "LastCallersWordModel" "bars" "I" : Cond) ∈ wsX8_count := List.mem_cons_of_mem _ aw_327
theorem kX8_count_f158 : (Cond.fieldLink RX8 158 "LastCallersWordModel" "seens" "I" : Cond) ∈ wsX8_count := List.mem_cons_of_mem _ aw_330
theorem kX8_count_f152 : (Cond.fieldLink RX8 152 "LastCallersWordModel" "acts" "I" : Cond) ∈ wsX8_count := List.mem_cons_of_mem _ aw_328
theorem kX8_count_f155 : (Cond.fieldLink RX8 155 "LastCallersWordModel" "keeps" "I" : Cond) ∈ wsX8_count := List.mem_cons_of_mem _ aw_329
theorem kX8_count_f92 : (Cond.fieldLink RX8 92 "LastCallersWordModel" "texted" "I" : Cond) ∈ wsX8_count := List.mem_cons_of_mem _ aw_360
set_option maxHeartbeats 400000 in
set_option maxRecDepth 100000 in
theorem c_X8_count (l : Launch) (g : GG) (o : Nat) (a : Nat → Nat) (sc : Nat → Nat) (ar : Nat → Nat → Int32) (wv : Int32) : Met l yX8_count wsX8_count ({ frames := 0, cells := 0, slots := 0, locals := 0 } : Room) (ro g [.ref o, .int wv] (mW g o a sc ar)) (vp_Si (fun rr => rr = if wv = nI 0 then nI (sc 0) else if wv = nI 1 then nI (sc 2) else if wv = nI 2 then nI (sc 4) else if wv = nI 3 then ar 7 0 else if wv = nI 4 then nI (sc 6) else if wv = nI 5 then nI (sc 12) else if wv = nI 6 then nI (sc 8) else if wv = nI 7 then nI (sc 10) else if wv = nI 8 then nI (sc 15) else -1)) 0 0 (fun _ => False) := by
  refine ro_start (cc := cX8_count) (maxL := 2) (ty := .int) (by decide) rfl (Nat.le_of_ble_eq_true rfl) (fun p e s m args below meth c Q C hP hret ls hl => ?_)
  obtain ⟨hx, hb, hml, hr, hown, hts, hlk, hKK⟩ := id C
  have hK := hKK.1
  have hown : s.vm.findClass RX8 = some m.cls := hown
  have ctx : CallFix p m c cX8_count 2 s args wsX8_count RX8 := ⟨hx, hb, hml, hown, hts⟩
  have hl : lv_has ls 2 [(0, .ref o), (1, .int wv)] := hl
  refine lv_iload_n hx hb dX8_count_0 rfl (lv_at hl 1 rfl) ?_
  by_cases c_1 : wv = nI 0
  · refine lv_tableIn (x := wv) (off := 51) (tgt := 52) hx hb dX8_count_1 (by rw [c_1]; decide) (by rw [c_1]; decide) (by rw [c_1]; rfl) (by decide) ?_
    refine lv_aload_n hx hb dX8_count_52 rfl (lv_at hl 0 rfl) ?_
    refine va_get (D := g.1) (cl := vwCl) (ci := 8) (v := .int (nI (sc 0))) (C := RX8) (T := TX8) (N := 29) hx hb hts hX8_count_X8 hown hK hP 0 rfl rfl 0 (by decide) (hts _ kX8_count_f82) (fun _ h9 => h9) rfl dX8_count_53 ?_
    exact hret (nI (sc 0)) 56 ls (by simp (decide := true) [c_1]) (rfl) dX8_count_56
  by_cases c_2 : wv = nI 1
  · refine lv_tableIn (x := wv) (off := 56) (tgt := 57) hx hb dX8_count_1 (by rw [c_2]; decide) (by rw [c_2]; decide) (by rw [c_2]; rfl) (by decide) ?_
    refine lv_aload_n hx hb dX8_count_57 rfl (lv_at hl 0 rfl) ?_
    refine va_get (D := g.1) (cl := vwCl) (ci := 8) (v := .int (nI (sc 2))) (C := RX8) (T := TX8) (N := 29) hx hb hts hX8_count_X8 hown hK hP 0 rfl rfl 2 (by decide) (hts _ kX8_count_f89) (fun _ h9 => h9) rfl dX8_count_58 ?_
    exact hret (nI (sc 2)) 61 ls (by simp (decide := true) [c_1, c_2]) (rfl) dX8_count_61
  by_cases c_3 : wv = nI 2
  · refine lv_tableIn (x := wv) (off := 61) (tgt := 62) hx hb dX8_count_1 (by rw [c_3]; decide) (by rw [c_3]; decide) (by rw [c_3]; rfl) (by decide) ?_
    refine lv_aload_n hx hb dX8_count_62 rfl (lv_at hl 0 rfl) ?_
    refine va_get (D := g.1) (cl := vwCl) (ci := 8) (v := .int (nI (sc 4))) (C := RX8) (T := TX8) (N := 29) hx hb hts hX8_count_X8 hown hK hP 0 rfl rfl 4 (by decide) (hts _ kX8_count_f143) (fun _ h9 => h9) rfl dX8_count_63 ?_
    exact hret (nI (sc 4)) 66 ls (by simp (decide := true) [c_1, c_2, c_3]) (rfl) dX8_count_66
  by_cases c_4 : wv = nI 3
  · refine lv_tableIn (x := wv) (off := 66) (tgt := 67) hx hb dX8_count_1 (by rw [c_4]; decide) (by rw [c_4]; decide) (by rw [c_4]; rfl) (by decide) ?_
    refine lv_aload_n hx hb dX8_count_67 rfl (lv_at hl 0 rfl) ?_
    refine va_get (D := g.1) (cl := vwCl) (ci := 8) (v := .ref (a 7)) (C := RX8) (T := TX8) (N := 29) hx hb hts hX8_count_X8 hown hK hP 0 rfl rfl 7 (by decide) (hts _ kX8_count_f19) (fun _ h9 => h9) rfl dX8_count_68 ?_
    refine lv_iconst (v := nI 0) hx hb dX8_count_71 (by decide) ?_
    refine ald_i (D := g.1) (cl := vwCl) (f := ar 7) (i := 0) (n := 115) hx hb hK hP 4 0 rfl rfl (by omega) (by decide) dX8_count_72 ?_
    exact hret ((ar 7) 0) 73 ls (by simp (decide := true) [c_1, c_2, c_3, c_4]) (rfl) dX8_count_73
  by_cases c_5 : wv = nI 4
  · refine lv_tableIn (x := wv) (off := 73) (tgt := 74) hx hb dX8_count_1 (by rw [c_5]; decide) (by rw [c_5]; decide) (by rw [c_5]; rfl) (by decide) ?_
    refine lv_aload_n hx hb dX8_count_74 rfl (lv_at hl 0 rfl) ?_
    refine va_get (D := g.1) (cl := vwCl) (ci := 8) (v := .int (nI (sc 6))) (C := RX8) (T := TX8) (N := 29) hx hb hts hX8_count_X8 hown hK hP 0 rfl rfl 6 (by decide) (hts _ kX8_count_f146) (fun _ h9 => h9) rfl dX8_count_75 ?_
    exact hret (nI (sc 6)) 78 ls (by simp (decide := true) [c_1, c_2, c_3, c_4, c_5]) (rfl) dX8_count_78
  by_cases c_6 : wv = nI 5
  · refine lv_tableIn (x := wv) (off := 78) (tgt := 79) hx hb dX8_count_1 (by rw [c_6]; decide) (by rw [c_6]; decide) (by rw [c_6]; rfl) (by decide) ?_
    refine lv_aload_n hx hb dX8_count_79 rfl (lv_at hl 0 rfl) ?_
    refine va_get (D := g.1) (cl := vwCl) (ci := 8) (v := .int (nI (sc 12))) (C := RX8) (T := TX8) (N := 29) hx hb hts hX8_count_X8 hown hK hP 0 rfl rfl 12 (by decide) (hts _ kX8_count_f158) (fun _ h9 => h9) rfl dX8_count_80 ?_
    exact hret (nI (sc 12)) 83 ls (by simp (decide := true) [c_1, c_2, c_3, c_4, c_5, c_6]) (rfl) dX8_count_83
  by_cases c_7 : wv = nI 6
  · refine lv_tableIn (x := wv) (off := 83) (tgt := 84) hx hb dX8_count_1 (by rw [c_7]; decide) (by rw [c_7]; decide) (by rw [c_7]; rfl) (by decide) ?_
    refine lv_aload_n hx hb dX8_count_84 rfl (lv_at hl 0 rfl) ?_
    refine va_get (D := g.1) (cl := vwCl) (ci := 8) (v := .int (nI (sc 8))) (C := RX8) (T := TX8) (N := 29) hx hb hts hX8_count_X8 hown hK hP 0 rfl rfl 8 (by decide) (hts _ kX8_count_f152) (fun _ h9 => h9) rfl dX8_count_85 ?_
    exact hret (nI (sc 8)) 88 ls (by simp (decide := true) [c_1, c_2, c_3, c_4, c_5, c_6, c_7]) (rfl) dX8_count_88
  by_cases c_8 : wv = nI 7
  · refine lv_tableIn (x := wv) (off := 88) (tgt := 89) hx hb dX8_count_1 (by rw [c_8]; decide) (by rw [c_8]; decide) (by rw [c_8]; rfl) (by decide) ?_
    refine lv_aload_n hx hb dX8_count_89 rfl (lv_at hl 0 rfl) ?_
    refine va_get (D := g.1) (cl := vwCl) (ci := 8) (v := .int (nI (sc 10))) (C := RX8) (T := TX8) (N := 29) hx hb hts hX8_count_X8 hown hK hP 0 rfl rfl 10 (by decide) (hts _ kX8_count_f155) (fun _ h9 => h9) rfl dX8_count_90 ?_
    exact hret (nI (sc 10)) 93 ls (by simp (decide := true) [c_1, c_2, c_3, c_4, c_5, c_6, c_7, c_8]) (rfl) dX8_count_93
  by_cases c_9 : wv = nI 8
  · refine lv_tableIn (x := wv) (off := 93) (tgt := 94) hx hb dX8_count_1 (by rw [c_9]; decide) (by rw [c_9]; decide) (by rw [c_9]; rfl) (by decide) ?_
    refine lv_aload_n hx hb dX8_count_94 rfl (lv_at hl 0 rfl) ?_
    refine va_get (D := g.1) (cl := vwCl) (ci := 8) (v := .int (nI (sc 15))) (C := RX8) (T := TX8) (N := 29) hx hb hts hX8_count_X8 hown hK hP 0 rfl rfl 15 (by decide) (hts _ kX8_count_f92) (fun _ h9 => h9) rfl dX8_count_95 ?_
    exact hret (nI (sc 15)) 98 ls (by simp (decide := true) [c_1, c_2, c_3, c_4, c_5, c_6, c_7, c_8, c_9]) (rfl) dX8_count_98
  refine lv_tableOut (x := wv) (tgt := 99) hx hb dX8_count_1 (swOut 8 (by decide) (fun k hk => by rcases (by omega : k = 0 ∨ k = 1 ∨ k = 2 ∨ k = 3 ∨ k = 4 ∨ k = 5 ∨ k = 6 ∨ k = 7 ∨ k = 8) with rfl | rfl | rfl | rfl | rfl | rfl | rfl | rfl | rfl <;> assumption)) (by decide) ?_
  refine lv_iconst (v := (-1)) hx hb dX8_count_99 (by decide) ?_
  exact hret (-1) 100 ls (by simp (decide := true) [c_1, c_2, c_3, c_4, c_5, c_6, c_7, c_8, c_9]) (rfl) dX8_count_100
