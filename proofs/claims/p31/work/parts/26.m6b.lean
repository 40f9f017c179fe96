theorem kX8_clearTold_f106 : (Cond.fieldLink RX8 106 "LastCallersWordModel" "isBegun" "Z" : Cond) ∈ wsX8_clearTold := List.mem_cons_of_mem _ aw_309
theorem hX8_clearTold_X8 : ∀ w ∈ wsX80, w ∈ wsX8_clearTold := fun w h => List.mem_cons_of_mem _ (ac_X8 w h)
theorem kX8_clearTold_f55 : (Cond.fieldLink RX8 55 "LastCallersWordModel" "readPersons" "I" : Cond) ∈ wsX8_clearTold := List.mem_cons_of_mem _ aw_302
theorem kX8_clearTold_f76 : (Cond.fieldLink RX8 76 "LastCallersWordModel" "readTold" "I" : Cond) ∈ wsX8_clearTold := List.mem_cons_of_mem _ aw_310
theorem kX8_clearTold_f79 : (Cond.fieldLink RX8 79 "LastCallersWordModel" "readDoors" "I" : Cond) ∈ wsX8_clearTold := List.mem_cons_of_mem _ aw_311
theorem kX8_clearTold_f67 : (Cond.fieldLink RX8 67 "LastCallersWordModel" "readWords" "I" : Cond) ∈ wsX8_clearTold := List.mem_cons_of_mem _ aw_303
theorem kX8_clearTold_f70 : (Cond.fieldLink RX8 70 "LastCallersWordModel" "readBars" "I" : Cond) ∈ wsX8_clearTold := List.mem_cons_of_mem _ aw_304
theorem kX8_clearTold_f46 : (Cond.fieldLink RX8 46 "LastCallersWordModel" "read" "[I" : Cond) ∈ wsX8_clearTold := List.mem_cons_of_mem _ aw_300
set_option maxHeartbeats 400000 in
set_option maxRecDepth 100000 in
theorem c_X8_clearTold (l : Launch) (g : GG) (o : Nat) (a : Nat → Nat) (sc : Nat → Nat) (ar : Nat → Nat → Int32) : Met l yX8_clearTold wsX8_clearTold ({ frames := 0, cells := 0, slots := 0, locals := 0 } : Room) (wr g [.ref o] (mW g o a sc ar)) (wQv g (mW g o a sc ar) (fun u : Unit => (mW g o a (updN (updN (updN (updN (updN (updN sc 18 0) 19 4) 20 0) 22 0) 24 0) 26 3) (upA ar 27 zF))) (fun u => True)) 0 0 (cA (mW g o a sc ar)) := by
  refine wr_startv (cc := cX8_clearTold) (maxL := 2) (by decide) rfl (Nat.le_of_ble_eq_true rfl) (fun p e s m args below meth c Q A C hP hD hS hret ls hl => ?_)
  obtain ⟨hx, hb, hml, hr, hown, hts, hlk, hKK⟩ := id C
  have hK := hKK.1
  have hown : s.vm.findClass RX8 = some m.cls := hown
  have ctx : CallFix p m c cX8_clearTold 2 s args wsX8_clearTold RX8 := ⟨hx, hb, hml, hown, hts⟩
  have hl : lv_has ls 2 [(0, .ref o)] := hl
  obtain ⟨H, hHe⟩ : ∃ H, H = s.heap := ⟨_, rfl⟩
  obtain ⟨locs, hLe⟩ : ∃ L : List Loc, L = [] := ⟨_, rfl⟩
  have hP : va_P g.1 vwCl (mW g o a sc ar) H := by rw [hHe]; exact hP
  have hS : va_S A s.heap H locs := by rw [hHe, hLe]; exact hS
  suffices hgo : W p l e ({ frames := 0, cells := 0, slots := 0, locals := 0 } : Room) s m args below meth c H locs 0 0 Q (F0 m 0 ls []) by rw [hHe, hLe] at hgo; exact hgo
  clear hHe hLe
  refine lv_aload_n hx hb dX8_clearTold_0 rfl (lv_at hl 0 rfl) ?_
  refine lv_iconst (v := nI 0) hx hb dX8_clearTold_1 (by decide) ?_
  refine va_put (D := g.1) (cl := vwCl) (ci := 8) (v := .int (nI 0)) (ty := .boolean) (C := RX8) (T := TX8) (N := 29) hx hb hts hX8_clearTold_X8 tyX8 tyX8_ok nmX8 hown hK hP hD hS 0 rfl rfl 18 (by decide) (hts _ kX8_clearTold_f106) (fun _ h9 => h9) rfl (by decide +kernel) (rfl) (rfl) (Nat.le_of_ble_eq_true rfl) dX8_clearTold_2 (fun H locs hP hD hS => ?_)
  have hP : va_P g.1 vwCl (mW g o a (updN sc 18 0) ar) H := hP
  have hD : va_D A (mW g o a (updN sc 18 0) ar) := hD
  refine lv_aload_n hx hb dX8_clearTold_5 rfl (lv_at hl 0 rfl) ?_
  refine lv_iconst (v := nI 4) hx hb dX8_clearTold_6 (by decide) ?_
  refine va_put (D := g.1) (cl := vwCl) (ci := 8) (v := .int (nI 4)) (ty := .int) (C := RX8) (T := TX8) (N := 29) hx hb hts hX8_clearTold_X8 tyX8 tyX8_ok nmX8 hown hK hP hD hS 0 rfl rfl 19 (by decide) (hts _ kX8_clearTold_f55) (fun _ h9 => h9) rfl (by decide +kernel) (rfl) (rfl) (Nat.le_of_ble_eq_true rfl) dX8_clearTold_7 (fun H locs hP hD hS => ?_)
  have hP : va_P g.1 vwCl (mW g o a (updN (updN sc 18 0) 19 4) ar) H := hP
  have hD : va_D A (mW g o a (updN (updN sc 18 0) 19 4) ar) := hD
  refine lv_aload_n hx hb dX8_clearTold_10 rfl (lv_at hl 0 rfl) ?_
  refine lv_iconst (v := nI 0) hx hb dX8_clearTold_11 (by decide) ?_
  refine va_put (D := g.1) (cl := vwCl) (ci := 8) (v := .int (nI 0)) (ty := .int) (C := RX8) (T := TX8) (N := 29) hx hb hts hX8_clearTold_X8 tyX8 tyX8_ok nmX8 hown hK hP hD hS 0 rfl rfl 20 (by decide) (hts _ kX8_clearTold_f76) (fun _ h9 => h9) rfl (by decide +kernel) (rfl) (rfl) (Nat.le_of_ble_eq_true rfl) dX8_clearTold_12 (fun H locs hP hD hS => ?_)
  have hP : va_P g.1 vwCl (mW g o a (updN (updN (updN sc 18 0) 19 4) 20 0) ar) H := hP
  have hD : va_D A (mW g o a (updN (updN (updN sc 18 0) 19 4) 20 0) ar) := hD
  refine lv_aload_n hx hb dX8_clearTold_15 rfl (lv_at hl 0 rfl) ?_
  refine lv_iconst (v := nI 0) hx hb dX8_clearTold_16 (by decide) ?_
  refine va_put (D := g.1) (cl := vwCl) (ci := 8) (v := .int (nI 0)) (ty := .int) (C := RX8) (T := TX8) (N := 29) hx hb hts hX8_clearTold_X8 tyX8 tyX8_ok nmX8 hown hK hP hD hS 0 rfl rfl 22 (by decide) (hts _ kX8_clearTold_f79) (fun _ h9 => h9) rfl (by decide +kernel) (rfl) (rfl) (Nat.le_of_ble_eq_true rfl) dX8_clearTold_17 (fun H locs hP hD hS => ?_)
  have hP : va_P g.1 vwCl (mW g o a (updN (updN (updN (updN sc 18 0) 19 4) 20 0) 22 0) ar) H := hP
  have hD : va_D A (mW g o a (updN (updN (updN (updN sc 18 0) 19 4) 20 0) 22 0) ar) := hD
  refine lv_aload_n hx hb dX8_clearTold_20 rfl (lv_at hl 0 rfl) ?_
  refine lv_iconst (v := nI 0) hx hb dX8_clearTold_21 (by decide) ?_
  refine va_put (D := g.1) (cl := vwCl) (ci := 8) (v := .int (nI 0)) (ty := .int) (C := RX8) (T := TX8) (N := 29) hx hb hts hX8_clearTold_X8 tyX8 tyX8_ok nmX8 hown hK hP hD hS 0 rfl rfl 24 (by decide) (hts _ kX8_clearTold_f67) (fun _ h9 => h9) rfl (by decide +kernel) (rfl) (rfl) (Nat.le_of_ble_eq_true rfl) dX8_clearTold_22 (fun H locs hP hD hS => ?_)
  have hP : va_P g.1 vwCl (mW g o a (updN (updN (updN (updN (updN sc 18 0) 19 4) 20 0) 22 0) 24 0) ar) H := hP
  have hD : va_D A (mW g o a (updN (updN (updN (updN (updN sc 18 0) 19 4) 20 0) 22 0) 24 0) ar) := hD
  refine lv_aload_n hx hb dX8_clearTold_25 rfl (lv_at hl 0 rfl) ?_
  refine lv_iconst (v := nI 3) hx hb dX8_clearTold_26 (by decide) ?_
  refine va_put (D := g.1) (cl := vwCl) (ci := 8) (v := .int (nI 3)) (ty := .int) (C := RX8) (T := TX8) (N := 29) hx hb hts hX8_clearTold_X8 tyX8 tyX8_ok nmX8 hown hK hP hD hS 0 rfl rfl 26 (by decide) (hts _ kX8_clearTold_f70) (fun _ h9 => h9) rfl (by decide +kernel) (rfl) (rfl) (Nat.le_of_ble_eq_true rfl) dX8_clearTold_27 (fun H locs hP hD hS => ?_)
  have hP : va_P g.1 vwCl (mW g o a (updN (updN (updN (updN (updN (updN sc 18 0) 19 4) 20 0) 22 0) 24 0) 26 3) ar) H := hP
  have hD : va_D A (mW g o a (updN (updN (updN (updN (updN (updN sc 18 0) 19 4) 20 0) 22 0) 24 0) 26 3) ar) := hD
  refine lv_iconst (v := nI 0) hx hb dX8_clearTold_30 (by decide) ?_
  refine lv_istore_n (lv' := [(1, .int (nI 0)), (0, .ref o)]) hx hb dX8_clearTold_31 rfl hl (by decide) rfl (fun ls hl => ?_)
  have LP32 : ∀ (fu : Nat) (j : Nat) (f : Nat → Int32), 115 - j < fu → (j ≤ 115) → (∀ k, k < j → f k = nI 0) → ∀ (H : Heap) (locs : List Loc), va_P g.1 vwCl (mW g o a (updN (updN (updN (updN (updN (updN sc 18 0) 19 4) 20 0) 22 0) 24 0) 26 3) (upA ar 27 f)) H → va_D A (mW g o a (updN (updN (updN (updN (updN (updN sc 18 0) 19 4) 20 0) 22 0) 24 0) 26 3) (upA ar 27 f)) → va_S A s.heap H locs → ∀ (ls : Array Slot), lv_has ls 2 [(1, .int (nI j)), (0, .ref o)] → W p l e ({ frames := 0, cells := 0, slots := 0, locals := 0 } : Room) s m args below meth c H locs 0 0 Q (F0 m 32 ls []) := by
    intro fu
    induction fu with
    | zero => intro j f hfu; exact absurd hfu (Nat.not_lt_zero _)
    | succ fu ih32 =>
      intro j f hfu hj ef H locs hP hD hS ls hl
      refine lv_iload_n hx hb dX8_clearTold_32 rfl (lv_at hl 0 rfl) ?_
      refine lv_bipush (v := nI 115) hx hb dX8_clearTold_33 (by decide) ?_
      refine lv_icmp_ge (tgt := 51) hx hb dX8_clearTold_35 (by decide) (fun c_1 => ?_) (fun c_1 => ?_)
      · replace c_1 : 115 ≤ j := (nI_leI (a := 115) (b := j) (by omega) (by omega)).mp c_1
        replace hP := P_at (f := f) hP 13 rfl zF (fun k hk => ef k (by omega))
        replace hD := D_at hD 13 rfl (.inl (g.2.1, 115, .inl zF))
        have hP : va_P g.1 vwCl (mW g o a (updN (updN (updN (updN (updN (updN sc 18 0) 19 4) 20 0) 22 0) 24 0) 26 3) (upA ar 27 zF)) H := hP
        have hD : va_D A (mW g o a (updN (updN (updN (updN (updN (updN sc 18 0) 19 4) 20 0) 22 0) 24 0) 26 3) (upA ar 27 zF)) := hD
        exact hret () H locs 51 ls (trivial) (hP) (hD) hS dX8_clearTold_51
      · replace c_1 : ¬ 115 ≤ j := fun h => c_1 ((nI_leI (a := 115) (b := j) (by omega) (by omega)).mpr h)
        refine lv_aload_n hx hb dX8_clearTold_38 rfl (lv_at hl 1 rfl) ?_
        refine va_get (D := g.1) (cl := vwCl) (ci := 8) (v := .ref (a 27)) (C := RX8) (T := TX8) (N := 29) hx hb hts hX8_clearTold_X8 hown hK hP 0 rfl rfl 27 (by decide) (hts _ kX8_clearTold_f46) (fun _ h9 => h9) rfl dX8_clearTold_39 ?_
        refine lv_iload_n hx hb dX8_clearTold_42 rfl (lv_at hl 0 rfl) ?_
        refine lv_iconst (v := nI 0) hx hb dX8_clearTold_43 (by decide) ?_
        refine ast_i (D := g.1) (cl := vwCl) (f := f) (i := j) (n := 115) (x := nI 0) hx hb hK hP hD hS 13 0 rfl rfl (by omega) (by decide) dX8_clearTold_44 (fun H locs hP hD hS => ?_)
        have hP : va_P g.1 vwCl (mW g o a (updN (updN (updN (updN (updN (updN sc 18 0) 19 4) 20 0) 22 0) 24 0) 26 3) (upA ar 27 (upd f j (nI 0)))) H := hP
        have hD : va_D A (mW g o a (updN (updN (updN (updN (updN (updN sc 18 0) 19 4) 20 0) 22 0) 24 0) 26 3) (upA ar 27 (upd f j (nI 0)))) := hD
        refine lv_iinc (v := nI (j + 1)) (lv' := [(1, .int (nI (j + 1))), (0, .ref o)]) hx hb dX8_clearTold_45 hl (k := 0) rfl (iincK j 1) (by decide) rfl (fun ls hl => ?_)
        refine lv_goto (tgt := 32) hx hb dX8_clearTold_48 (by decide) ?_
        exact ih32 (j + 1) (upd f j (nI 0)) (by omega) (by omega) (fun k hk => by by_cases hkj : k = j; (subst hkj; exact pk_us); (rw [pk_un hkj]; exact ef k (by omega))) _ _ hP hD hS ls (lv_sub hl [0, 1] rfl)
  exact LP32 116 0 (ar 27) (by omega) (by omega) (fun k hk => absurd hk (Nat.not_lt_zero k)) _ _ hP hD hS ls (lv_sub hl [0, 1] rfl)
theorem kX8_tellsDoor_f40 : (Cond.fieldLink RX8 40 "LastCallersWordModel" "readHosts" "[I" : Cond) ∈ wsX8_tellsDoor := List.mem_cons_of_mem _ aw_298
theorem hX8_tellsDoor_X8 : ∀ w ∈ wsX80, w ∈ wsX8_tellsDoor := fun w h => List.mem_cons_of_mem _ (ac_X8 w h)
theorem kX8_tellsDoor_f79 : (Cond.fieldLink RX8 79 "LastCallersWordModel" "readDoors" "I" : Cond) ∈ wsX8_tellsDoor := List.mem_cons_of_mem _ aw_311
theorem kX8_tellsDoor_f46 : (Cond.fieldLink RX8 46 "LastCallersWordModel" "read" "[I" : Cond) ∈ wsX8_tellsDoor := List.mem_cons_of_mem _ aw_300
set_option maxHeartbeats 400000 in
set_option maxRecDepth 100000 in
theorem c_X8_tellsDoor (l : Launch) (g : GG) (o : Nat) (a : Nat → Nat) (sc : Nat → Nat) (ar : Nat → Nat → Int32) (hv : Int32) (cv : Int32) (hr : sc 22 < 5) : Met l yX8_tellsDoor wsX8_tellsDoor ({ frames := 0, cells := 0, slots := 0, locals := 0 } : Room) (wr g [.ref o, .int hv, .int cv] (mW g o a sc ar)) (wQv g (mW g o a sc ar) (fun u : Unit => (mW g o a (updN sc 22 (sc 22 + 1)) (upA (upA ar 23 (upd (ar 23) (sc 22) hv)) 27 (upd (ar 27) (65 + sc 22) cv)))) (fun u => True)) 0 0 (cA (mW g o a sc ar)) := by
  refine wr_startv (cc := cX8_tellsDoor) (maxL := 3) (by decide) rfl (Nat.le_of_ble_eq_true rfl) (fun p e s m args below meth c Q A C hP hD hS hret ls hl => ?_)
  obtain ⟨hx, hb, hml, hr, hown, hts, hlk, hKK⟩ := id C
  have hK := hKK.1
  have hown : s.vm.findClass RX8 = some m.cls := hown
  have ctx : CallFix p m c cX8_tellsDoor 3 s args wsX8_tellsDoor RX8 := ⟨hx, hb, hml, hown, hts⟩
  have hl : lv_has ls 3 [(0, .ref o), (1, .int hv), (2, .int cv)] := hl
  obtain ⟨H, hHe⟩ : ∃ H, H = s.heap := ⟨_, rfl⟩
  obtain ⟨locs, hLe⟩ : ∃ L : List Loc, L = [] := ⟨_, rfl⟩
  have hP : va_P g.1 vwCl (mW g o a sc ar) H := by rw [hHe]; exact hP
  have hS : va_S A s.heap H locs := by rw [hHe, hLe]; exact hS
  suffices hgo : W p l e ({ frames := 0, cells := 0, slots := 0, locals := 0 } : Room) s m args below meth c H locs 0 0 Q (F0 m 0 ls []) by rw [hHe, hLe] at hgo; exact hgo
  clear hHe hLe
  refine lv_aload_n hx hb dX8_tellsDoor_0 rfl (lv_at hl 0 rfl) ?_
  refine va_get (D := g.1) (cl := vwCl) (ci := 8) (v := .ref (a 23)) (C := RX8) (T := TX8) (N := 29) hx hb hts hX8_tellsDoor_X8 hown hK hP 0 rfl rfl 23 (by decide) (hts _ kX8_tellsDoor_f40) (fun _ h9 => h9) rfl dX8_tellsDoor_1 ?_
  refine lv_aload_n hx hb dX8_tellsDoor_4 rfl (lv_at hl 0 rfl) ?_
  refine va_get (D := g.1) (cl := vwCl) (ci := 8) (v := .int (nI (sc 22))) (C := RX8) (T := TX8) (N := 29) hx hb hts hX8_tellsDoor_X8 hown hK hP 0 rfl rfl 22 (by decide) (hts _ kX8_tellsDoor_f79) (fun _ h9 => h9) rfl dX8_tellsDoor_5 ?_
  refine lv_iload_n hx hb dX8_tellsDoor_8 rfl (lv_at hl 1 rfl) ?_
  refine ast_i (D := g.1) (cl := vwCl) (f := ar 23) (i := sc 22) (n := 5) (x := hv) hx hb hK hP hD hS 11 0 rfl rfl (by omega) (by decide) dX8_tellsDoor_9 (fun H locs hP hD hS => ?_)
  have hP : va_P g.1 vwCl (mW g o a sc (upA ar 23 (upd (ar 23) (sc 22) hv))) H := hP
  have hD : va_D A (mW g o a sc (upA ar 23 (upd (ar 23) (sc 22) hv))) := hD
  refine lv_aload_n hx hb dX8_tellsDoor_10 rfl (lv_at hl 0 rfl) ?_
  refine va_get (D := g.1) (cl := vwCl) (ci := 8) (v := .ref (a 27)) (C := RX8) (T := TX8) (N := 29) hx hb hts hX8_tellsDoor_X8 hown hK hP 0 rfl rfl 27 (by decide) (hts _ kX8_tellsDoor_f46) (fun _ h9 => h9) rfl dX8_tellsDoor_11 ?_
  refine lv_bipush (v := nI 65) hx hb dX8_tellsDoor_14 (by decide) ?_
  refine lv_aload_n hx hb dX8_tellsDoor_16 rfl (lv_at hl 0 rfl) ?_
  refine va_get (D := g.1) (cl := vwCl) (ci := 8) (v := .int (nI (sc 22))) (C := RX8) (T := TX8) (N := 29) hx hb hts hX8_tellsDoor_X8 hown hK hP 0 rfl rfl 22 (by decide) (hts _ kX8_tellsDoor_f79) (fun _ h9 => h9) rfl dX8_tellsDoor_17 ?_
  refine lv_iadd hx hb dX8_tellsDoor_20 ?_
  refine lv_is (nI_add 65 (sc 22)) ?_
  refine lv_iload_n hx hb dX8_tellsDoor_21 rfl (lv_at hl 2 rfl) ?_
  refine ast_i (D := g.1) (cl := vwCl) (f := ar 27) (i := 65 + (sc 22)) (n := 115) (x := cv) hx hb hK hP hD hS 13 0 rfl rfl (by omega) (by decide) dX8_tellsDoor_22 (fun H locs hP hD hS => ?_)
  have hP : va_P g.1 vwCl (mW g o a sc (upA (upA ar 23 (upd (ar 23) (sc 22) hv)) 27 (upd (ar 27) (65 + (sc 22)) cv))) H := hP
  have hD : va_D A (mW g o a sc (upA (upA ar 23 (upd (ar 23) (sc 22) hv)) 27 (upd (ar 27) (65 + (sc 22)) cv))) := hD
  refine lv_aload_n hx hb dX8_tellsDoor_23 rfl (lv_at hl 0 rfl) ?_
  refine lv_dup hx hb dX8_tellsDoor_24 rfl ?_
  refine va_get (D := g.1) (cl := vwCl) (ci := 8) (v := .int (nI (sc 22))) (C := RX8) (T := TX8) (N := 29) hx hb hts hX8_tellsDoor_X8 hown hK hP 0 rfl rfl 22 (by decide) (hts _ kX8_tellsDoor_f79) (fun _ h9 => h9) rfl dX8_tellsDoor_25 ?_
  refine lv_iconst (v := nI 1) hx hb dX8_tellsDoor_28 (by decide) ?_
  refine lv_iadd hx hb dX8_tellsDoor_29 ?_
  refine lv_is (nI_add (sc 22) 1) ?_
  refine va_put (D := g.1) (cl := vwCl) (ci := 8) (v := .int (nI ((sc 22) + 1))) (ty := .int) (C := RX8) (T := TX8) (N := 29) hx hb hts hX8_tellsDoor_X8 tyX8 tyX8_ok nmX8 hown hK hP hD hS 0 rfl rfl 22 (by decide) (hts _ kX8_tellsDoor_f79) (fun _ h9 => h9) rfl (by decide +kernel) (rfl) (rfl) (Nat.le_of_ble_eq_true rfl) dX8_tellsDoor_30 (fun H locs hP hD hS => ?_)
  have hP : va_P g.1 vwCl (mW g o a (updN sc 22 ((sc 22) + 1)) (upA (upA ar 23 (upd (ar 23) (sc 22) hv)) 27 (upd (ar 27) (65 + (sc 22)) cv))) H := hP
  have hD : va_D A (mW g o a (updN sc 22 ((sc 22) + 1)) (upA (upA ar 23 (upd (ar 23) (sc 22) hv)) 27 (upd (ar 27) (65 + (sc 22)) cv))) := hD
  exact hret () H locs 33 ls (trivial) (hP) (hD) hS dX8_tellsDoor_33
theorem kX8_tellsPerson_f76 : (Cond.fieldLink RX8 76 "LastCallersWordModel" "readTold" "I" : Cond) ∈ wsX8_tellsPerson := List.mem_cons_of_mem _ aw_310
theorem hX8_tellsPerson_X8 : ∀ w ∈ wsX80, w ∈ wsX8_tellsPerson := fun w h => List.mem_cons_of_mem _ (ac_X8 w h)
theorem kX8_tellsPerson_f37 : (Cond.fieldLink RX8 37 "LastCallersWordModel" "readKinds" "[I" : Cond) ∈ wsX8_tellsPerson := List.mem_cons_of_mem _ aw_297
theorem kX8_tellsPerson_f46 : (Cond.fieldLink RX8 46 "LastCallersWordModel" "read" "[I" : Cond) ∈ wsX8_tellsPerson := List.mem_cons_of_mem _ aw_300
set_option maxHeartbeats 400000 in
set_option maxRecDepth 100000 in
theorem c_X8_tellsPerson (l : Launch) (g : GG) (o : Nat) (a : Nat → Nat) (sc : Nat → Nat) (ar : Nat → Nat → Int32) (k_ : Int32) (va : Int32) (vb : Int32) (vc : Int32) (vd : Int32) (ve : Int32) (hr : sc 20 < 8) : Met l yX8_tellsPerson wsX8_tellsPerson ({ frames := 0, cells := 0, slots := 0, locals := 0 } : Room) (wr g [.ref o, .int k_, .int va, .int vb, .int vc, .int vd, .int ve] (mW g o a sc ar)) (wQv g (mW g o a sc ar) (fun u : Unit => (mW g o a (updN sc 20 (sc 20 + 1)) (upA (upA ar 21 (upd (ar 21) (sc 20) k_)) 27 (upd (upd (upd (upd (upd (ar 27) (1 + (8 * sc 20)) va) ((1 + (8 * sc 20)) + 1) vb) ((1 + (8 * sc 20)) + 2) vc) ((1 + (8 * sc 20)) + 3) vd) ((1 + (8 * sc 20)) + 4) ve)))) (fun u => True)) 0 0 (cA (mW g o a sc ar)) := by
  refine wr_startv (cc := cX8_tellsPerson) (maxL := 8) (by decide) rfl (Nat.le_of_ble_eq_true rfl) (fun p e s m args below meth c Q A C hP hD hS hret ls hl => ?_)
  obtain ⟨hx, hb, hml, hr, hown, hts, hlk, hKK⟩ := id C
  have hK := hKK.1
  have hown : s.vm.findClass RX8 = some m.cls := hown
  have ctx : CallFix p m c cX8_tellsPerson 8 s args wsX8_tellsPerson RX8 := ⟨hx, hb, hml, hown, hts⟩
  have hl : lv_has ls 8 [(0, .ref o), (1, .int k_), (2, .int va), (3, .int vb), (4, .int vc), (5, .int vd), (6, .int ve)] := hl
  obtain ⟨H, hHe⟩ : ∃ H, H = s.heap := ⟨_, rfl⟩
  obtain ⟨locs, hLe⟩ : ∃ L : List Loc, L = [] := ⟨_, rfl⟩
  have hP : va_P g.1 vwCl (mW g o a sc ar) H := by rw [hHe]; exact hP
  have hS : va_S A s.heap H locs := by rw [hHe, hLe]; exact hS
  suffices hgo : W p l e ({ frames := 0, cells := 0, slots := 0, locals := 0 } : Room) s m args below meth c H locs 0 0 Q (F0 m 0 ls []) by rw [hHe, hLe] at hgo; exact hgo
  clear hHe hLe
  refine lv_iconst (v := nI 1) hx hb dX8_tellsPerson_0 (by decide) ?_
  refine lv_bipush (v := nI 8) hx hb dX8_tellsPerson_1 (by decide) ?_
  refine lv_aload_n hx hb dX8_tellsPerson_3 rfl (lv_at hl 0 rfl) ?_
  refine va_get (D := g.1) (cl := vwCl) (ci := 8) (v := .int (nI (sc 20))) (C := RX8) (T := TX8) (N := 29) hx hb hts hX8_tellsPerson_X8 hown hK hP 0 rfl rfl 20 (by decide) (hts _ kX8_tellsPerson_f76) (fun _ h9 => h9) rfl dX8_tellsPerson_4 ?_
  refine lv_imul hx hb dX8_tellsPerson_7 ?_
  refine lv_is (pk_mul 8 (sc 20)) ?_
  refine lv_iadd hx hb dX8_tellsPerson_8 ?_
  refine lv_is (nI_add 1 (8 * (sc 20))) ?_
  refine lv_istore (lv' := [(7, .int (nI (1 + (8 * (sc 20))))), (0, .ref o), (1, .int k_), (2, .int va), (3, .int vb), (4, .int vc), (5, .int vd), (6, .int ve)]) hx hb dX8_tellsPerson_9 hl (by decide) rfl (fun ls hl => ?_)
  refine lv_aload_n hx hb dX8_tellsPerson_11 rfl (lv_at hl 1 rfl) ?_
  refine va_get (D := g.1) (cl := vwCl) (ci := 8) (v := .ref (a 21)) (C := RX8) (T := TX8) (N := 29) hx hb hts hX8_tellsPerson_X8 hown hK hP 0 rfl rfl 21 (by decide) (hts _ kX8_tellsPerson_f37) (fun _ h9 => h9) rfl dX8_tellsPerson_12 ?_
  refine lv_aload_n hx hb dX8_tellsPerson_15 rfl (lv_at hl 1 rfl) ?_
  refine va_get (D := g.1) (cl := vwCl) (ci := 8) (v := .int (nI (sc 20))) (C := RX8) (T := TX8) (N := 29) hx hb hts hX8_tellsPerson_X8 hown hK hP 0 rfl rfl 20 (by decide) (hts _ kX8_tellsPerson_f76) (fun _ h9 => h9) rfl dX8_tellsPerson_16 ?_
  refine lv_iload_n hx hb dX8_tellsPerson_19 rfl (lv_at hl 2 rfl) ?_
  refine ast_i (D := g.1) (cl := vwCl) (f := ar 21) (i := sc 20) (n := 8) (x := k_) hx hb hK hP hD hS 10 0 rfl rfl (by omega) (by decide) dX8_tellsPerson_20 (fun H locs hP hD hS => ?_)
  have hP : va_P g.1 vwCl (mW g o a sc (upA ar 21 (upd (ar 21) (sc 20) k_))) H := hP
  have hD : va_D A (mW g o a sc (upA ar 21 (upd (ar 21) (sc 20) k_))) := hD
  refine lv_aload_n hx hb dX8_tellsPerson_21 rfl (lv_at hl 1 rfl) ?_
  refine va_get (D := g.1) (cl := vwCl) (ci := 8) (v := .ref (a 27)) (C := RX8) (T := TX8) (N := 29) hx hb hts hX8_tellsPerson_X8 hown hK hP 0 rfl rfl 27 (by decide) (hts _ kX8_tellsPerson_f46) (fun _ h9 => h9) rfl dX8_tellsPerson_22 ?_
  refine lv_iload hx hb dX8_tellsPerson_25 (lv_at hl 0 rfl) ?_
  refine lv_iload_n hx hb dX8_tellsPerson_27 rfl (lv_at hl 3 rfl) ?_
  refine ast_i (D := g.1) (cl := vwCl) (f := ar 27) (i := 1 + (8 * (sc 20))) (n := 115) (x := va) hx hb hK hP hD hS 13 0 rfl rfl (by omega) (by decide) dX8_tellsPerson_28 (fun H locs hP hD hS => ?_)
  have hP : va_P g.1 vwCl (mW g o a sc (upA (upA ar 21 (upd (ar 21) (sc 20) k_)) 27 (upd (ar 27) (1 + (8 * (sc 20))) va))) H := hP
  have hD : va_D A (mW g o a sc (upA (upA ar 21 (upd (ar 21) (sc 20) k_)) 27 (upd (ar 27) (1 + (8 * (sc 20))) va))) := hD
  refine lv_aload_n hx hb dX8_tellsPerson_29 rfl (lv_at hl 1 rfl) ?_
  refine va_get (D := g.1) (cl := vwCl) (ci := 8) (v := .ref (a 27)) (C := RX8) (T := TX8) (N := 29) hx hb hts hX8_tellsPerson_X8 hown hK hP 0 rfl rfl 27 (by decide) (hts _ kX8_tellsPerson_f46) (fun _ h9 => h9) rfl dX8_tellsPerson_30 ?_
  refine lv_iload hx hb dX8_tellsPerson_33 (lv_at hl 0 rfl) ?_
  refine lv_iconst (v := nI 1) hx hb dX8_tellsPerson_35 (by decide) ?_
  refine lv_iadd hx hb dX8_tellsPerson_36 ?_
  refine lv_is (nI_add (1 + (8 * (sc 20))) 1) ?_
  refine lv_iload_n hx hb dX8_tellsPerson_37 rfl (lv_at hl 4 rfl) ?_
  refine ast_i (D := g.1) (cl := vwCl) (f := upd (ar 27) (1 + (8 * (sc 20))) va) (i := (1 + (8 * (sc 20))) + 1) (n := 115) (x := vb) hx hb hK hP hD hS 13 0 rfl rfl (by omega) (by decide) dX8_tellsPerson_38 (fun H locs hP hD hS => ?_)
  have hP : va_P g.1 vwCl (mW g o a sc (upA (upA ar 21 (upd (ar 21) (sc 20) k_)) 27 (upd (upd (ar 27) (1 + (8 * (sc 20))) va) ((1 + (8 * (sc 20))) + 1) vb))) H := hP
  have hD : va_D A (mW g o a sc (upA (upA ar 21 (upd (ar 21) (sc 20) k_)) 27 (upd (upd (ar 27) (1 + (8 * (sc 20))) va) ((1 + (8 * (sc 20))) + 1) vb))) := hD
  refine lv_aload_n hx hb dX8_tellsPerson_39 rfl (lv_at hl 1 rfl) ?_
  refine va_get (D := g.1) (cl := vwCl) (ci := 8) (v := .ref (a 27)) (C := RX8) (T := TX8) (N := 29) hx hb hts hX8_tellsPerson_X8 hown hK hP 0 rfl rfl 27 (by decide) (hts _ kX8_tellsPerson_f46) (fun _ h9 => h9) rfl dX8_tellsPerson_40 ?_
  refine lv_iload hx hb dX8_tellsPerson_43 (lv_at hl 0 rfl) ?_
  refine lv_iconst (v := nI 2) hx hb dX8_tellsPerson_45 (by decide) ?_
  refine lv_iadd hx hb dX8_tellsPerson_46 ?_
  refine lv_is (nI_add (1 + (8 * (sc 20))) 2) ?_
  refine lv_iload hx hb dX8_tellsPerson_47 (lv_at hl 5 rfl) ?_
  refine ast_i (D := g.1) (cl := vwCl) (f := upd (upd (ar 27) (1 + (8 * (sc 20))) va) ((1 + (8 * (sc 20))) + 1) vb) (i := (1 + (8 * (sc 20))) + 2) (n := 115) (x := vc) hx hb hK hP hD hS 13 0 rfl rfl (by omega) (by decide) dX8_tellsPerson_49 (fun H locs hP hD hS => ?_)
  have hP : va_P g.1 vwCl (mW g o a sc (upA (upA ar 21 (upd (ar 21) (sc 20) k_)) 27 (upd (upd (upd (ar 27) (1 + (8 * (sc 20))) va) ((1 + (8 * (sc 20))) + 1) vb) ((1 + (8 * (sc 20))) + 2) vc))) H := hP
  have hD : va_D A (mW g o a sc (upA (upA ar 21 (upd (ar 21) (sc 20) k_)) 27 (upd (upd (upd (ar 27) (1 + (8 * (sc 20))) va) ((1 + (8 * (sc 20))) + 1) vb) ((1 + (8 * (sc 20))) + 2) vc))) := hD
  refine lv_aload_n hx hb dX8_tellsPerson_50 rfl (lv_at hl 1 rfl) ?_
  refine va_get (D := g.1) (cl := vwCl) (ci := 8) (v := .ref (a 27)) (C := RX8) (T := TX8) (N := 29) hx hb hts hX8_tellsPerson_X8 hown hK hP 0 rfl rfl 27 (by decide) (hts _ kX8_tellsPerson_f46) (fun _ h9 => h9) rfl dX8_tellsPerson_51 ?_
  refine lv_iload hx hb dX8_tellsPerson_54 (lv_at hl 0 rfl) ?_
  refine lv_iconst (v := nI 3) hx hb dX8_tellsPerson_56 (by decide) ?_
  refine lv_iadd hx hb dX8_tellsPerson_57 ?_
  refine lv_is (nI_add (1 + (8 * (sc 20))) 3) ?_
  refine lv_iload hx hb dX8_tellsPerson_58 (lv_at hl 6 rfl) ?_
  refine ast_i (D := g.1) (cl := vwCl) (f := upd (upd (upd (ar 27) (1 + (8 * (sc 20))) va) ((1 + (8 * (sc 20))) + 1) vb) ((1 + (8 * (sc 20))) + 2) vc) (i := (1 + (8 * (sc 20))) + 3) (n := 115) (x := vd) hx hb hK hP hD hS 13 0 rfl rfl (by omega) (by decide) dX8_tellsPerson_60 (fun H locs hP hD hS => ?_)
  have hP : va_P g.1 vwCl (mW g o a sc (upA (upA ar 21 (upd (ar 21) (sc 20) k_)) 27 (upd (upd (upd (upd (ar 27) (1 + (8 * (sc 20))) va) ((1 + (8 * (sc 20))) + 1) vb) ((1 + (8 * (sc 20))) + 2) vc) ((1 + (8 * (sc 20))) + 3) vd))) H := hP
  have hD : va_D A (mW g o a sc (upA (upA ar 21 (upd (ar 21) (sc 20) k_)) 27 (upd (upd (upd (upd (ar 27) (1 + (8 * (sc 20))) va) ((1 + (8 * (sc 20))) + 1) vb) ((1 + (8 * (sc 20))) + 2) vc) ((1 + (8 * (sc 20))) + 3) vd))) := hD
  refine lv_aload_n hx hb dX8_tellsPerson_61 rfl (lv_at hl 1 rfl) ?_
  refine va_get (D := g.1) (cl := vwCl) (ci := 8) (v := .ref (a 27)) (C := RX8) (T := TX8) (N := 29) hx hb hts hX8_tellsPerson_X8 hown hK hP 0 rfl rfl 27 (by decide) (hts _ kX8_tellsPerson_f46) (fun _ h9 => h9) rfl dX8_tellsPerson_62 ?_
  refine lv_iload hx hb dX8_tellsPerson_65 (lv_at hl 0 rfl) ?_
  refine lv_iconst (v := nI 4) hx hb dX8_tellsPerson_67 (by decide) ?_
  refine lv_iadd hx hb dX8_tellsPerson_68 ?_
  refine lv_is (nI_add (1 + (8 * (sc 20))) 4) ?_
  refine lv_iload hx hb dX8_tellsPerson_69 (lv_at hl 7 rfl) ?_
  refine ast_i (D := g.1) (cl := vwCl) (f := upd (upd (upd (upd (ar 27) (1 + (8 * (sc 20))) va) ((1 + (8 * (sc 20))) + 1) vb) ((1 + (8 * (sc 20))) + 2) vc) ((1 + (8 * (sc 20))) + 3) vd) (i := (1 + (8 * (sc 20))) + 4) (n := 115) (x := ve) hx hb hK hP hD hS 13 0 rfl rfl (by omega) (by decide) dX8_tellsPerson_71 (fun H locs hP hD hS => ?_)
  have hP : va_P g.1 vwCl (mW g o a sc (upA (upA ar 21 (upd (ar 21) (sc 20) k_)) 27 (upd (upd (upd (upd (upd (ar 27) (1 + (8 * (sc 20))) va) ((1 + (8 * (sc 20))) + 1) vb) ((1 + (8 * (sc 20))) + 2) vc) ((1 + (8 * (sc 20))) + 3) vd) ((1 + (8 * (sc 20))) + 4) ve))) H := hP
  have hD : va_D A (mW g o a sc (upA (upA ar 21 (upd (ar 21) (sc 20) k_)) 27 (upd (upd (upd (upd (upd (ar 27) (1 + (8 * (sc 20))) va) ((1 + (8 * (sc 20))) + 1) vb) ((1 + (8 * (sc 20))) + 2) vc) ((1 + (8 * (sc 20))) + 3) vd) ((1 + (8 * (sc 20))) + 4) ve))) := hD
  refine lv_aload_n hx hb dX8_tellsPerson_72 rfl (lv_at hl 1 rfl) ?_
  refine lv_dup hx hb dX8_tellsPerson_73 rfl ?_
  refine va_get (D := g.1) (cl := vwCl) (ci := 8) (v := .int (nI (sc 20))) (C := RX8) (T := TX8) (N := 29) hx hb hts hX8_tellsPerson_X8 hown hK hP 0 rfl rfl 20 (by decide) (hts _ kX8_tellsPerson_f76) (fun _ h9 => h9) rfl dX8_tellsPerson_74 ?_
  refine lv_iconst (v := nI 1) hx hb dX8_tellsPerson_77 (by decide) ?_
  refine lv_iadd hx hb dX8_tellsPerson_78 ?_
  refine lv_is (nI_add (sc 20) 1) ?_
  refine va_put (D := g.1) (cl := vwCl) (ci := 8) (v := .int (nI ((sc 20) + 1))) (ty := .int) (C := RX8) (T := TX8) (N := 29) hx hb hts hX8_tellsPerson_X8 tyX8 tyX8_ok nmX8 hown hK hP hD hS 0 rfl rfl 20 (by decide) (hts _ kX8_tellsPerson_f76) (fun _ h9 => h9) rfl (by decide +kernel) (rfl) (rfl) (Nat.le_of_ble_eq_true rfl) dX8_tellsPerson_79 (fun H locs hP hD hS => ?_)
  have hP : va_P g.1 vwCl (mW g o a (updN sc 20 ((sc 20) + 1)) (upA (upA ar 21 (upd (ar 21) (sc 20) k_)) 27 (upd (upd (upd (upd (upd (ar 27) (1 + (8 * (sc 20))) va) ((1 + (8 * (sc 20))) + 1) vb) ((1 + (8 * (sc 20))) + 2) vc) ((1 + (8 * (sc 20))) + 3) vd) ((1 + (8 * (sc 20))) + 4) ve))) H := hP
  have hD : va_D A (mW g o a (updN sc 20 ((sc 20) + 1)) (upA (upA ar 21 (upd (ar 21) (sc 20) k_)) 27 (upd (upd (upd (upd (upd (ar 27) (1 + (8 * (sc 20))) va) ((1 + (8 * (sc 20))) + 1) vb) ((1 + (8 * (sc 20))) + 2) vc) ((1 + (8 * (sc 20))) + 3) vd) ((1 + (8 * (sc 20))) + 4) ve))) := hD
  exact hret () H locs 82 ls (trivial) (hP) (hD) hS dX8_tellsPerson_82
theorem kX8_readPersonsOf_f106 : (Cond.fieldLink RX8 106 "LastCallersWordModel" "isBegun" "Z" : Cond) ∈ wsX8_readPersonsOf := List.mem_cons_of_mem _ aw_309
theorem hX8_readPersonsOf_X8 : ∀ w ∈ wsX80, w ∈ wsX8_readPersonsOf := fun w h => List.mem_cons_of_mem _ (ac_X8 w h)
theorem kX8_readPersonsOf_f55 : (Cond.fieldLink RX8 55 "LastCallersWordModel" "readPersons" "I" : Cond) ∈ wsX8_readPersonsOf := List.mem_cons_of_mem _ aw_302
theorem kX8_readPersonsOf_f34 : (Cond.fieldLink RX8 34 "LastCallersWordModel" "told" "[I" : Cond) ∈ wsX8_readPersonsOf := List.mem_cons_of_mem _ aw_296
set_option maxHeartbeats 400000 in
set_option maxRecDepth 100000 in
theorem c_X8_readPersonsOf (l : Launch) (g : GG) (o : Nat) (a : Nat → Nat) (sc : Nat → Nat) (ar : Nat → Nat → Int32) (hT : sc 15 ≤ 200) (hat : sc 16 ≤ sc 15) (hbg : sc 18 ≤ 1) : Met l yX8_readPersonsOf wsX8_readPersonsOf ({ frames := 3, cells := 0, slots := 0, locals := 64 } : Room) (wr g [.ref o] (mW g o a sc ar)) (wQi g (mW g o a sc ar) (fun u : Bool × Nat × (Nat → Int32) × Nat => (mW g o a (updN (updN sc 16 u.2.1) 19 u.2.2.2) (upA ar 17 u.2.2.1))) (fun rr u => rr = bI u.1 ∧ (u.1 = true → mRn (ar 14) (sc 15) (sc 16) (sc 18) = some (u.2.1, nI u.2.2.2) ∧ 2 ≤ u.2.2.2 ∧ u.2.2.2 ≤ 8) ∧ (u.1 = false → mRn (ar 14) (sc 15) (sc 16) (sc 18) = none ∧ u.2.2.2 = sc 19) ∧ u.2.1 ≤ sc 15)) 0 0 (cA (mW g o a sc ar)) := by
  refine wr_starti (cc := cX8_readPersonsOf) (maxL := 2) (ty := .boolean) (by decide) rfl (Nat.le_of_ble_eq_true rfl) (fun p e s m args below meth c Q A C hP hD hS hret ls hl => ?_)
  obtain ⟨hx, hb, hml, hr, hown, hts, hlk, hKK⟩ := id C
  have hK := hKK.1
  have hown : s.vm.findClass RX8 = some m.cls := hown
  have ctx : CallFix p m c cX8_readPersonsOf 2 s args wsX8_readPersonsOf RX8 := ⟨hx, hb, hml, hown, hts⟩
  have hl : lv_has ls 2 [(0, .ref o)] := hl
  obtain ⟨H, hHe⟩ : ∃ H, H = s.heap := ⟨_, rfl⟩
  obtain ⟨locs, hLe⟩ : ∃ L : List Loc, L = [] := ⟨_, rfl⟩
  have hP : va_P g.1 vwCl (mW g o a sc ar) H := by rw [hHe]; exact hP
  have hS : va_S A s.heap H locs := by rw [hHe, hLe]; exact hS
  suffices hgo : W p l e ({ frames := 3, cells := 0, slots := 0, locals := 64 } : Room) s m args below meth c H locs 0 0 Q (F0 m 0 ls []) by rw [hHe, hLe] at hgo; exact hgo
  clear hHe hLe
  refine lv_aload_n hx hb dX8_readPersonsOf_0 rfl (lv_at hl 0 rfl) ?_
  refine va_get (D := g.1) (cl := vwCl) (ci := 8) (v := .int (nI (sc 18))) (C := RX8) (T := TX8) (N := 29) hx hb hts hX8_readPersonsOf_X8 hown hK hP 0 rfl rfl 18 (by decide) (hts _ kX8_readPersonsOf_f106) (fun _ h9 => h9) rfl dX8_readPersonsOf_1 ?_
  refine lv_if_ne (tgt := 30) hx hb dX8_readPersonsOf_4 (by decide) (fun c_1 => ?_) (fun c_1 => ?_)
  · replace c_1 : ¬ (sc 18) = 0 := fun h => c_1 ((nI_eq (a := sc 18) (b := 0) (by omega) (by omega)).mpr h)
    refine lv_iconst (v := nI 0) hx hb dX8_readPersonsOf_30 (by decide) ?_
    refine lv_istore_n (lv' := [(1, .int (nI 0)), (0, .ref o)]) hx hb dX8_readPersonsOf_31 rfl hl (by decide) rfl (fun ls hl => ?_)
    refine lv_aload_n hx hb dX8_readPersonsOf_32 rfl (lv_at hl 1 rfl) ?_
    refine lv_iload_n hx hb dX8_readPersonsOf_33 rfl (lv_at hl 0 rfl) ?_
    refine lv_if_eq (tgt := 46) hx hb dX8_readPersonsOf_34 (by decide) (fun c_2 => ?_) (fun c_2 => absurd c_2 (by decide))
    refine lv_aload_n hx hb dX8_readPersonsOf_46 rfl (lv_at hl 1 rfl) ?_
    refine va_get (D := g.1) (cl := vwCl) (ci := 8) (v := .int (nI (sc 19))) (C := RX8) (T := TX8) (N := 29) hx hb hts hX8_readPersonsOf_X8 hown hK hP 0 rfl rfl 19 (by decide) (hts _ kX8_readPersonsOf_f55) (fun _ h9 => h9) rfl dX8_readPersonsOf_47 ?_
    refine va_put (D := g.1) (cl := vwCl) (ci := 8) (v := .int (nI (sc 19))) (ty := .int) (C := RX8) (T := TX8) (N := 29) hx hb hts hX8_readPersonsOf_X8 tyX8 tyX8_ok nmX8 hown hK hP hD hS 0 rfl rfl 19 (by decide) (hts _ kX8_readPersonsOf_f55) (fun _ h9 => h9) rfl (by decide +kernel) (rfl) (rfl) (Nat.le_of_ble_eq_true rfl) dX8_readPersonsOf_50 (fun H locs hP hD hS => ?_)
    have hP : va_P g.1 vwCl (mW g o a (updN sc 19 (sc 19)) ar) H := hP
    have hD : va_D A (mW g o a (updN sc 19 (sc 19)) ar) := hD
    refine lv_iload_n hx hb dX8_readPersonsOf_53 rfl (lv_at hl 0 rfl) ?_
    exact hret (nI 0) (false, sc 16, ar 17, sc 19) H locs 54 ls (⟨rfl, fun h => ft h, fun _ => ⟨by rw [mRn, if_neg (by assumption)], rfl⟩, hat⟩) (hP) (hD) hS (rfl) dX8_readPersonsOf_54
  · replace c_1 : (sc 18) = 0 := (nI_eq (a := sc 18) (b := 0) (by omega) (by omega)).mp c_1
    refine lv_aload_n hx hb dX8_readPersonsOf_7 rfl (lv_at hl 0 rfl) ?_
    refine lv_iconst (v := nI 1) hx hb dX8_readPersonsOf_8 (by decide) ?_
    refine wr_callVi0 (As := [.int (nI 1)]) (rest := []) (b := o) ctx hKK hP hD hS (c_X8_readNumbers1 l g o a sc ar (show (sc 15) ≤ 200 from by omega) (show (sc 16) ≤ (sc 15) from by omega)) gX8_readPersonsOf_X8_readNumbers rfl rfl rfl hdX8_readNumbers ⟨Nat.le_of_ble_eq_true rfl, Nat.le_of_ble_eq_true rfl⟩ (ci := 8) (q0 := 0) rfl rfl hl.1 rfl rfl (Nat.le_of_ble_eq_true rfl) dX8_readPersonsOf_9 (fun r_3 u_4 H locs hr_3 hP hD hS => ?_)
    have hP : va_P g.1 vwCl (mW g o a (updN sc 16 u_4.2.1) (upA ar 17 u_4.2.2)) H := hP
    have hD : va_D A (mW g o a (updN sc 16 u_4.2.1) (upA ar 17 u_4.2.2)) := hD
    have hr_3 : r_3 = bI u_4.1 ∧ (u_4.1 = true → mN1 (ar 14) (sc 15) (sc 16) = some (u_4.2.1, u_4.2.2 0)) ∧ (u_4.1 = false → mN1 (ar 14) (sc 15) (sc 16) = none) ∧ u_4.2.1 ≤ (sc 15) := hr_3
    obtain ⟨rfl, ht_3, hf_3, hb_3⟩ := hr_3
    refine lv_if_eq (tgt := 30) hx hb dX8_readPersonsOf_12 (by decide) (fun c_5 => ?_) (fun c_5 => ?_)
    · replace c_5 := bI_f c_5
      refine lv_iconst (v := nI 0) hx hb dX8_readPersonsOf_30 (by decide) ?_
      refine lv_istore_n (lv' := [(1, .int (nI 0)), (0, .ref o)]) hx hb dX8_readPersonsOf_31 rfl hl (by decide) rfl (fun ls hl => ?_)
      refine lv_aload_n hx hb dX8_readPersonsOf_32 rfl (lv_at hl 1 rfl) ?_
      refine lv_iload_n hx hb dX8_readPersonsOf_33 rfl (lv_at hl 0 rfl) ?_
      refine lv_if_eq (tgt := 46) hx hb dX8_readPersonsOf_34 (by decide) (fun c_6 => ?_) (fun c_6 => absurd c_6 (by decide))
      refine lv_aload_n hx hb dX8_readPersonsOf_46 rfl (lv_at hl 1 rfl) ?_
      refine va_get (D := g.1) (cl := vwCl) (ci := 8) (v := .int (nI (sc 19))) (C := RX8) (T := TX8) (N := 29) hx hb hts hX8_readPersonsOf_X8 hown hK hP 0 rfl rfl 19 (by decide) (hts _ kX8_readPersonsOf_f55) (fun _ h9 => h9) rfl dX8_readPersonsOf_47 ?_
      refine va_put (D := g.1) (cl := vwCl) (ci := 8) (v := .int (nI (sc 19))) (ty := .int) (C := RX8) (T := TX8) (N := 29) hx hb hts hX8_readPersonsOf_X8 tyX8 tyX8_ok nmX8 hown hK hP hD hS 0 rfl rfl 19 (by decide) (hts _ kX8_readPersonsOf_f55) (fun _ h9 => h9) rfl (by decide +kernel) (rfl) (rfl) (Nat.le_of_ble_eq_true rfl) dX8_readPersonsOf_50 (fun H locs hP hD hS => ?_)
      have hP : va_P g.1 vwCl (mW g o a (updN (updN sc 16 u_4.2.1) 19 (sc 19)) (upA ar 17 u_4.2.2)) H := hP
      have hD : va_D A (mW g o a (updN (updN sc 16 u_4.2.1) 19 (sc 19)) (upA ar 17 u_4.2.2)) := hD
      refine lv_iload_n hx hb dX8_readPersonsOf_53 rfl (lv_at hl 0 rfl) ?_
      exact hret (nI 0) (false, u_4.2.1, u_4.2.2, sc 19) H locs 54 ls (⟨rfl, fun h => ft h, fun _ => ⟨by rw [mRn, if_pos (by assumption), hf_3 (by assumption)], rfl⟩, hb_3⟩) (hP) (hD) hS (rfl) dX8_readPersonsOf_54
    · replace c_5 := bI_t c_5
      refine lv_aload_n hx hb dX8_readPersonsOf_15 rfl (lv_at hl 0 rfl) ?_
      refine lv_iconst (v := nI 0) hx hb dX8_readPersonsOf_16 (by decide) ?_
      refine lv_iconst (v := nI 2) hx hb dX8_readPersonsOf_17 (by decide) ?_
      refine lv_bipush (v := nI 8) hx hb dX8_readPersonsOf_18 (by decide) ?_
      refine ro_callV0 (As := [.int (nI 0), .int (nI 2), .int (nI 8)]) (rest := []) (b := o) ctx hKK hP (c_X8_isTold l g o a (updN sc 16 u_4.2.1) (upA ar 17 u_4.2.2) 0 (nI 2) (nI 8) (show 0 < 2 from by omega)) gX8_readPersonsOf_X8_isTold rfl rfl rfl hdX8_isTold ⟨Nat.le_of_ble_eq_true rfl, Nat.le_of_ble_eq_true rfl⟩ (ci := 8) (q0 := 0) rfl rfl hl.1 rfl rfl (Nat.le_of_ble_eq_true rfl) dX8_readPersonsOf_20 (fun r_7 hr_7 => ?_)
      have hr_7 : r_7 = bI (inB (u_4.2.2 0) (nI 2) (nI 8)) := hr_7
      subst hr_7
      refine lv_if_eq (tgt := 30) hx hb dX8_readPersonsOf_23 (by decide) (fun c_8 => ?_) (fun c_8 => ?_)
      · replace c_8 := bI_f c_8
        refine lv_iconst (v := nI 0) hx hb dX8_readPersonsOf_30 (by decide) ?_
        refine lv_istore_n (lv' := [(1, .int (nI 0)), (0, .ref o)]) hx hb dX8_readPersonsOf_31 rfl hl (by decide) rfl (fun ls hl => ?_)
        refine lv_aload_n hx hb dX8_readPersonsOf_32 rfl (lv_at hl 1 rfl) ?_
        refine lv_iload_n hx hb dX8_readPersonsOf_33 rfl (lv_at hl 0 rfl) ?_
        refine lv_if_eq (tgt := 46) hx hb dX8_readPersonsOf_34 (by decide) (fun c_9 => ?_) (fun c_9 => absurd c_9 (by decide))
        refine lv_aload_n hx hb dX8_readPersonsOf_46 rfl (lv_at hl 1 rfl) ?_
        refine va_get (D := g.1) (cl := vwCl) (ci := 8) (v := .int (nI (sc 19))) (C := RX8) (T := TX8) (N := 29) hx hb hts hX8_readPersonsOf_X8 hown hK hP 0 rfl rfl 19 (by decide) (hts _ kX8_readPersonsOf_f55) (fun _ h9 => h9) rfl dX8_readPersonsOf_47 ?_
        refine va_put (D := g.1) (cl := vwCl) (ci := 8) (v := .int (nI (sc 19))) (ty := .int) (C := RX8) (T := TX8) (N := 29) hx hb hts hX8_readPersonsOf_X8 tyX8 tyX8_ok nmX8 hown hK hP hD hS 0 rfl rfl 19 (by decide) (hts _ kX8_readPersonsOf_f55) (fun _ h9 => h9) rfl (by decide +kernel) (rfl) (rfl) (Nat.le_of_ble_eq_true rfl) dX8_readPersonsOf_50 (fun H locs hP hD hS => ?_)
        have hP : va_P g.1 vwCl (mW g o a (updN (updN sc 16 u_4.2.1) 19 (sc 19)) (upA ar 17 u_4.2.2)) H := hP
        have hD : va_D A (mW g o a (updN (updN sc 16 u_4.2.1) 19 (sc 19)) (upA ar 17 u_4.2.2)) := hD
        refine lv_iload_n hx hb dX8_readPersonsOf_53 rfl (lv_at hl 0 rfl) ?_
        exact hret (nI 0) (false, u_4.2.1, u_4.2.2, sc 19) H locs 54 ls (⟨rfl, fun h => ft h, fun _ => ⟨by rw [mRn, if_pos (by assumption), ht_3 (by assumption)]; simp [c_1, c_5, c_8], rfl⟩, hb_3⟩) (hP) (hD) hS (rfl) dX8_readPersonsOf_54
      · replace c_8 := bI_t c_8
        refine lv_iconst (v := nI 1) hx hb dX8_readPersonsOf_26 (by decide) ?_
        refine lv_goto (tgt := 31) hx hb dX8_readPersonsOf_27 (by decide) ?_
        refine lv_istore_n (lv' := [(1, .int (nI 1)), (0, .ref o)]) hx hb dX8_readPersonsOf_31 rfl hl (by decide) rfl (fun ls hl => ?_)
        refine lv_aload_n hx hb dX8_readPersonsOf_32 rfl (lv_at hl 1 rfl) ?_
        refine lv_iload_n hx hb dX8_readPersonsOf_33 rfl (lv_at hl 0 rfl) ?_
        refine lv_if_eq (tgt := 46) hx hb dX8_readPersonsOf_34 (by decide) (fun c_10 => absurd c_10 (by decide)) (fun c_10 => ?_)
        refine lv_aload_n hx hb dX8_readPersonsOf_37 rfl (lv_at hl 1 rfl) ?_
        refine va_get (D := g.1) (cl := vwCl) (ci := 8) (v := .ref (a 17)) (C := RX8) (T := TX8) (N := 29) hx hb hts hX8_readPersonsOf_X8 hown hK hP 0 rfl rfl 17 (by decide) (hts _ kX8_readPersonsOf_f34) (fun _ h9 => h9) rfl dX8_readPersonsOf_38 ?_
        refine lv_iconst (v := nI 0) hx hb dX8_readPersonsOf_41 (by decide) ?_
        refine ald_i (D := g.1) (cl := vwCl) (f := u_4.2.2) (i := 0) (n := 2) hx hb hK hP 9 0 rfl rfl (by omega) (by decide) dX8_readPersonsOf_42 ?_
        refine lv_goto (tgt := 50) hx hb dX8_readPersonsOf_43 (by decide) ?_
        refine lv_is (nI_cl (inB_pos (k := 2) (by decide) (by assumption))) ?_
        refine va_put (D := g.1) (cl := vwCl) (ci := 8) (v := .int (nI ((u_4.2.2 0).toNatClampNeg))) (ty := .int) (C := RX8) (T := TX8) (N := 29) hx hb hts hX8_readPersonsOf_X8 tyX8 tyX8_ok nmX8 hown hK hP hD hS 0 rfl rfl 19 (by decide) (hts _ kX8_readPersonsOf_f55) (fun _ h9 => h9) rfl (by decide +kernel) (rfl) (rfl) (Nat.le_of_ble_eq_true rfl) dX8_readPersonsOf_50 (fun H locs hP hD hS => ?_)
        have hP : va_P g.1 vwCl (mW g o a (updN (updN sc 16 u_4.2.1) 19 ((u_4.2.2 0).toNatClampNeg)) (upA ar 17 u_4.2.2)) H := hP
        have hD : va_D A (mW g o a (updN (updN sc 16 u_4.2.1) 19 ((u_4.2.2 0).toNatClampNeg)) (upA ar 17 u_4.2.2)) := hD
        refine lv_iload_n hx hb dX8_readPersonsOf_53 rfl (lv_at hl 0 rfl) ?_
        exact hret (nI 1) (true, u_4.2.1, u_4.2.2, (u_4.2.2 0).toNatClampNeg) H locs 54 ls (⟨rfl, fun _ => ⟨by rw [mRn, if_pos (by assumption), ht_3 (by assumption)]; simp only [c_1, c_5, c_8, if_true]; exact congrArg some (Prod.ext rfl (nI_cl (inB_pos (k := 2) (by decide) (by assumption)))), inB_cl (by assumption) (by decide) (by decide)⟩, fun h => tf h, hb_3⟩) (hP) (hD) hS (rfl) dX8_readPersonsOf_54
theorem kX8_readBarsOf_f70 : (Cond.fieldLink RX8 70 "LastCallersWordModel" "readBars" "I" : Cond) ∈ wsX8_readBarsOf := List.mem_cons_of_mem _ aw_304
theorem hX8_readBarsOf_X8 : ∀ w ∈ wsX80, w ∈ wsX8_readBarsOf := fun w h => List.mem_cons_of_mem _ (ac_X8 w h)
theorem kX8_readBarsOf_f34 : (Cond.fieldLink RX8 34 "LastCallersWordModel" "told" "[I" : Cond) ∈ wsX8_readBarsOf := List.mem_cons_of_mem _ aw_296
set_option maxHeartbeats 400000 in
set_option maxRecDepth 100000 in
theorem c_X8_readBarsOf (l : Launch) (g : GG) (o : Nat) (a : Nat → Nat) (sc : Nat → Nat) (ar : Nat → Nat → Int32) (hT : sc 15 ≤ 200) (hat : sc 16 ≤ sc 15) : Met l yX8_readBarsOf wsX8_readBarsOf ({ frames := 3, cells := 0, slots := 0, locals := 64 } : Room) (wr g [.ref o] (mW g o a sc ar)) (wQi g (mW g o a sc ar) (fun u : Bool × Nat × (Nat → Int32) × Nat => (mW g o a (updN (updN sc 16 u.2.1) 26 u.2.2.2) (upA ar 17 u.2.2.1))) (fun rr u => rr = bI u.1 ∧ (u.1 = true → mRb (ar 14) (sc 15) (sc 16) = some (u.2.1, nI u.2.2.2) ∧ 1 ≤ u.2.2.2 ∧ u.2.2.2 ≤ 9) ∧ (u.1 = false → mRb (ar 14) (sc 15) (sc 16) = none ∧ u.2.2.2 = sc 26) ∧ u.2.1 ≤ sc 15)) 0 0 (cA (mW g o a sc ar)) := by
  refine wr_starti (cc := cX8_readBarsOf) (maxL := 2) (ty := .boolean) (by decide) rfl (Nat.le_of_ble_eq_true rfl) (fun p e s m args below meth c Q A C hP hD hS hret ls hl => ?_)
  obtain ⟨hx, hb, hml, hr, hown, hts, hlk, hKK⟩ := id C
  have hK := hKK.1
  have hown : s.vm.findClass RX8 = some m.cls := hown
  have ctx : CallFix p m c cX8_readBarsOf 2 s args wsX8_readBarsOf RX8 := ⟨hx, hb, hml, hown, hts⟩
  have hl : lv_has ls 2 [(0, .ref o)] := hl
  obtain ⟨H, hHe⟩ : ∃ H, H = s.heap := ⟨_, rfl⟩
  obtain ⟨locs, hLe⟩ : ∃ L : List Loc, L = [] := ⟨_, rfl⟩
  have hP : va_P g.1 vwCl (mW g o a sc ar) H := by rw [hHe]; exact hP
  have hS : va_S A s.heap H locs := by rw [hHe, hLe]; exact hS
  suffices hgo : W p l e ({ frames := 3, cells := 0, slots := 0, locals := 64 } : Room) s m args below meth c H locs 0 0 Q (F0 m 0 ls []) by rw [hHe, hLe] at hgo; exact hgo
  clear hHe hLe
  refine lv_aload_n hx hb dX8_readBarsOf_0 rfl (lv_at hl 0 rfl) ?_
  refine lv_iconst (v := nI 1) hx hb dX8_readBarsOf_1 (by decide) ?_
  refine wr_callVi0 (As := [.int (nI 1)]) (rest := []) (b := o) ctx hKK hP hD hS (c_X8_readNumbers1 l g o a sc ar (show (sc 15) ≤ 200 from by omega) (show (sc 16) ≤ (sc 15) from by omega)) gX8_readBarsOf_X8_readNumbers rfl rfl rfl hdX8_readNumbers ⟨Nat.le_of_ble_eq_true rfl, Nat.le_of_ble_eq_true rfl⟩ (ci := 8) (q0 := 0) rfl rfl hl.1 rfl rfl (Nat.le_of_ble_eq_true rfl) dX8_readBarsOf_2 (fun r_1 u_2 H locs hr_1 hP hD hS => ?_)
  have hP : va_P g.1 vwCl (mW g o a (updN sc 16 u_2.2.1) (upA ar 17 u_2.2.2)) H := hP
  have hD : va_D A (mW g o a (updN sc 16 u_2.2.1) (upA ar 17 u_2.2.2)) := hD
  have hr_1 : r_1 = bI u_2.1 ∧ (u_2.1 = true → mN1 (ar 14) (sc 15) (sc 16) = some (u_2.2.1, u_2.2.2 0)) ∧ (u_2.1 = false → mN1 (ar 14) (sc 15) (sc 16) = none) ∧ u_2.2.1 ≤ (sc 15) := hr_1
  obtain ⟨rfl, ht_1, hf_1, hb_1⟩ := hr_1
  refine lv_if_eq (tgt := 23) hx hb dX8_readBarsOf_5 (by decide) (fun c_3 => ?_) (fun c_3 => ?_)
  · replace c_3 := bI_f c_3
    refine lv_iconst (v := nI 0) hx hb dX8_readBarsOf_23 (by decide) ?_
    refine lv_istore_n (lv' := [(1, .int (nI 0)), (0, .ref o)]) hx hb dX8_readBarsOf_24 rfl hl (by decide) rfl (fun ls hl => ?_)
    refine lv_aload_n hx hb dX8_readBarsOf_25 rfl (lv_at hl 1 rfl) ?_
    refine lv_iload_n hx hb dX8_readBarsOf_26 rfl (lv_at hl 0 rfl) ?_
    refine lv_if_eq (tgt := 39) hx hb dX8_readBarsOf_27 (by decide) (fun c_4 => ?_) (fun c_4 => absurd c_4 (by decide))
    refine lv_aload_n hx hb dX8_readBarsOf_39 rfl (lv_at hl 1 rfl) ?_
    refine va_get (D := g.1) (cl := vwCl) (ci := 8) (v := .int (nI (sc 26))) (C := RX8) (T := TX8) (N := 29) hx hb hts hX8_readBarsOf_X8 hown hK hP 0 rfl rfl 26 (by decide) (hts _ kX8_readBarsOf_f70) (fun _ h9 => h9) rfl dX8_readBarsOf_40 ?_
    refine va_put (D := g.1) (cl := vwCl) (ci := 8) (v := .int (nI (sc 26))) (ty := .int) (C := RX8) (T := TX8) (N := 29) hx hb hts hX8_readBarsOf_X8 tyX8 tyX8_ok nmX8 hown hK hP hD hS 0 rfl rfl 26 (by decide) (hts _ kX8_readBarsOf_f70) (fun _ h9 => h9) rfl (by decide +kernel) (rfl) (rfl) (Nat.le_of_ble_eq_true rfl) dX8_readBarsOf_43 (fun H locs hP hD hS => ?_)
    have hP : va_P g.1 vwCl (mW g o a (updN (updN sc 16 u_2.2.1) 26 (sc 26)) (upA ar 17 u_2.2.2)) H := hP
    have hD : va_D A (mW g o a (updN (updN sc 16 u_2.2.1) 26 (sc 26)) (upA ar 17 u_2.2.2)) := hD
    refine lv_iload_n hx hb dX8_readBarsOf_46 rfl (lv_at hl 0 rfl) ?_
    exact hret (nI 0) (false, u_2.2.1, u_2.2.2, sc 26) H locs 47 ls (⟨rfl, fun h => ft h, fun _ => ⟨by rw [mRb, hf_1 (by assumption)], rfl⟩, hb_1⟩) (hP) (hD) hS (rfl) dX8_readBarsOf_47
  · replace c_3 := bI_t c_3
    refine lv_aload_n hx hb dX8_readBarsOf_8 rfl (lv_at hl 0 rfl) ?_
    refine lv_iconst (v := nI 0) hx hb dX8_readBarsOf_9 (by decide) ?_
    refine lv_iconst (v := nI 1) hx hb dX8_readBarsOf_10 (by decide) ?_
    refine lv_bipush (v := nI 9) hx hb dX8_readBarsOf_11 (by decide) ?_
    refine ro_callV0 (As := [.int (nI 0), .int (nI 1), .int (nI 9)]) (rest := []) (b := o) ctx hKK hP (c_X8_isTold l g o a (updN sc 16 u_2.2.1) (upA ar 17 u_2.2.2) 0 (nI 1) (nI 9) (show 0 < 2 from by omega)) gX8_readBarsOf_X8_isTold rfl rfl rfl hdX8_isTold ⟨Nat.le_of_ble_eq_true rfl, Nat.le_of_ble_eq_true rfl⟩ (ci := 8) (q0 := 0) rfl rfl hl.1 rfl rfl (Nat.le_of_ble_eq_true rfl) dX8_readBarsOf_13 (fun r_5 hr_5 => ?_)
    have hr_5 : r_5 = bI (inB (u_2.2.2 0) (nI 1) (nI 9)) := hr_5
    subst hr_5
    refine lv_if_eq (tgt := 23) hx hb dX8_readBarsOf_16 (by decide) (fun c_6 => ?_) (fun c_6 => ?_)
    · replace c_6 := bI_f c_6
      refine lv_iconst (v := nI 0) hx hb dX8_readBarsOf_23 (by decide) ?_
      refine lv_istore_n (lv' := [(1, .int (nI 0)), (0, .ref o)]) hx hb dX8_readBarsOf_24 rfl hl (by decide) rfl (fun ls hl => ?_)
      refine lv_aload_n hx hb dX8_readBarsOf_25 rfl (lv_at hl 1 rfl) ?_
      refine lv_iload_n hx hb dX8_readBarsOf_26 rfl (lv_at hl 0 rfl) ?_
      refine lv_if_eq (tgt := 39) hx hb dX8_readBarsOf_27 (by decide) (fun c_7 => ?_) (fun c_7 => absurd c_7 (by decide))
      refine lv_aload_n hx hb dX8_readBarsOf_39 rfl (lv_at hl 1 rfl) ?_
      refine va_get (D := g.1) (cl := vwCl) (ci := 8) (v := .int (nI (sc 26))) (C := RX8) (T := TX8) (N := 29) hx hb hts hX8_readBarsOf_X8 hown hK hP 0 rfl rfl 26 (by decide) (hts _ kX8_readBarsOf_f70) (fun _ h9 => h9) rfl dX8_readBarsOf_40 ?_
      refine va_put (D := g.1) (cl := vwCl) (ci := 8) (v := .int (nI (sc 26))) (ty := .int) (C := RX8) (T := TX8) (N := 29) hx hb hts hX8_readBarsOf_X8 tyX8 tyX8_ok nmX8 hown hK hP hD hS 0 rfl rfl 26 (by decide) (hts _ kX8_readBarsOf_f70) (fun _ h9 => h9) rfl (by decide +kernel) (rfl) (rfl) (Nat.le_of_ble_eq_true rfl) dX8_readBarsOf_43 (fun H locs hP hD hS => ?_)
      have hP : va_P g.1 vwCl (mW g o a (updN (updN sc 16 u_2.2.1) 26 (sc 26)) (upA ar 17 u_2.2.2)) H := hP
      have hD : va_D A (mW g o a (updN (updN sc 16 u_2.2.1) 26 (sc 26)) (upA ar 17 u_2.2.2)) := hD
      refine lv_iload_n hx hb dX8_readBarsOf_46 rfl (lv_at hl 0 rfl) ?_
      exact hret (nI 0) (false, u_2.2.1, u_2.2.2, sc 26) H locs 47 ls (⟨rfl, fun h => ft h, fun _ => ⟨by rw [mRb, ht_1 (by assumption)]; simp [c_3, c_6], rfl⟩, hb_1⟩) (hP) (hD) hS (rfl) dX8_readBarsOf_47
    · replace c_6 := bI_t c_6
      refine lv_iconst (v := nI 1) hx hb dX8_readBarsOf_19 (by decide) ?_
      refine lv_goto (tgt := 24) hx hb dX8_readBarsOf_20 (by decide) ?_
      refine lv_istore_n (lv' := [(1, .int (nI 1)), (0, .ref o)]) hx hb dX8_readBarsOf_24 rfl hl (by decide) rfl (fun ls hl => ?_)
      refine lv_aload_n hx hb dX8_readBarsOf_25 rfl (lv_at hl 1 rfl) ?_
      refine lv_iload_n hx hb dX8_readBarsOf_26 rfl (lv_at hl 0 rfl) ?_
      refine lv_if_eq (tgt := 39) hx hb dX8_readBarsOf_27 (by decide) (fun c_8 => absurd c_8 (by decide)) (fun c_8 => ?_)
      refine lv_aload_n hx hb dX8_readBarsOf_30 rfl (lv_at hl 1 rfl) ?_
      refine va_get (D := g.1) (cl := vwCl) (ci := 8) (v := .ref (a 17)) (C := RX8) (T := TX8) (N := 29) hx hb hts hX8_readBarsOf_X8 hown hK hP 0 rfl rfl 17 (by decide) (hts _ kX8_readBarsOf_f34) (fun _ h9 => h9) rfl dX8_readBarsOf_31 ?_
      refine lv_iconst (v := nI 0) hx hb dX8_readBarsOf_34 (by decide) ?_
      refine ald_i (D := g.1) (cl := vwCl) (f := u_2.2.2) (i := 0) (n := 2) hx hb hK hP 9 0 rfl rfl (by omega) (by decide) dX8_readBarsOf_35 ?_
      refine lv_goto (tgt := 43) hx hb dX8_readBarsOf_36 (by decide) ?_
      refine lv_is (nI_cl (inB_pos (k := 1) (by decide) (by assumption))) ?_
      refine va_put (D := g.1) (cl := vwCl) (ci := 8) (v := .int (nI ((u_2.2.2 0).toNatClampNeg))) (ty := .int) (C := RX8) (T := TX8) (N := 29) hx hb hts hX8_readBarsOf_X8 tyX8 tyX8_ok nmX8 hown hK hP hD hS 0 rfl rfl 26 (by decide) (hts _ kX8_readBarsOf_f70) (fun _ h9 => h9) rfl (by decide +kernel) (rfl) (rfl) (Nat.le_of_ble_eq_true rfl) dX8_readBarsOf_43 (fun H locs hP hD hS => ?_)
      have hP : va_P g.1 vwCl (mW g o a (updN (updN sc 16 u_2.2.1) 26 ((u_2.2.2 0).toNatClampNeg)) (upA ar 17 u_2.2.2)) H := hP
      have hD : va_D A (mW g o a (updN (updN sc 16 u_2.2.1) 26 ((u_2.2.2 0).toNatClampNeg)) (upA ar 17 u_2.2.2)) := hD
      refine lv_iload_n hx hb dX8_readBarsOf_46 rfl (lv_at hl 0 rfl) ?_
      exact hret (nI 1) (true, u_2.2.1, u_2.2.2, (u_2.2.2 0).toNatClampNeg) H locs 47 ls (⟨rfl, fun _ => ⟨by rw [mRb, ht_1 (by assumption)]; simp only [c_3, c_6, if_true]; exact congrArg some (Prod.ext rfl (nI_cl (inB_pos (k := 1) (by decide) (by assumption)))), inB_cl (by assumption) (by decide) (by decide)⟩, fun h => tf h, hb_1⟩) (hP) (hD) hS (rfl) dX8_readBarsOf_47
theorem kX8_readWordOf_f67 : (Cond.fieldLink RX8 67 "LastCallersWordModel" "readWords" "I" : Cond) ∈ wsX8_readWordOf := List.mem_cons_of_mem _ aw_303
theorem hX8_readWordOf_X8 : ∀ w ∈ wsX80, w ∈ wsX8_readWordOf := fun w h => List.mem_cons_of_mem _ (ac_X8 w h)
theorem kX8_readWordOf_f43 : (Cond.fieldLink RX8 43 "LastCallersWordModel" "readParts" "[I" : Cond) ∈ wsX8_readWordOf := List.mem_cons_of_mem _ aw_299
theorem kX8_readWordOf_f34 : (Cond.fieldLink RX8 34 "LastCallersWordModel" "told" "[I" : Cond) ∈ wsX8_readWordOf := List.mem_cons_of_mem _ aw_296
set_option maxHeartbeats 400000 in
set_option maxRecDepth 100000 in
theorem c_X8_readWordOf (l : Launch) (g : GG) (o : Nat) (a : Nat → Nat) (sc : Nat → Nat) (ar : Nat → Nat → Int32) (hT : sc 15 ≤ 200) (hat : sc 16 ≤ sc 15) (hW : sc 24 ≤ 6) : Met l yX8_readWordOf wsX8_readWordOf ({ frames := 3, cells := 0, slots := 0, locals := 64 } : Room) (wr g [.ref o] (mW g o a sc ar)) (wQi g (mW g o a sc ar) (fun u : Bool × Nat × (Nat → Int32) × (Nat → Int32) × Nat => (mW g o a (updN (updN sc 16 u.2.1) 24 u.2.2.2.2) (upA (upA ar 17 u.2.2.1) 25 u.2.2.2.1))) (fun rr u => rr = bI u.1 ∧ (u.1 = true → mRw (ar 14) (sc 15) (sc 16) (sc 24) (ar 25) = some (u.2.1, u.2.2.2.1)) ∧ (u.1 = false → mRw (ar 14) (sc 15) (sc 16) (sc 24) (ar 25) = none) ∧ u.2.1 ≤ sc 15 ∧ u.2.2.2.2 = (if u.1 = true then sc 24 + 1 else sc 24))) 0 0 (cA (mW g o a sc ar)) := by
  refine wr_starti (cc := cX8_readWordOf) (maxL := 1) (ty := .boolean) (by decide) rfl (Nat.le_of_ble_eq_true rfl) (fun p e s m args below meth c Q A C hP hD hS hret ls hl => ?_)
  obtain ⟨hx, hb, hml, hr, hown, hts, hlk, hKK⟩ := id C
  have hK := hKK.1
  have hown : s.vm.findClass RX8 = some m.cls := hown
  have ctx : CallFix p m c cX8_readWordOf 1 s args wsX8_readWordOf RX8 := ⟨hx, hb, hml, hown, hts⟩
  have hl : lv_has ls 1 [(0, .ref o)] := hl
  obtain ⟨H, hHe⟩ : ∃ H, H = s.heap := ⟨_, rfl⟩
  obtain ⟨locs, hLe⟩ : ∃ L : List Loc, L = [] := ⟨_, rfl⟩
  have hP : va_P g.1 vwCl (mW g o a sc ar) H := by rw [hHe]; exact hP
  have hS : va_S A s.heap H locs := by rw [hHe, hLe]; exact hS
  suffices hgo : W p l e ({ frames := 3, cells := 0, slots := 0, locals := 64 } : Room) s m args below meth c H locs 0 0 Q (F0 m 0 ls []) by rw [hHe, hLe] at hgo; exact hgo
  clear hHe hLe
  refine lv_aload_n hx hb dX8_readWordOf_0 rfl (lv_at hl 0 rfl) ?_
  refine va_get (D := g.1) (cl := vwCl) (ci := 8) (v := .int (nI (sc 24))) (C := RX8) (T := TX8) (N := 29) hx hb hts hX8_readWordOf_X8 hown hK hP 0 rfl rfl 24 (by decide) (hts _ kX8_readWordOf_f67) (fun _ h9 => h9) rfl dX8_readWordOf_1 ?_
  refine lv_bipush (v := nI 6) hx hb dX8_readWordOf_4 (by decide) ?_
  refine lv_icmp_eq (tgt := 28) hx hb dX8_readWordOf_6 (by decide) (fun c_1 => ?_) (fun c_1 => ?_)
  · replace c_1 : (sc 24) = 6 := (nI_eq (a := sc 24) (b := 6) (by omega) (by omega)).mp c_1
    refine lv_iconst (v := nI 0) hx hb dX8_readWordOf_28 (by decide) ?_
    exact hret (nI 0) (false, sc 16, ar 17, ar 25, sc 24) H locs 29 ls (⟨rfl, fun h => ft h, fun _ => by rw [mRw, if_pos (by assumption)], hat, rfl⟩) (hP) (hD) hS (rfl) dX8_readWordOf_29
  · replace c_1 : ¬ (sc 24) = 6 := fun h => c_1 ((nI_eq (a := sc 24) (b := 6) (by omega) (by omega)).mpr h)
    refine lv_aload_n hx hb dX8_readWordOf_9 rfl (lv_at hl 0 rfl) ?_
    refine lv_iconst (v := nI 1) hx hb dX8_readWordOf_10 (by decide) ?_
    refine wr_callVi0 (As := [.int (nI 1)]) (rest := []) (b := o) ctx hKK hP hD hS (c_X8_readNumbers1 l g o a sc ar (show (sc 15) ≤ 200 from by omega) (show (sc 16) ≤ (sc 15) from by omega)) gX8_readWordOf_X8_readNumbers rfl rfl rfl hdX8_readNumbers ⟨Nat.le_of_ble_eq_true rfl, Nat.le_of_ble_eq_true rfl⟩ (ci := 8) (q0 := 0) rfl rfl hl.1 rfl rfl (Nat.le_of_ble_eq_true rfl) dX8_readWordOf_11 (fun r_2 u_3 H locs hr_2 hP hD hS => ?_)
    have hP : va_P g.1 vwCl (mW g o a (updN sc 16 u_3.2.1) (upA ar 17 u_3.2.2)) H := hP
    have hD : va_D A (mW g o a (updN sc 16 u_3.2.1) (upA ar 17 u_3.2.2)) := hD
    have hr_2 : r_2 = bI u_3.1 ∧ (u_3.1 = true → mN1 (ar 14) (sc 15) (sc 16) = some (u_3.2.1, u_3.2.2 0)) ∧ (u_3.1 = false → mN1 (ar 14) (sc 15) (sc 16) = none) ∧ u_3.2.1 ≤ (sc 15) := hr_2
    obtain ⟨rfl, ht_2, hf_2, hb_2⟩ := hr_2
    refine lv_if_eq (tgt := 28) hx hb dX8_readWordOf_14 (by decide) (fun c_4 => ?_) (fun c_4 => ?_)
    · replace c_4 := bI_f c_4
      refine lv_iconst (v := nI 0) hx hb dX8_readWordOf_28 (by decide) ?_
      exact hret (nI 0) (false, u_3.2.1, u_3.2.2, ar 25, sc 24) H locs 29 ls (⟨rfl, fun h => ft h, fun _ => by rw [mRw, if_neg (by assumption), hf_2 (by assumption)], hb_2, rfl⟩) (hP) (hD) hS (rfl) dX8_readWordOf_29
    · replace c_4 := bI_t c_4
      refine lv_aload_n hx hb dX8_readWordOf_17 rfl (lv_at hl 0 rfl) ?_
      refine lv_iconst (v := nI 0) hx hb dX8_readWordOf_18 (by decide) ?_
      refine lv_iconst (v := nI 1) hx hb dX8_readWordOf_19 (by decide) ?_
      refine lv_bipush (v := nI 60) hx hb dX8_readWordOf_20 (by decide) ?_
      refine ro_callV0 (As := [.int (nI 0), .int (nI 1), .int (nI 60)]) (rest := []) (b := o) ctx hKK hP (c_X8_isTold l g o a (updN sc 16 u_3.2.1) (upA ar 17 u_3.2.2) 0 (nI 1) (nI 60) (show 0 < 2 from by omega)) gX8_readWordOf_X8_isTold rfl rfl rfl hdX8_isTold ⟨Nat.le_of_ble_eq_true rfl, Nat.le_of_ble_eq_true rfl⟩ (ci := 8) (q0 := 0) rfl rfl hl.1 rfl rfl (Nat.le_of_ble_eq_true rfl) dX8_readWordOf_22 (fun r_5 hr_5 => ?_)
      have hr_5 : r_5 = bI (inB (u_3.2.2 0) (nI 1) (nI 60)) := hr_5
      subst hr_5
      refine lv_if_ne (tgt := 30) hx hb dX8_readWordOf_25 (by decide) (fun c_6 => ?_) (fun c_6 => ?_)
      · replace c_6 := bI_t c_6
        refine lv_aload_n hx hb dX8_readWordOf_30 rfl (lv_at hl 0 rfl) ?_
        refine va_get (D := g.1) (cl := vwCl) (ci := 8) (v := .ref (a 25)) (C := RX8) (T := TX8) (N := 29) hx hb hts hX8_readWordOf_X8 hown hK hP 0 rfl rfl 25 (by decide) (hts _ kX8_readWordOf_f43) (fun _ h9 => h9) rfl dX8_readWordOf_31 ?_
        refine lv_aload_n hx hb dX8_readWordOf_34 rfl (lv_at hl 0 rfl) ?_
        refine va_get (D := g.1) (cl := vwCl) (ci := 8) (v := .int (nI (sc 24))) (C := RX8) (T := TX8) (N := 29) hx hb hts hX8_readWordOf_X8 hown hK hP 0 rfl rfl 24 (by decide) (hts _ kX8_readWordOf_f67) (fun _ h9 => h9) rfl dX8_readWordOf_35 ?_
        refine lv_aload_n hx hb dX8_readWordOf_38 rfl (lv_at hl 0 rfl) ?_
        refine va_get (D := g.1) (cl := vwCl) (ci := 8) (v := .ref (a 17)) (C := RX8) (T := TX8) (N := 29) hx hb hts hX8_readWordOf_X8 hown hK hP 0 rfl rfl 17 (by decide) (hts _ kX8_readWordOf_f34) (fun _ h9 => h9) rfl dX8_readWordOf_39 ?_
        refine lv_iconst (v := nI 0) hx hb dX8_readWordOf_42 (by decide) ?_
        refine ald_i (D := g.1) (cl := vwCl) (f := u_3.2.2) (i := 0) (n := 2) hx hb hK hP 9 0 rfl rfl (by omega) (by decide) dX8_readWordOf_43 ?_
        refine ast_i (D := g.1) (cl := vwCl) (f := ar 25) (i := sc 24) (n := 6) (x := u_3.2.2 0) hx hb hK hP hD hS 12 0 rfl rfl (by omega) (by decide) dX8_readWordOf_44 (fun H locs hP hD hS => ?_)
        have hP : va_P g.1 vwCl (mW g o a (updN sc 16 u_3.2.1) (upA (upA ar 17 u_3.2.2) 25 (upd (ar 25) (sc 24) (u_3.2.2 0)))) H := hP
        have hD : va_D A (mW g o a (updN sc 16 u_3.2.1) (upA (upA ar 17 u_3.2.2) 25 (upd (ar 25) (sc 24) (u_3.2.2 0)))) := hD
        refine lv_aload_n hx hb dX8_readWordOf_45 rfl (lv_at hl 0 rfl) ?_
        refine lv_dup hx hb dX8_readWordOf_46 rfl ?_
        refine va_get (D := g.1) (cl := vwCl) (ci := 8) (v := .int (nI (sc 24))) (C := RX8) (T := TX8) (N := 29) hx hb hts hX8_readWordOf_X8 hown hK hP 0 rfl rfl 24 (by decide) (hts _ kX8_readWordOf_f67) (fun _ h9 => h9) rfl dX8_readWordOf_47 ?_
        refine lv_iconst (v := nI 1) hx hb dX8_readWordOf_50 (by decide) ?_
        refine lv_iadd hx hb dX8_readWordOf_51 ?_
        refine lv_is (nI_add (sc 24) 1) ?_
        refine va_put (D := g.1) (cl := vwCl) (ci := 8) (v := .int (nI ((sc 24) + 1))) (ty := .int) (C := RX8) (T := TX8) (N := 29) hx hb hts hX8_readWordOf_X8 tyX8 tyX8_ok nmX8 hown hK hP hD hS 0 rfl rfl 24 (by decide) (hts _ kX8_readWordOf_f67) (fun _ h9 => h9) rfl (by decide +kernel) (rfl) (rfl) (Nat.le_of_ble_eq_true rfl) dX8_readWordOf_52 (fun H locs hP hD hS => ?_)
        have hP : va_P g.1 vwCl (mW g o a (updN (updN sc 16 u_3.2.1) 24 ((sc 24) + 1)) (upA (upA ar 17 u_3.2.2) 25 (upd (ar 25) (sc 24) (u_3.2.2 0)))) H := hP
        have hD : va_D A (mW g o a (updN (updN sc 16 u_3.2.1) 24 ((sc 24) + 1)) (upA (upA ar 17 u_3.2.2) 25 (upd (ar 25) (sc 24) (u_3.2.2 0)))) := hD
        refine lv_iconst (v := nI 1) hx hb dX8_readWordOf_55 (by decide) ?_
        exact hret (nI 1) (true, u_3.2.1, u_3.2.2, upd (ar 25) (sc 24) (u_3.2.2 0), (sc 24) + 1) H locs 56 ls (⟨rfl, fun _ => by rw [mRw, if_neg (by assumption), ht_2 (by assumption)]; simp only [c_1, c_4, c_6, if_true], fun h => tf h, hb_2, rfl⟩) (hP) (hD) hS (rfl) dX8_readWordOf_56
      · replace c_6 := bI_f c_6
        refine lv_iconst (v := nI 0) hx hb dX8_readWordOf_28 (by decide) ?_
        exact hret (nI 0) (false, u_3.2.1, u_3.2.2, ar 25, sc 24) H locs 29 ls (⟨rfl, fun h => ft h, fun _ => by rw [mRw, if_neg (by assumption), ht_2 (by assumption)]; simp [c_1, c_4, c_6], hb_2, rfl⟩) (hP) (hD) hS (rfl) dX8_readWordOf_29
theorem kX8_readDoorOf_f79 : (Cond.fieldLink RX8 79 "LastCallersWordModel" "readDoors" "I" : Cond) ∈ wsX8_readDoorOf := List.mem_cons_of_mem _ aw_311
theorem hX8_readDoorOf_X8 : ∀ w ∈ wsX80, w ∈ wsX8_readDoorOf := fun w h => List.mem_cons_of_mem _ (ac_X8 w h)
theorem kX8_readDoorOf_f55 : (Cond.fieldLink RX8 55 "LastCallersWordModel" "readPersons" "I" : Cond) ∈ wsX8_readDoorOf := List.mem_cons_of_mem _ aw_302
theorem kX8_readDoorOf_f34 : (Cond.fieldLink RX8 34 "LastCallersWordModel" "told" "[I" : Cond) ∈ wsX8_readDoorOf := List.mem_cons_of_mem _ aw_296
set_option maxHeartbeats 400000 in
set_option maxRecDepth 100000 in
theorem c_X8_readDoorOf (l : Launch) (g : GG) (o : Nat) (a : Nat → Nat) (sc : Nat → Nat) (ar : Nat → Nat → Int32) (hT : sc 15 ≤ 200) (hat : sc 16 ≤ sc 15) (hD : sc 22 ≤ 5) (hP8r : sc 19 ≤ 8) : Met l yX8_readDoorOf wsX8_readDoorOf ({ frames := 3, cells := 0, slots := 0, locals := 64 } : Room) (wr g [.ref o] (mW g o a sc ar)) (wQi g (mW g o a sc ar) (fun u : Bool × Nat × (Nat → Int32) × (Nat → Int32) × (Nat → Int32) × Nat => (mW g o a (updN (updN sc 16 u.2.1) 22 u.2.2.2.2.2) (upA (upA (upA ar 17 u.2.2.1) 23 u.2.2.2.1) 27 u.2.2.2.2.1))) (fun rr u => rr = bI u.1 ∧ (u.1 = true → mRd (ar 14) (sc 15) (sc 16) (sc 22) (sc 19) (ar 23) (ar 27) = some (u.2.1, u.2.2.2.1, u.2.2.2.2.1)) ∧ (u.1 = false → mRd (ar 14) (sc 15) (sc 16) (sc 22) (sc 19) (ar 23) (ar 27) = none) ∧ u.2.1 ≤ sc 15 ∧ u.2.2.2.2.2 = (if u.1 = true then sc 22 + 1 else sc 22))) 0 0 (cA (mW g o a sc ar)) := by
  refine wr_starti (cc := cX8_readDoorOf) (maxL := 1) (ty := .boolean) (by decide) rfl (Nat.le_of_ble_eq_true rfl) (fun p e s m args below meth c Q A C hP hD hS hret ls hl => ?_)
  obtain ⟨hx, hb, hml, hr, hown, hts, hlk, hKK⟩ := id C
  have hK := hKK.1
  have hown : s.vm.findClass RX8 = some m.cls := hown
  have ctx : CallFix p m c cX8_readDoorOf 1 s args wsX8_readDoorOf RX8 := ⟨hx, hb, hml, hown, hts⟩
  have hl : lv_has ls 1 [(0, .ref o)] := hl
  obtain ⟨H, hHe⟩ : ∃ H, H = s.heap := ⟨_, rfl⟩
  obtain ⟨locs, hLe⟩ : ∃ L : List Loc, L = [] := ⟨_, rfl⟩
  have hP : va_P g.1 vwCl (mW g o a sc ar) H := by rw [hHe]; exact hP
  have hS : va_S A s.heap H locs := by rw [hHe, hLe]; exact hS
  suffices hgo : W p l e ({ frames := 3, cells := 0, slots := 0, locals := 64 } : Room) s m args below meth c H locs 0 0 Q (F0 m 0 ls []) by rw [hHe, hLe] at hgo; exact hgo
  clear hHe hLe
  refine lv_aload_n hx hb dX8_readDoorOf_0 rfl (lv_at hl 0 rfl) ?_
  refine va_get (D := g.1) (cl := vwCl) (ci := 8) (v := .int (nI (sc 22))) (C := RX8) (T := TX8) (N := 29) hx hb hts hX8_readDoorOf_X8 hown hK hP 0 rfl rfl 22 (by decide) (hts _ kX8_readDoorOf_f79) (fun _ h9 => h9) rfl dX8_readDoorOf_1 ?_
  refine lv_iconst (v := nI 5) hx hb dX8_readDoorOf_4 (by decide) ?_
  refine lv_icmp_eq (tgt := 46) hx hb dX8_readDoorOf_5 (by decide) (fun c_1 => ?_) (fun c_1 => ?_)
  · replace c_1 : (sc 22) = 5 := (nI_eq (a := sc 22) (b := 5) (by omega) (by omega)).mp c_1
    refine lv_iconst (v := nI 0) hx hb dX8_readDoorOf_46 (by decide) ?_
    exact hret (nI 0) (false, sc 16, ar 17, ar 23, ar 27, sc 22) H locs 47 ls (⟨rfl, fun h => ft h, fun _ => by rw [mRd, if_pos (by assumption)], hat, rfl⟩) (hP) (hD) hS (rfl) dX8_readDoorOf_47
  · replace c_1 : ¬ (sc 22) = 5 := fun h => c_1 ((nI_eq (a := sc 22) (b := 5) (by omega) (by omega)).mpr h)
    refine lv_aload_n hx hb dX8_readDoorOf_8 rfl (lv_at hl 0 rfl) ?_
    refine lv_iconst (v := nI 2) hx hb dX8_readDoorOf_9 (by decide) ?_
    refine wr_callVi0 (As := [.int (nI 2)]) (rest := []) (b := o) ctx hKK hP hD hS (c_X8_readNumbers2 l g o a sc ar (show (sc 15) ≤ 200 from by omega) (show (sc 16) ≤ (sc 15) from by omega)) gX8_readDoorOf_X8_readNumbers rfl rfl rfl hdX8_readNumbers ⟨Nat.le_of_ble_eq_true rfl, Nat.le_of_ble_eq_true rfl⟩ (ci := 8) (q0 := 0) rfl rfl hl.1 rfl rfl (Nat.le_of_ble_eq_true rfl) dX8_readDoorOf_10 (fun r_2 u_3 H locs hr_2 hP hD hS => ?_)
    have hP : va_P g.1 vwCl (mW g o a (updN sc 16 u_3.2.1) (upA ar 17 u_3.2.2)) H := hP
    have hD : va_D A (mW g o a (updN sc 16 u_3.2.1) (upA ar 17 u_3.2.2)) := hD
    have hr_2 : r_2 = bI u_3.1 ∧ (u_3.1 = true → mN2 (ar 14) (sc 15) (sc 16) = some (u_3.2.1, u_3.2.2 0, u_3.2.2 1)) ∧ (u_3.1 = false → mN2 (ar 14) (sc 15) (sc 16) = none) ∧ u_3.2.1 ≤ (sc 15) := hr_2
    obtain ⟨rfl, ht_2, hf_2, hb_2⟩ := hr_2
    refine lv_if_eq (tgt := 46) hx hb dX8_readDoorOf_13 (by decide) (fun c_4 => ?_) (fun c_4 => ?_)
    · replace c_4 := bI_f c_4
      refine lv_iconst (v := nI 0) hx hb dX8_readDoorOf_46 (by decide) ?_
      exact hret (nI 0) (false, u_3.2.1, u_3.2.2, ar 23, ar 27, sc 22) H locs 47 ls (⟨rfl, fun h => ft h, fun _ => by rw [mRd, if_neg (by assumption), hf_2 (by assumption)], hb_2, rfl⟩) (hP) (hD) hS (rfl) dX8_readDoorOf_47
    · replace c_4 := bI_t c_4
      refine lv_aload_n hx hb dX8_readDoorOf_16 rfl (lv_at hl 0 rfl) ?_
      refine lv_iconst (v := nI 0) hx hb dX8_readDoorOf_17 (by decide) ?_
      refine lv_iconst (v := nI 0) hx hb dX8_readDoorOf_18 (by decide) ?_
      refine lv_aload_n hx hb dX8_readDoorOf_19 rfl (lv_at hl 0 rfl) ?_
      refine va_get (D := g.1) (cl := vwCl) (ci := 8) (v := .int (nI (sc 19))) (C := RX8) (T := TX8) (N := 29) hx hb hts hX8_readDoorOf_X8 hown hK hP 0 rfl rfl 19 (by decide) (hts _ kX8_readDoorOf_f55) (fun _ h9 => h9) rfl dX8_readDoorOf_20 ?_
      refine lv_iconst (v := nI 1) hx hb dX8_readDoorOf_23 (by decide) ?_
      refine lv_isub hx hb dX8_readDoorOf_24 ?_
      refine ro_callV0 (As := [.int (nI 0), .int (nI 0), .int ((nI (sc 19)) - (nI 1))]) (rest := []) (b := o) ctx hKK hP (c_X8_isTold l g o a (updN sc 16 u_3.2.1) (upA ar 17 u_3.2.2) 0 (nI 0) ((nI (sc 19)) - (nI 1)) (show 0 < 2 from by omega)) gX8_readDoorOf_X8_isTold rfl rfl rfl hdX8_isTold ⟨Nat.le_of_ble_eq_true rfl, Nat.le_of_ble_eq_true rfl⟩ (ci := 8) (q0 := 0) rfl rfl hl.1 rfl rfl (Nat.le_of_ble_eq_true rfl) dX8_readDoorOf_25 (fun r_5 hr_5 => ?_)
      have hr_5 : r_5 = bI (inB (u_3.2.2 0) (nI 0) ((nI (sc 19)) - (nI 1))) := hr_5
      subst hr_5
      refine lv_if_eq (tgt := 46) hx hb dX8_readDoorOf_28 (by decide) (fun c_6 => ?_) (fun c_6 => ?_)
      · replace c_6 := bI_f c_6
        rw [inB_p hP8r] at c_6
        refine lv_iconst (v := nI 0) hx hb dX8_readDoorOf_46 (by decide) ?_
        exact hret (nI 0) (false, u_3.2.1, u_3.2.2, ar 23, ar 27, sc 22) H locs 47 ls (⟨rfl, fun h => ft h, fun _ => by rw [mRd, if_neg (by assumption), ht_2 (by assumption)]; simp [c_1, c_4, c_6], hb_2, rfl⟩) (hP) (hD) hS (rfl) dX8_readDoorOf_47
      · replace c_6 := bI_t c_6
        rw [inB_p hP8r] at c_6
        refine lv_aload_n hx hb dX8_readDoorOf_31 rfl (lv_at hl 0 rfl) ?_
        refine lv_iconst (v := nI 1) hx hb dX8_readDoorOf_32 (by decide) ?_
        refine lv_iconst (v := nI 0) hx hb dX8_readDoorOf_33 (by decide) ?_
        refine lv_aload_n hx hb dX8_readDoorOf_34 rfl (lv_at hl 0 rfl) ?_
        refine va_get (D := g.1) (cl := vwCl) (ci := 8) (v := .int (nI (sc 19))) (C := RX8) (T := TX8) (N := 29) hx hb hts hX8_readDoorOf_X8 hown hK hP 0 rfl rfl 19 (by decide) (hts _ kX8_readDoorOf_f55) (fun _ h9 => h9) rfl dX8_readDoorOf_35 ?_
        refine lv_iconst (v := nI 1) hx hb dX8_readDoorOf_38 (by decide) ?_
        refine lv_isub hx hb dX8_readDoorOf_39 ?_
        refine ro_callV0 (As := [.int (nI 1), .int (nI 0), .int ((nI (sc 19)) - (nI 1))]) (rest := []) (b := o) ctx hKK hP (c_X8_isTold l g o a (updN sc 16 u_3.2.1) (upA ar 17 u_3.2.2) 1 (nI 0) ((nI (sc 19)) - (nI 1)) (show 1 < 2 from by omega)) gX8_readDoorOf_X8_isTold rfl rfl rfl hdX8_isTold ⟨Nat.le_of_ble_eq_true rfl, Nat.le_of_ble_eq_true rfl⟩ (ci := 8) (q0 := 0) rfl rfl hl.1 rfl rfl (Nat.le_of_ble_eq_true rfl) dX8_readDoorOf_40 (fun r_7 hr_7 => ?_)
        have hr_7 : r_7 = bI (inB (u_3.2.2 1) (nI 0) ((nI (sc 19)) - (nI 1))) := hr_7
        subst hr_7
        refine lv_if_ne (tgt := 48) hx hb dX8_readDoorOf_43 (by decide) (fun c_8 => ?_) (fun c_8 => ?_)
        · replace c_8 := bI_t c_8
          rw [inB_p hP8r] at c_8
          refine lv_aload_n hx hb dX8_readDoorOf_48 rfl (lv_at hl 0 rfl) ?_
          refine lv_aload_n hx hb dX8_readDoorOf_49 rfl (lv_at hl 0 rfl) ?_
          refine va_get (D := g.1) (cl := vwCl) (ci := 8) (v := .ref (a 17)) (C := RX8) (T := TX8) (N := 29) hx hb hts hX8_readDoorOf_X8 hown hK hP 0 rfl rfl 17 (by decide) (hts _ kX8_readDoorOf_f34) (fun _ h9 => h9) rfl dX8_readDoorOf_50 ?_
          refine lv_iconst (v := nI 0) hx hb dX8_readDoorOf_53 (by decide) ?_
          refine ald_i (D := g.1) (cl := vwCl) (f := u_3.2.2) (i := 0) (n := 2) hx hb hK hP 9 0 rfl rfl (by omega) (by decide) dX8_readDoorOf_54 ?_
          refine lv_aload_n hx hb dX8_readDoorOf_55 rfl (lv_at hl 0 rfl) ?_
          refine va_get (D := g.1) (cl := vwCl) (ci := 8) (v := .ref (a 17)) (C := RX8) (T := TX8) (N := 29) hx hb hts hX8_readDoorOf_X8 hown hK hP 0 rfl rfl 17 (by decide) (hts _ kX8_readDoorOf_f34) (fun _ h9 => h9) rfl dX8_readDoorOf_56 ?_
          refine lv_iconst (v := nI 1) hx hb dX8_readDoorOf_59 (by decide) ?_
          refine ald_i (D := g.1) (cl := vwCl) (f := u_3.2.2) (i := 1) (n := 2) hx hb hK hP 9 0 rfl rfl (by omega) (by decide) dX8_readDoorOf_60 ?_
          refine wr_callVv0 (As := [.int (u_3.2.2 0), .int (u_3.2.2 1)]) (rest := []) (b := o) ctx hKK hP hD hS (c_X8_tellsDoor l g o a (updN sc 16 u_3.2.1) (upA ar 17 u_3.2.2) (u_3.2.2 0) (u_3.2.2 1) (show (sc 22) < 5 from by omega)) gX8_readDoorOf_X8_tellsDoor rfl rfl rfl hdX8_tellsDoor ⟨Nat.le_of_ble_eq_true rfl, Nat.le_of_ble_eq_true rfl⟩ (ci := 8) (q0 := 0) rfl rfl hl.1 rfl rfl (Nat.le_of_ble_eq_true rfl) dX8_readDoorOf_61 (fun u_10 H locs hr_9 hP hD hS => ?_)
          have hP : va_P g.1 vwCl (mW g o a (updN (updN sc 16 u_3.2.1) 22 ((sc 22) + 1)) (upA (upA (upA ar 17 u_3.2.2) 23 (upd (ar 23) (sc 22) (u_3.2.2 0))) 27 (upd (ar 27) (65 + (sc 22)) (u_3.2.2 1)))) H := hP
          have hD : va_D A (mW g o a (updN (updN sc 16 u_3.2.1) 22 ((sc 22) + 1)) (upA (upA (upA ar 17 u_3.2.2) 23 (upd (ar 23) (sc 22) (u_3.2.2 0))) 27 (upd (ar 27) (65 + (sc 22)) (u_3.2.2 1)))) := hD
          refine lv_iconst (v := nI 1) hx hb dX8_readDoorOf_64 (by decide) ?_
          exact hret (nI 1) (true, u_3.2.1, u_3.2.2, upd (ar 23) (sc 22) (u_3.2.2 0), upd (ar 27) (65 + (sc 22)) (u_3.2.2 1), (sc 22) + 1) H locs 65 ls (⟨rfl, fun _ => by rw [mRd, if_neg (by assumption), ht_2 (by assumption)]; simp only [c_1, c_4, c_6, c_8, and_self, if_true], fun h => tf h, hb_2, rfl⟩) (hP) (hD) hS (rfl) dX8_readDoorOf_65
        · replace c_8 := bI_f c_8
          rw [inB_p hP8r] at c_8
          refine lv_iconst (v := nI 0) hx hb dX8_readDoorOf_46 (by decide) ?_
          exact hret (nI 0) (false, u_3.2.1, u_3.2.2, ar 23, ar 27, sc 22) H locs 47 ls (⟨rfl, fun h => ft h, fun _ => by rw [mRd, if_neg (by assumption), ht_2 (by assumption)]; simp [c_1, c_4, c_6, c_8], hb_2, rfl⟩) (hP) (hD) hS (rfl) dX8_readDoorOf_47
theorem kX8_readPersonOf_f76 : (Cond.fieldLink RX8 76 "LastCallersWordModel" "readTold" "I" : Cond) ∈ wsX8_readPersonOf := List.mem_cons_of_mem _ aw_310
theorem hX8_readPersonOf_X8 : ∀ w ∈ wsX80, w ∈ wsX8_readPersonOf := fun w h => List.mem_cons_of_mem _ (ac_X8 w h)
theorem kX8_readPersonOf_f55 : (Cond.fieldLink RX8 55 "LastCallersWordModel" "readPersons" "I" : Cond) ∈ wsX8_readPersonOf := List.mem_cons_of_mem _ aw_302
theorem kX8_readPersonOf_f95 : (Cond.fieldLink RX8 95 "LastCallersWordModel" "at" "I" : Cond) ∈ wsX8_readPersonOf := List.mem_cons_of_mem _ aw_376
theorem kX8_readPersonOf_f37 : (Cond.fieldLink RX8 37 "LastCallersWordModel" "readKinds" "[I" : Cond) ∈ wsX8_readPersonOf := List.mem_cons_of_mem _ aw_297
theorem kX8_readPersonOf_f46 : (Cond.fieldLink RX8 46 "LastCallersWordModel" "read" "[I" : Cond) ∈ wsX8_readPersonOf := List.mem_cons_of_mem _ aw_300
set_option maxHeartbeats 400000 in
set_option maxRecDepth 100000 in
theorem c_X8_readPersonOf (l : Launch) (g : GG) (o : Nat) (a : Nat → Nat) (sc : Nat → Nat) (ar : Nat → Nat → Int32) (hT : sc 15 ≤ 200) (hat : sc 16 ≤ sc 15) (hrt : sc 20 ≤ sc 19) (hP8r : sc 19 ≤ 8) : Met l yX8_readPersonOf wsX8_readPersonOf ({ frames := 2, cells := 0, slots := 0, locals := 42 } : Room) (wr g [.ref o] (mW g o a sc ar)) (wQi g (mW g o a sc ar) (fun u : Bool × Nat × (Nat → Int32) × (Nat → Int32) × Nat => (mW g o a (updN (updN sc 16 u.2.1) 20 u.2.2.2.2) (upA (upA ar 21 u.2.2.1) 27 u.2.2.2.1))) (fun rr u => rr = bI u.1 ∧ (u.1 = true → mRp (ar 14) (sc 15) (sc 16) (sc 20) (sc 19) (ar 21) (ar 27) = some (u.2.1, u.2.2.1, u.2.2.2.1)) ∧ (u.1 = false → mRp (ar 14) (sc 15) (sc 16) (sc 20) (sc 19) (ar 21) (ar 27) = none) ∧ (u.1 = true → u.2.1 ≤ sc 15) ∧ (u.1 = true → u.2.2.2.2 = sc 20 + 1))) 0 0 (cA (mW g o a sc ar)) := by
  refine wr_starti (cc := cX8_readPersonOf) (maxL := 2) (ty := .boolean) (by decide) rfl (Nat.le_of_ble_eq_true rfl) (fun p e s m args below meth c Q A C hP hD hS hret ls hl => ?_)
  obtain ⟨hx, hb, hml, hr, hown, hts, hlk, hKK⟩ := id C
  have hK := hKK.1
  have hown : s.vm.findClass RX8 = some m.cls := hown
  have ctx : CallFix p m c cX8_readPersonOf 2 s args wsX8_readPersonOf RX8 := ⟨hx, hb, hml, hown, hts⟩
  have hl : lv_has ls 2 [(0, .ref o)] := hl
  obtain ⟨H, hHe⟩ : ∃ H, H = s.heap := ⟨_, rfl⟩
  obtain ⟨locs, hLe⟩ : ∃ L : List Loc, L = [] := ⟨_, rfl⟩
  have hP : va_P g.1 vwCl (mW g o a sc ar) H := by rw [hHe]; exact hP
  have hS : va_S A s.heap H locs := by rw [hHe, hLe]; exact hS
  suffices hgo : W p l e ({ frames := 2, cells := 0, slots := 0, locals := 42 } : Room) s m args below meth c H locs 0 0 Q (F0 m 0 ls []) by rw [hHe, hLe] at hgo; exact hgo
  clear hHe hLe
  refine lv_aload_n hx hb dX8_readPersonOf_0 rfl (lv_at hl 0 rfl) ?_
  refine va_get (D := g.1) (cl := vwCl) (ci := 8) (v := .int (nI (sc 20))) (C := RX8) (T := TX8) (N := 29) hx hb hts hX8_readPersonOf_X8 hown hK hP 0 rfl rfl 20 (by decide) (hts _ kX8_readPersonOf_f76) (fun _ h9 => h9) rfl dX8_readPersonOf_1 ?_
  refine lv_aload_n hx hb dX8_readPersonOf_4 rfl (lv_at hl 0 rfl) ?_
  refine va_get (D := g.1) (cl := vwCl) (ci := 8) (v := .int (nI (sc 19))) (C := RX8) (T := TX8) (N := 29) hx hb hts hX8_readPersonOf_X8 hown hK hP 0 rfl rfl 19 (by decide) (hts _ kX8_readPersonOf_f55) (fun _ h9 => h9) rfl dX8_readPersonOf_5 ?_
  refine lv_icmp_eq (tgt := 29) hx hb dX8_readPersonOf_8 (by decide) (fun c_1 => ?_) (fun c_1 => ?_)
  · replace c_1 : (sc 20) = (sc 19) := (nI_eq (a := sc 20) (b := sc 19) (by omega) (by omega)).mp c_1
    refine lv_iconst (v := nI 0) hx hb dX8_readPersonOf_29 (by decide) ?_
    exact hret (nI 0) (false, sc 16, ar 21, ar 27, sc 20) H locs 30 ls (⟨rfl, fun h => ft h, fun _ => by rw [mRp, if_pos (Or.inl (by assumption))], fun h => ft h, fun h => ft h⟩) (hP) (hD) hS (rfl) dX8_readPersonOf_30
  · replace c_1 : ¬ (sc 20) = (sc 19) := fun h => c_1 ((nI_eq (a := sc 20) (b := sc 19) (by omega) (by omega)).mpr h)
    refine lv_aload_n hx hb dX8_readPersonOf_11 rfl (lv_at hl 0 rfl) ?_
    refine lv_aload_n hx hb dX8_readPersonOf_12 rfl (lv_at hl 0 rfl) ?_
    refine va_get (D := g.1) (cl := vwCl) (ci := 8) (v := .int (nI (sc 16))) (C := RX8) (T := TX8) (N := 29) hx hb hts hX8_readPersonOf_X8 hown hK hP 0 rfl rfl 16 (by decide) (hts _ kX8_readPersonOf_f95) (fun _ h9 => h9) rfl dX8_readPersonOf_13 ?_
    refine ro_callV0 (As := [.int (nI (sc 16))]) (rest := []) (b := o) ctx hKK hP (c_X8_letterAt l g o a sc ar (sc 16) (show (sc 15) ≤ 200 from by omega) (show (sc 16) ≤ 1000 from by omega)) gX8_readPersonOf_X8_letterAt rfl rfl rfl hdX8_letterAt ⟨Nat.le_of_ble_eq_true rfl, Nat.le_of_ble_eq_true rfl⟩ (ci := 8) (q0 := 0) rfl rfl hl.1 rfl rfl (Nat.le_of_ble_eq_true rfl) dX8_readPersonOf_16 (fun r_2 hr_2 => ?_)
    have hr_2 : r_2 = mLt (ar 14) (sc 15) (sc 16) := hr_2
    subst hr_2
    refine lv_bipush (v := nI 48) hx hb dX8_readPersonOf_19 (by decide) ?_
    refine lv_bipush (v := nI 51) hx hb dX8_readPersonOf_21 (by decide) ?_
    refine ro_callS (As := [.int (mLt (ar 14) (sc 15) (sc 16)), .int (nI 48), .int (nI 51)]) (rest := []) ctx hKK hP (c_X8_in l g (mLt (ar 14) (sc 15) (sc 16)) (nI 48) (nI 51)) gX8_readPersonOf_X8_in rfl rfl rfl hdX8_in ⟨Nat.le_of_ble_eq_true rfl, Nat.le_of_ble_eq_true rfl⟩ [] rfl hl.1 rfl rfl (Nat.le_of_ble_eq_true rfl) dX8_readPersonOf_23 (fun r_3 hr_3 => ?_)
    subst hr_3
    refine lv_if_ne (tgt := 31) hx hb dX8_readPersonOf_26 (by decide) (fun c_4 => ?_) (fun c_4 => ?_)
    · replace c_4 := bI_t c_4
      have c_in := c_4
      refine lv_aload_n hx hb dX8_readPersonOf_31 rfl (lv_at hl 0 rfl) ?_
      refine va_get (D := g.1) (cl := vwCl) (ci := 8) (v := .ref (a 21)) (C := RX8) (T := TX8) (N := 29) hx hb hts hX8_readPersonOf_X8 hown hK hP 0 rfl rfl 21 (by decide) (hts _ kX8_readPersonOf_f37) (fun _ h9 => h9) rfl dX8_readPersonOf_32 ?_
      refine lv_aload_n hx hb dX8_readPersonOf_35 rfl (lv_at hl 0 rfl) ?_
      refine va_get (D := g.1) (cl := vwCl) (ci := 8) (v := .int (nI (sc 20))) (C := RX8) (T := TX8) (N := 29) hx hb hts hX8_readPersonOf_X8 hown hK hP 0 rfl rfl 20 (by decide) (hts _ kX8_readPersonOf_f76) (fun _ h9 => h9) rfl dX8_readPersonOf_36 ?_
      refine lv_aload_n hx hb dX8_readPersonOf_39 rfl (lv_at hl 0 rfl) ?_
      refine lv_aload_n hx hb dX8_readPersonOf_40 rfl (lv_at hl 0 rfl) ?_
      refine va_get (D := g.1) (cl := vwCl) (ci := 8) (v := .int (nI (sc 16))) (C := RX8) (T := TX8) (N := 29) hx hb hts hX8_readPersonOf_X8 hown hK hP 0 rfl rfl 16 (by decide) (hts _ kX8_readPersonOf_f95) (fun _ h9 => h9) rfl dX8_readPersonOf_41 ?_
      refine ro_callV0 (As := [.int (nI (sc 16))]) (rest := [.int (nI (sc 20)), .ref (a 21)]) (b := o) ctx hKK hP (c_X8_letterAt l g o a sc ar (sc 16) (show (sc 15) ≤ 200 from by omega) (show (sc 16) ≤ 1000 from by omega)) gX8_readPersonOf_X8_letterAt rfl rfl rfl hdX8_letterAt ⟨Nat.le_of_ble_eq_true rfl, Nat.le_of_ble_eq_true rfl⟩ (ci := 8) (q0 := 0) rfl rfl hl.1 rfl rfl (Nat.le_of_ble_eq_true rfl) dX8_readPersonOf_44 (fun r_5 hr_5 => ?_)
      have hr_5 : r_5 = mLt (ar 14) (sc 15) (sc 16) := hr_5
      subst hr_5
      refine lv_bipush (v := nI 48) hx hb dX8_readPersonOf_47 (by decide) ?_
      refine lv_isub hx hb dX8_readPersonOf_49 ?_
      refine ast_i (D := g.1) (cl := vwCl) (f := ar 21) (i := sc 20) (n := 8) (x := (mLt (ar 14) (sc 15) (sc 16)) - (nI 48)) hx hb hK hP hD hS 10 0 rfl rfl (by omega) (by decide) dX8_readPersonOf_50 (fun H locs hP hD hS => ?_)
      have hP : va_P g.1 vwCl (mW g o a sc (upA ar 21 (upd (ar 21) (sc 20) ((mLt (ar 14) (sc 15) (sc 16)) - (nI 48))))) H := hP
      have hD : va_D A (mW g o a sc (upA ar 21 (upd (ar 21) (sc 20) ((mLt (ar 14) (sc 15) (sc 16)) - (nI 48))))) := hD
      refine lv_aload_n hx hb dX8_readPersonOf_51 rfl (lv_at hl 0 rfl) ?_
      refine lv_dup hx hb dX8_readPersonOf_52 rfl ?_
      refine va_get (D := g.1) (cl := vwCl) (ci := 8) (v := .int (nI (sc 16))) (C := RX8) (T := TX8) (N := 29) hx hb hts hX8_readPersonOf_X8 hown hK hP 0 rfl rfl 16 (by decide) (hts _ kX8_readPersonOf_f95) (fun _ h9 => h9) rfl dX8_readPersonOf_53 ?_
      refine lv_iconst (v := nI 1) hx hb dX8_readPersonOf_56 (by decide) ?_
      refine lv_iadd hx hb dX8_readPersonOf_57 ?_
      refine lv_is (nI_add (sc 16) 1) ?_
      refine va_put (D := g.1) (cl := vwCl) (ci := 8) (v := .int (nI ((sc 16) + 1))) (ty := .int) (C := RX8) (T := TX8) (N := 29) hx hb hts hX8_readPersonOf_X8 tyX8 tyX8_ok nmX8 hown hK hP hD hS 0 rfl rfl 16 (by decide) (hts _ kX8_readPersonOf_f95) (fun _ h9 => h9) rfl (by decide +kernel) (rfl) (rfl) (Nat.le_of_ble_eq_true rfl) dX8_readPersonOf_58 (fun H locs hP hD hS => ?_)
      have hP : va_P g.1 vwCl (mW g o a (updN sc 16 ((sc 16) + 1)) (upA ar 21 (upd (ar 21) (sc 20) ((mLt (ar 14) (sc 15) (sc 16)) - (nI 48))))) H := hP
      have hD : va_D A (mW g o a (updN sc 16 ((sc 16) + 1)) (upA ar 21 (upd (ar 21) (sc 20) ((mLt (ar 14) (sc 15) (sc 16)) - (nI 48))))) := hD
      refine lv_iconst (v := nI 0) hx hb dX8_readPersonOf_61 (by decide) ?_
      refine lv_istore_n (lv' := [(1, .int (nI 0)), (0, .ref o)]) hx hb dX8_readPersonOf_62 rfl hl (by decide) rfl (fun ls hl => ?_)
      have LP63 : ∀ (fu : Nat) (j : Nat) (q : Nat) (rd : Nat → Int32), sc 19 - j < fu → (j ≤ sc 19) → (q ≤ sc 15) → (mRl (ar 14) (sc 15) (sc 20) (sc 16 + 1) (ar 27) j = some (q, rd)) → ∀ (H : Heap) (locs : List Loc), va_P g.1 vwCl (mW g o a (updN sc 16 q) (upA (upA ar 21 (upd (ar 21) (sc 20) ((mLt (ar 14) (sc 15) (sc 16)) - (nI 48)))) 27 rd)) H → va_D A (mW g o a (updN sc 16 q) (upA (upA ar 21 (upd (ar 21) (sc 20) ((mLt (ar 14) (sc 15) (sc 16)) - (nI 48)))) 27 rd)) → va_S A s.heap H locs → ∀ (ls : Array Slot), lv_has ls 2 [(1, .int (nI j)), (0, .ref o)] → W p l e ({ frames := 2, cells := 0, slots := 0, locals := 42 } : Room) s m args below meth c H locs 0 0 Q (F0 m 63 ls []) := by
        intro fu
        induction fu with
        | zero => intro j q rd hfu; exact absurd hfu (Nat.not_lt_zero _)
        | succ fu ih63 =>
          intro j q rd hfu hj hq er H locs hP hD hS ls hl
          refine lv_iload_n hx hb dX8_readPersonOf_63 rfl (lv_at hl 0 rfl) ?_
          refine lv_aload_n hx hb dX8_readPersonOf_64 rfl (lv_at hl 1 rfl) ?_
          refine va_get (D := g.1) (cl := vwCl) (ci := 8) (v := .int (nI (sc 19))) (C := RX8) (T := TX8) (N := 29) hx hb hts hX8_readPersonOf_X8 hown hK hP 0 rfl rfl 19 (by decide) (hts _ kX8_readPersonOf_f55) (fun _ h9 => h9) rfl dX8_readPersonOf_65 ?_
          refine lv_icmp_ge (tgt := 130) hx hb dX8_readPersonOf_68 (by decide) (fun c_6 => ?_) (fun c_6 => ?_)
          · replace c_6 : (sc 19) ≤ j := (nI_leI (a := sc 19) (b := j) (by omega) (by omega)).mp c_6
            refine lv_aload_n hx hb dX8_readPersonOf_130 rfl (lv_at hl 1 rfl) ?_
            refine lv_aload_n hx hb dX8_readPersonOf_131 rfl (lv_at hl 1 rfl) ?_
            refine va_get (D := g.1) (cl := vwCl) (ci := 8) (v := .int (nI q)) (C := RX8) (T := TX8) (N := 29) hx hb hts hX8_readPersonOf_X8 hown hK hP 0 rfl rfl 16 (by decide) (hts _ kX8_readPersonOf_f95) (fun _ h9 => h9) rfl dX8_readPersonOf_132 ?_
            refine ro_callV0 (As := [.int (nI q)]) (rest := []) (b := o) ctx hKK hP (c_X8_letterAt l g o a (updN sc 16 q) (upA (upA ar 21 (upd (ar 21) (sc 20) ((mLt (ar 14) (sc 15) (sc 16)) - (nI 48)))) 27 rd) q (show (sc 15) ≤ 200 from by omega) (show q ≤ 1000 from by omega)) gX8_readPersonOf_X8_letterAt rfl rfl rfl hdX8_letterAt ⟨Nat.le_of_ble_eq_true rfl, Nat.le_of_ble_eq_true rfl⟩ (ci := 8) (q0 := 0) rfl rfl hl.1 rfl rfl (Nat.le_of_ble_eq_true rfl) dX8_readPersonOf_135 (fun r_7 hr_7 => ?_)
            have hr_7 : r_7 = mLt (ar 14) (sc 15) q := hr_7
            subst hr_7
            refine lv_bipush (v := nI 59) hx hb dX8_readPersonOf_138 (by decide) ?_
            refine lv_icmp_ne (tgt := 147) hx hb dX8_readPersonOf_140 (by decide) (fun c_8 => ?_) (fun c_8 => ?_)
            · refine lv_iconst (v := nI 0) hx hb dX8_readPersonOf_147 (by decide) ?_
              refine lv_istore_n (lv' := [(1, .int (nI 0)), (0, .ref o)]) hx hb dX8_readPersonOf_148 rfl hl (by decide) rfl (fun ls hl => ?_)
              refine lv_aload_n hx hb dX8_readPersonOf_149 rfl (lv_at hl 1 rfl) ?_
              refine lv_dup hx hb dX8_readPersonOf_150 rfl ?_
              refine va_get (D := g.1) (cl := vwCl) (ci := 8) (v := .int (nI q)) (C := RX8) (T := TX8) (N := 29) hx hb hts hX8_readPersonOf_X8 hown hK hP 0 rfl rfl 16 (by decide) (hts _ kX8_readPersonOf_f95) (fun _ h9 => h9) rfl dX8_readPersonOf_151 ?_
              refine lv_iconst (v := nI 1) hx hb dX8_readPersonOf_154 (by decide) ?_
              refine lv_iadd hx hb dX8_readPersonOf_155 ?_
              refine lv_is (nI_add q 1) ?_
              refine va_put (D := g.1) (cl := vwCl) (ci := 8) (v := .int (nI (q + 1))) (ty := .int) (C := RX8) (T := TX8) (N := 29) hx hb hts hX8_readPersonOf_X8 tyX8 tyX8_ok nmX8 hown hK hP hD hS 0 rfl rfl 16 (by decide) (hts _ kX8_readPersonOf_f95) (fun _ h9 => h9) rfl (by decide +kernel) (rfl) (rfl) (Nat.le_of_ble_eq_true rfl) dX8_readPersonOf_156 (fun H locs hP hD hS => ?_)
              have hP : va_P g.1 vwCl (mW g o a (updN sc 16 (q + 1)) (upA (upA ar 21 (upd (ar 21) (sc 20) ((mLt (ar 14) (sc 15) (sc 16)) - (nI 48)))) 27 rd)) H := hP
              have hD : va_D A (mW g o a (updN sc 16 (q + 1)) (upA (upA ar 21 (upd (ar 21) (sc 20) ((mLt (ar 14) (sc 15) (sc 16)) - (nI 48)))) 27 rd)) := hD
              refine lv_aload_n hx hb dX8_readPersonOf_159 rfl (lv_at hl 1 rfl) ?_
              refine lv_dup hx hb dX8_readPersonOf_160 rfl ?_
              refine va_get (D := g.1) (cl := vwCl) (ci := 8) (v := .int (nI (sc 20))) (C := RX8) (T := TX8) (N := 29) hx hb hts hX8_readPersonOf_X8 hown hK hP 0 rfl rfl 20 (by decide) (hts _ kX8_readPersonOf_f76) (fun _ h9 => h9) rfl dX8_readPersonOf_161 ?_
              refine lv_iconst (v := nI 1) hx hb dX8_readPersonOf_164 (by decide) ?_
              refine lv_iadd hx hb dX8_readPersonOf_165 ?_
              refine lv_is (nI_add (sc 20) 1) ?_
              refine va_put (D := g.1) (cl := vwCl) (ci := 8) (v := .int (nI ((sc 20) + 1))) (ty := .int) (C := RX8) (T := TX8) (N := 29) hx hb hts hX8_readPersonOf_X8 tyX8 tyX8_ok nmX8 hown hK hP hD hS 0 rfl rfl 20 (by decide) (hts _ kX8_readPersonOf_f76) (fun _ h9 => h9) rfl (by decide +kernel) (rfl) (rfl) (Nat.le_of_ble_eq_true rfl) dX8_readPersonOf_166 (fun H locs hP hD hS => ?_)
              have hP : va_P g.1 vwCl (mW g o a (updN (updN sc 16 (q + 1)) 20 ((sc 20) + 1)) (upA (upA ar 21 (upd (ar 21) (sc 20) ((mLt (ar 14) (sc 15) (sc 16)) - (nI 48)))) 27 rd)) H := hP
              have hD : va_D A (mW g o a (updN (updN sc 16 (q + 1)) 20 ((sc 20) + 1)) (upA (upA ar 21 (upd (ar 21) (sc 20) ((mLt (ar 14) (sc 15) (sc 16)) - (nI 48)))) 27 rd)) := hD
              refine lv_iload_n hx hb dX8_readPersonOf_169 rfl (lv_at hl 0 rfl) ?_
              exact hret (nI 0) (false, q + 1, upd (ar 21) (sc 20) ((mLt (ar 14) (sc 15) (sc 16)) - (nI 48)), rd, (sc 20) + 1) H locs 170 ls (⟨rfl, fun h => ft h, fun _ => by have h1 : mRl (ar 14) (sc 15) (sc 20) (sc 16 + 1) (ar 27) (sc 19) = some (q, rd) := (by rw [← er, show j = sc 19 by omega]); rw [mRp, if_neg (by rintro (q | q); exact absurd q (by assumption); exact absurd q (by rw [c_in]; decide)), h1]; simp [c_1, c_4, c_6, c_8], fun h => ft h, fun h => ft h⟩) (hP) (hD) hS (rfl) dX8_readPersonOf_170
            · refine lv_iconst (v := nI 1) hx hb dX8_readPersonOf_143 (by decide) ?_
              refine lv_goto (tgt := 148) hx hb dX8_readPersonOf_144 (by decide) ?_
              refine lv_istore_n (lv' := [(1, .int (nI 1)), (0, .ref o)]) hx hb dX8_readPersonOf_148 rfl hl (by decide) rfl (fun ls hl => ?_)
              refine lv_aload_n hx hb dX8_readPersonOf_149 rfl (lv_at hl 1 rfl) ?_
              refine lv_dup hx hb dX8_readPersonOf_150 rfl ?_
              refine va_get (D := g.1) (cl := vwCl) (ci := 8) (v := .int (nI q)) (C := RX8) (T := TX8) (N := 29) hx hb hts hX8_readPersonOf_X8 hown hK hP 0 rfl rfl 16 (by decide) (hts _ kX8_readPersonOf_f95) (fun _ h9 => h9) rfl dX8_readPersonOf_151 ?_
              refine lv_iconst (v := nI 1) hx hb dX8_readPersonOf_154 (by decide) ?_
              refine lv_iadd hx hb dX8_readPersonOf_155 ?_
              refine lv_is (nI_add q 1) ?_
              refine va_put (D := g.1) (cl := vwCl) (ci := 8) (v := .int (nI (q + 1))) (ty := .int) (C := RX8) (T := TX8) (N := 29) hx hb hts hX8_readPersonOf_X8 tyX8 tyX8_ok nmX8 hown hK hP hD hS 0 rfl rfl 16 (by decide) (hts _ kX8_readPersonOf_f95) (fun _ h9 => h9) rfl (by decide +kernel) (rfl) (rfl) (Nat.le_of_ble_eq_true rfl) dX8_readPersonOf_156 (fun H locs hP hD hS => ?_)
              have hP : va_P g.1 vwCl (mW g o a (updN sc 16 (q + 1)) (upA (upA ar 21 (upd (ar 21) (sc 20) ((mLt (ar 14) (sc 15) (sc 16)) - (nI 48)))) 27 rd)) H := hP
              have hD : va_D A (mW g o a (updN sc 16 (q + 1)) (upA (upA ar 21 (upd (ar 21) (sc 20) ((mLt (ar 14) (sc 15) (sc 16)) - (nI 48)))) 27 rd)) := hD
              refine lv_aload_n hx hb dX8_readPersonOf_159 rfl (lv_at hl 1 rfl) ?_
              refine lv_dup hx hb dX8_readPersonOf_160 rfl ?_
              refine va_get (D := g.1) (cl := vwCl) (ci := 8) (v := .int (nI (sc 20))) (C := RX8) (T := TX8) (N := 29) hx hb hts hX8_readPersonOf_X8 hown hK hP 0 rfl rfl 20 (by decide) (hts _ kX8_readPersonOf_f76) (fun _ h9 => h9) rfl dX8_readPersonOf_161 ?_
              refine lv_iconst (v := nI 1) hx hb dX8_readPersonOf_164 (by decide) ?_
              refine lv_iadd hx hb dX8_readPersonOf_165 ?_
              refine lv_is (nI_add (sc 20) 1) ?_
              refine va_put (D := g.1) (cl := vwCl) (ci := 8) (v := .int (nI ((sc 20) + 1))) (ty := .int) (C := RX8) (T := TX8) (N := 29) hx hb hts hX8_readPersonOf_X8 tyX8 tyX8_ok nmX8 hown hK hP hD hS 0 rfl rfl 20 (by decide) (hts _ kX8_readPersonOf_f76) (fun _ h9 => h9) rfl (by decide +kernel) (rfl) (rfl) (Nat.le_of_ble_eq_true rfl) dX8_readPersonOf_166 (fun H locs hP hD hS => ?_)
              have hP : va_P g.1 vwCl (mW g o a (updN (updN sc 16 (q + 1)) 20 ((sc 20) + 1)) (upA (upA ar 21 (upd (ar 21) (sc 20) ((mLt (ar 14) (sc 15) (sc 16)) - (nI 48)))) 27 rd)) H := hP
              have hD : va_D A (mW g o a (updN (updN sc 16 (q + 1)) 20 ((sc 20) + 1)) (upA (upA ar 21 (upd (ar 21) (sc 20) ((mLt (ar 14) (sc 15) (sc 16)) - (nI 48)))) 27 rd)) := hD
              refine lv_iload_n hx hb dX8_readPersonOf_169 rfl (lv_at hl 0 rfl) ?_
              exact hret (nI 1) (true, q + 1, upd (ar 21) (sc 20) ((mLt (ar 14) (sc 15) (sc 16)) - (nI 48)), rd, (sc 20) + 1) H locs 170 ls (⟨rfl, fun _ => by have h1 : mRl (ar 14) (sc 15) (sc 20) (sc 16 + 1) (ar 27) (sc 19) = some (q, rd) := (by rw [← er, show j = sc 19 by omega]); rw [mRp, if_neg (by rintro (q | q); exact absurd q (by assumption); exact absurd q (by rw [c_in]; decide)), h1]; simp [c_1, c_4, c_6, c_8], fun h => tf h, fun _ => by have := mLt_lt c_8 (by decide); show q + 1 ≤ sc 15; omega, fun _ => rfl⟩) (hP) (hD) hS (rfl) dX8_readPersonOf_170
          · replace c_6 : ¬ (sc 19) ≤ j := fun h => c_6 ((nI_leI (a := sc 19) (b := j) (by omega) (by omega)).mpr h)
            refine lv_aload_n hx hb dX8_readPersonOf_71 rfl (lv_at hl 1 rfl) ?_
            refine lv_aload_n hx hb dX8_readPersonOf_72 rfl (lv_at hl 1 rfl) ?_
            refine va_get (D := g.1) (cl := vwCl) (ci := 8) (v := .int (nI q)) (C := RX8) (T := TX8) (N := 29) hx hb hts hX8_readPersonOf_X8 hown hK hP 0 rfl rfl 16 (by decide) (hts _ kX8_readPersonOf_f95) (fun _ h9 => h9) rfl dX8_readPersonOf_73 ?_
            refine ro_callV0 (As := [.int (nI q)]) (rest := []) (b := o) ctx hKK hP (c_X8_letterAt l g o a (updN sc 16 q) (upA (upA ar 21 (upd (ar 21) (sc 20) ((mLt (ar 14) (sc 15) (sc 16)) - (nI 48)))) 27 rd) q (show (sc 15) ≤ 200 from by omega) (show q ≤ 1000 from by omega)) gX8_readPersonOf_X8_letterAt rfl rfl rfl hdX8_letterAt ⟨Nat.le_of_ble_eq_true rfl, Nat.le_of_ble_eq_true rfl⟩ (ci := 8) (q0 := 0) rfl rfl hl.1 rfl rfl (Nat.le_of_ble_eq_true rfl) dX8_readPersonOf_76 (fun r_9 hr_9 => ?_)
            have hr_9 : r_9 = mLt (ar 14) (sc 15) q := hr_9
            subst hr_9
            refine ro_callS (As := [.int (mLt (ar 14) (sc 15) q)]) (rest := []) ctx hKK hP (c_X8_isFigure l g (mLt (ar 14) (sc 15) q)) gX8_readPersonOf_X8_isFigure rfl rfl rfl hdX8_isFigure ⟨Nat.le_of_ble_eq_true rfl, Nat.le_of_ble_eq_true rfl⟩ [] rfl hl.1 rfl rfl (Nat.le_of_ble_eq_true rfl) dX8_readPersonOf_79 (fun r_10 hr_10 => ?_)
            subst hr_10
            refine lv_if_ne (tgt := 87) hx hb dX8_readPersonOf_82 (by decide) (fun c_11 => ?_) (fun c_11 => ?_)
            · replace c_11 := bI_t c_11
              refine lv_aload_n hx hb dX8_readPersonOf_87 rfl (lv_at hl 1 rfl) ?_
              refine va_get (D := g.1) (cl := vwCl) (ci := 8) (v := .ref (a 27)) (C := RX8) (T := TX8) (N := 29) hx hb hts hX8_readPersonOf_X8 hown hK hP 0 rfl rfl 27 (by decide) (hts _ kX8_readPersonOf_f46) (fun _ h9 => h9) rfl dX8_readPersonOf_88 ?_
              refine lv_iconst (v := nI 1) hx hb dX8_readPersonOf_91 (by decide) ?_
              refine lv_bipush (v := nI 8) hx hb dX8_readPersonOf_92 (by decide) ?_
              refine lv_aload_n hx hb dX8_readPersonOf_94 rfl (lv_at hl 1 rfl) ?_
              refine va_get (D := g.1) (cl := vwCl) (ci := 8) (v := .int (nI (sc 20))) (C := RX8) (T := TX8) (N := 29) hx hb hts hX8_readPersonOf_X8 hown hK hP 0 rfl rfl 20 (by decide) (hts _ kX8_readPersonOf_f76) (fun _ h9 => h9) rfl dX8_readPersonOf_95 ?_
              refine lv_imul hx hb dX8_readPersonOf_98 ?_
              refine lv_is (pk_mul 8 (sc 20)) ?_
              refine lv_iadd hx hb dX8_readPersonOf_99 ?_
              refine lv_is (nI_add 1 (8 * (sc 20))) ?_
              refine lv_iload_n hx hb dX8_readPersonOf_100 rfl (lv_at hl 0 rfl) ?_
              refine lv_iadd hx hb dX8_readPersonOf_101 ?_
              refine lv_is (nI_add (1 + (8 * (sc 20))) j) ?_
              refine lv_aload_n hx hb dX8_readPersonOf_102 rfl (lv_at hl 1 rfl) ?_
              refine lv_aload_n hx hb dX8_readPersonOf_103 rfl (lv_at hl 1 rfl) ?_
              refine va_get (D := g.1) (cl := vwCl) (ci := 8) (v := .int (nI q)) (C := RX8) (T := TX8) (N := 29) hx hb hts hX8_readPersonOf_X8 hown hK hP 0 rfl rfl 16 (by decide) (hts _ kX8_readPersonOf_f95) (fun _ h9 => h9) rfl dX8_readPersonOf_104 ?_
              refine ro_callV0 (As := [.int (nI q)]) (rest := [.int (nI ((1 + (8 * (sc 20))) + j)), .ref (a 27)]) (b := o) ctx hKK hP (c_X8_letterAt l g o a (updN sc 16 q) (upA (upA ar 21 (upd (ar 21) (sc 20) ((mLt (ar 14) (sc 15) (sc 16)) - (nI 48)))) 27 rd) q (show (sc 15) ≤ 200 from by omega) (show q ≤ 1000 from by omega)) gX8_readPersonOf_X8_letterAt rfl rfl rfl hdX8_letterAt ⟨Nat.le_of_ble_eq_true rfl, Nat.le_of_ble_eq_true rfl⟩ (ci := 8) (q0 := 0) rfl rfl hl.1 rfl rfl (Nat.le_of_ble_eq_true rfl) dX8_readPersonOf_107 (fun r_12 hr_12 => ?_)
              have hr_12 : r_12 = mLt (ar 14) (sc 15) q := hr_12
              subst hr_12
              refine lv_bipush (v := nI 48) hx hb dX8_readPersonOf_110 (by decide) ?_
              refine lv_isub hx hb dX8_readPersonOf_112 ?_
              refine ast_i (D := g.1) (cl := vwCl) (f := rd) (i := (1 + (8 * (sc 20))) + j) (n := 115) (x := (mLt (ar 14) (sc 15) q) - (nI 48)) hx hb hK hP hD hS 13 0 rfl rfl (by omega) (by decide) dX8_readPersonOf_113 (fun H locs hP hD hS => ?_)
              have hP : va_P g.1 vwCl (mW g o a (updN sc 16 q) (upA (upA ar 21 (upd (ar 21) (sc 20) ((mLt (ar 14) (sc 15) (sc 16)) - (nI 48)))) 27 (upd rd ((1 + (8 * (sc 20))) + j) ((mLt (ar 14) (sc 15) q) - (nI 48))))) H := hP
              have hD : va_D A (mW g o a (updN sc 16 q) (upA (upA ar 21 (upd (ar 21) (sc 20) ((mLt (ar 14) (sc 15) (sc 16)) - (nI 48)))) 27 (upd rd ((1 + (8 * (sc 20))) + j) ((mLt (ar 14) (sc 15) q) - (nI 48))))) := hD
              refine lv_aload_n hx hb dX8_readPersonOf_114 rfl (lv_at hl 1 rfl) ?_
              refine lv_dup hx hb dX8_readPersonOf_115 rfl ?_
              refine va_get (D := g.1) (cl := vwCl) (ci := 8) (v := .int (nI q)) (C := RX8) (T := TX8) (N := 29) hx hb hts hX8_readPersonOf_X8 hown hK hP 0 rfl rfl 16 (by decide) (hts _ kX8_readPersonOf_f95) (fun _ h9 => h9) rfl dX8_readPersonOf_116 ?_
              refine lv_iconst (v := nI 1) hx hb dX8_readPersonOf_119 (by decide) ?_
              refine lv_iadd hx hb dX8_readPersonOf_120 ?_
              refine lv_is (nI_add q 1) ?_
              refine va_put (D := g.1) (cl := vwCl) (ci := 8) (v := .int (nI (q + 1))) (ty := .int) (C := RX8) (T := TX8) (N := 29) hx hb hts hX8_readPersonOf_X8 tyX8 tyX8_ok nmX8 hown hK hP hD hS 0 rfl rfl 16 (by decide) (hts _ kX8_readPersonOf_f95) (fun _ h9 => h9) rfl (by decide +kernel) (rfl) (rfl) (Nat.le_of_ble_eq_true rfl) dX8_readPersonOf_121 (fun H locs hP hD hS => ?_)
              have hP : va_P g.1 vwCl (mW g o a (updN sc 16 (q + 1)) (upA (upA ar 21 (upd (ar 21) (sc 20) ((mLt (ar 14) (sc 15) (sc 16)) - (nI 48)))) 27 (upd rd ((1 + (8 * (sc 20))) + j) ((mLt (ar 14) (sc 15) q) - (nI 48))))) H := hP
              have hD : va_D A (mW g o a (updN sc 16 (q + 1)) (upA (upA ar 21 (upd (ar 21) (sc 20) ((mLt (ar 14) (sc 15) (sc 16)) - (nI 48)))) 27 (upd rd ((1 + (8 * (sc 20))) + j) ((mLt (ar 14) (sc 15) q) - (nI 48))))) := hD
              refine lv_iinc (v := nI (j + 1)) (lv' := [(1, .int (nI (j + 1))), (0, .ref o)]) hx hb dX8_readPersonOf_124 hl (k := 0) rfl (iincK j 1) (by decide) rfl (fun ls hl => ?_)
              refine lv_goto (tgt := 63) hx hb dX8_readPersonOf_127 (by decide) ?_
              exact ih63 (j + 1) (q + 1) (upd rd ((1 + (8 * (sc 20))) + j) ((mLt (ar 14) (sc 15) q) - (nI 48))) (by omega) (by omega) (by have := mIn_lt c_11; omega) (by rw [mRl, er]; simp [mFg, c_1, c_4, c_6, c_11]) _ _ hP hD hS ls (lv_sub hl [0, 1] rfl)
            · replace c_11 := bI_f c_11
              refine lv_iconst (v := nI 0) hx hb dX8_readPersonOf_85 (by decide) ?_
              exact hret (nI 0) (false, q, upd (ar 21) (sc 20) ((mLt (ar 14) (sc 15) (sc 16)) - (nI 48)), rd, sc 20) H locs 86 ls (⟨rfl, fun h => ft h, fun _ => by have h1 : mRl (ar 14) (sc 15) (sc 20) (sc 16 + 1) (ar 27) (j + 1) = none := (by rw [mRl, er]; simp [mFg, c_1, c_4, c_6, c_11]); have h2 := mRl_none h1 (sc 19 - (j + 1)); rw [show j + 1 + (sc 19 - (j + 1)) = sc 19 by omega] at h2; rw [mRp, if_neg (by rintro (q | q); exact absurd q (by assumption); exact absurd q (by rw [c_in]; decide)), h2], fun h => ft h, fun h => ft h⟩) (hP) (hD) hS (rfl) dX8_readPersonOf_86
      exact LP63 (sc 19 + 1) 0 ((sc 16) + 1) (ar 27) (by omega) (by omega) (by have := mIn_lt c_in; omega) (rfl) _ _ hP hD hS ls (lv_sub hl [0, 1] rfl)
    · replace c_4 := bI_f c_4
      refine lv_iconst (v := nI 0) hx hb dX8_readPersonOf_29 (by decide) ?_
      exact hret (nI 0) (false, sc 16, ar 21, ar 27, sc 20) H locs 30 ls (⟨rfl, fun h => ft h, fun _ => by rw [mRp, if_pos (Or.inr (by assumption))], fun h => ft h, fun h => ft h⟩) (hP) (hD) hS (rfl) dX8_readPersonOf_30
theorem kX8_readItem_f95 : (Cond.fieldLink RX8 95 "LastCallersWordModel" "at" "I" : Cond) ∈ wsX8_readItem := List.mem_cons_of_mem _ aw_376
theorem hX8_readItem_X8 : ∀ w ∈ wsX80, w ∈ wsX8_readItem := fun w h => List.mem_cons_of_mem _ (ac_X8 w h)
theorem kX8_readItem_f106 : (Cond.fieldLink RX8 106 "LastCallersWordModel" "isBegun" "Z" : Cond) ∈ wsX8_readItem := List.mem_cons_of_mem _ aw_309
set_option maxHeartbeats 400000 in
set_option maxRecDepth 100000 in
theorem c_X8_readItem (l : Launch) (g : GG) (o : Nat) (a : Nat → Nat) (sc : Nat → Nat) (ar : Nat → Nat → Int32) (hT : sc 15 ≤ 200) (hat : sc 16 < sc 15) (hok : MOK (sc 18, sc 19, sc 20, sc 22, sc 24, sc 26, ar 21, ar 23, ar 25, ar 27)) : Met l yX8_readItem wsX8_readItem ({ frames := 4, cells := 0, slots := 0, locals := 85 } : Room) (wr g [.ref o] (mW g o a sc ar)) (wQi g (mW g o a sc ar) (fun u : Bool × Nat × MDV × (Nat → Int32) => (mW g o a (updN (updN (updN (updN (updN (updN (updN sc 16 u.2.1) 18 u.2.2.1.1) 19 u.2.2.1.2.1) 20 u.2.2.1.2.2.1) 22 u.2.2.1.2.2.2.1) 24 u.2.2.1.2.2.2.2.1) 26 u.2.2.1.2.2.2.2.2.1) (upA (upA (upA (upA (upA ar 21 u.2.2.1.2.2.2.2.2.2.1) 23 u.2.2.1.2.2.2.2.2.2.2.1) 25 u.2.2.1.2.2.2.2.2.2.2.2.1) 27 u.2.2.1.2.2.2.2.2.2.2.2.2) 17 u.2.2.2))) (fun rr u => rr = bI u.1 ∧ (u.1 = true → mIt (ar 14) (sc 15) (sc 16) (sc 18, sc 19, sc 20, sc 22, sc 24, sc 26, ar 21, ar 23, ar 25, ar 27) = some (u.2.1, u.2.2.1)) ∧ (u.1 = false → mIt (ar 14) (sc 15) (sc 16) (sc 18, sc 19, sc 20, sc 22, sc 24, sc 26, ar 21, ar 23, ar 25, ar 27) = none))) 0 0 (cA (mW g o a sc ar)) := by
  refine wr_starti (cc := cX8_readItem) (maxL := 2) (ty := .boolean) (by decide) rfl (Nat.le_of_ble_eq_true rfl) (fun p e s m args below meth c Q A C hP hD hS hret ls hl => ?_)
  obtain ⟨hx, hb, hml, hr, hown, hts, hlk, hKK⟩ := id C
  have hK := hKK.1
  have hown : s.vm.findClass RX8 = some m.cls := hown
  have ctx : CallFix p m c cX8_readItem 2 s args wsX8_readItem RX8 := ⟨hx, hb, hml, hown, hts⟩
  have hl : lv_has ls 2 [(0, .ref o)] := hl
  obtain ⟨H, hHe⟩ : ∃ H, H = s.heap := ⟨_, rfl⟩
  obtain ⟨locs, hLe⟩ : ∃ L : List Loc, L = [] := ⟨_, rfl⟩
  have hP : va_P g.1 vwCl (mW g o a sc ar) H := by rw [hHe]; exact hP
  have hS : va_S A s.heap H locs := by rw [hHe, hLe]; exact hS
  suffices hgo : W p l e ({ frames := 4, cells := 0, slots := 0, locals := 85 } : Room) s m args below meth c H locs 0 0 Q (F0 m 0 ls []) by rw [hHe, hLe] at hgo; exact hgo
  clear hHe hLe
  obtain ⟨o0, ⟨o1, o2⟩, o3, o4, o5, o6, o7⟩ := id hok
  have o0 : sc 18 ≤ 1 := o0
  have o2 : sc 19 ≤ 8 := o2
  have o3 : sc 20 ≤ sc 19 := o3
  have o4 : sc 22 ≤ 5 := o4
  have o5 : sc 24 ≤ 6 := o5
  refine lv_aload_n hx hb dX8_readItem_0 rfl (lv_at hl 0 rfl) ?_
  refine lv_aload_n hx hb dX8_readItem_1 rfl (lv_at hl 0 rfl) ?_
  refine va_get (D := g.1) (cl := vwCl) (ci := 8) (v := .int (nI (sc 16))) (C := RX8) (T := TX8) (N := 29) hx hb hts hX8_readItem_X8 hown hK hP 0 rfl rfl 16 (by decide) (hts _ kX8_readItem_f95) (fun _ h9 => h9) rfl dX8_readItem_2 ?_
  refine ro_callV0 (As := [.int (nI (sc 16))]) (rest := []) (b := o) ctx hKK hP (c_X8_letterAt l g o a sc ar (sc 16) (show (sc 15) ≤ 200 from by omega) (show (sc 16) ≤ 1000 from by omega)) gX8_readItem_X8_letterAt rfl rfl rfl hdX8_letterAt ⟨Nat.le_of_ble_eq_true rfl, Nat.le_of_ble_eq_true rfl⟩ (ci := 8) (q0 := 0) rfl rfl hl.1 rfl rfl (Nat.le_of_ble_eq_true rfl) dX8_readItem_5 (fun r_1 hr_1 => ?_)
  have hr_1 : r_1 = mLt (ar 14) (sc 15) (sc 16) := hr_1
  subst hr_1
  refine lv_istore_n (lv' := [(1, .int (mLt (ar 14) (sc 15) (sc 16))), (0, .ref o)]) hx hb dX8_readItem_8 rfl hl (by decide) rfl (fun ls hl => ?_)
  refine lv_aload_n hx hb dX8_readItem_9 rfl (lv_at hl 1 rfl) ?_
  refine lv_dup hx hb dX8_readItem_10 rfl ?_
  refine va_get (D := g.1) (cl := vwCl) (ci := 8) (v := .int (nI (sc 16))) (C := RX8) (T := TX8) (N := 29) hx hb hts hX8_readItem_X8 hown hK hP 0 rfl rfl 16 (by decide) (hts _ kX8_readItem_f95) (fun _ h9 => h9) rfl dX8_readItem_11 ?_
  refine lv_iconst (v := nI 1) hx hb dX8_readItem_14 (by decide) ?_
  refine lv_iadd hx hb dX8_readItem_15 ?_
  refine lv_is (nI_add (sc 16) 1) ?_
  refine va_put (D := g.1) (cl := vwCl) (ci := 8) (v := .int (nI ((sc 16) + 1))) (ty := .int) (C := RX8) (T := TX8) (N := 29) hx hb hts hX8_readItem_X8 tyX8 tyX8_ok nmX8 hown hK hP hD hS 0 rfl rfl 16 (by decide) (hts _ kX8_readItem_f95) (fun _ h9 => h9) rfl (by decide +kernel) (rfl) (rfl) (Nat.le_of_ble_eq_true rfl) dX8_readItem_16 (fun H locs hP hD hS => ?_)
  have hP : va_P g.1 vwCl (mW g o a (updN sc 16 ((sc 16) + 1)) ar) H := hP
  have hD : va_D A (mW g o a (updN sc 16 ((sc 16) + 1)) ar) := hD
  refine lv_iload_n hx hb dX8_readItem_19 rfl (lv_at hl 0 rfl) ?_
  refine lv_bipush (v := nI 110) hx hb dX8_readItem_20 (by decide) ?_
  refine lv_icmp_ne (tgt := 30) hx hb dX8_readItem_22 (by decide) (fun c_2 => ?_) (fun c_2 => ?_)
  · refine lv_aload_n hx hb dX8_readItem_30 rfl (lv_at hl 1 rfl) ?_
    refine lv_iconst (v := nI 1) hx hb dX8_readItem_31 (by decide) ?_
    refine va_put (D := g.1) (cl := vwCl) (ci := 8) (v := .int (nI 1)) (ty := .boolean) (C := RX8) (T := TX8) (N := 29) hx hb hts hX8_readItem_X8 tyX8 tyX8_ok nmX8 hown hK hP hD hS 0 rfl rfl 18 (by decide) (hts _ kX8_readItem_f106) (fun _ h9 => h9) rfl (by decide +kernel) (rfl) (rfl) (Nat.le_of_ble_eq_true rfl) dX8_readItem_32 (fun H locs hP hD hS => ?_)
    have hP : va_P g.1 vwCl (mW g o a (updN (updN sc 16 ((sc 16) + 1)) 18 1) ar) H := hP
    have hD : va_D A (mW g o a (updN (updN sc 16 ((sc 16) + 1)) 18 1) ar) := hD
    refine lv_iload_n hx hb dX8_readItem_35 rfl (lv_at hl 0 rfl) ?_
    by_cases c_3 : (mLt (ar 14) (sc 15) (sc 16)) = nI 98
    · refine lv_lookup (x := (mLt (ar 14) (sc 15) (sc 16))) (off := 59) (tgt := 95) hx hb dX8_readItem_36 (by decide) (by rw [c_3]; decide) (by decide) ?_
      refine lv_aload_n hx hb dX8_readItem_95 rfl (lv_at hl 1 rfl) ?_
      refine wr_callVi0 (As := []) (rest := []) (b := o) ctx hKK hP hD hS (c_X8_readBarsOf l g o a (updN (updN sc 16 ((sc 16) + 1)) 18 1) ar (show (sc 15) ≤ 200 from by omega) (show ((sc 16) + 1) ≤ (sc 15) from by omega)) gX8_readItem_X8_readBarsOf rfl rfl rfl hdX8_readBarsOf ⟨Nat.le_of_ble_eq_true rfl, Nat.le_of_ble_eq_true rfl⟩ (ci := 8) (q0 := 0) rfl rfl hl.1 rfl rfl (Nat.le_of_ble_eq_true rfl) dX8_readItem_96 (fun r_4 u_5 H locs hr_4 hP hD hS => ?_)
      have hP : va_P g.1 vwCl (mW g o a (updN (updN (updN sc 18 1) 16 u_5.2.1) 26 u_5.2.2.2) (upA ar 17 u_5.2.2.1)) H := hP
      have hD : va_D A (mW g o a (updN (updN (updN sc 18 1) 16 u_5.2.1) 26 u_5.2.2.2) (upA ar 17 u_5.2.2.1)) := hD
      have hr_4 : r_4 = bI u_5.1 ∧ (u_5.1 = true → mRb (ar 14) (sc 15) (((sc 16) + 1)) = some (u_5.2.1, nI u_5.2.2.2) ∧ 1 ≤ u_5.2.2.2 ∧ u_5.2.2.2 ≤ 9) ∧ (u_5.1 = false → mRb (ar 14) (sc 15) (((sc 16) + 1)) = none ∧ u_5.2.2.2 = (sc 26)) ∧ u_5.2.1 ≤ (sc 15) := hr_4
      obtain ⟨rfl, ht_4, hf_4, hb_4⟩ := hr_4
      exact hret (bI u_5.1) (u_5.1, u_5.2.1, (1, sc 19, sc 20, sc 22, sc 24, u_5.2.2.2, ar 21, ar 23, ar 25, ar 27), u_5.2.2.1) H locs 99 ls (⟨rfl, fun h => by simp only [mIt]; simp (decide := true) only [c_2, c_3, if_true, if_false]; rw [(ht_4 h).1]; simp only [nI_clamp (show u_5.2.2.2 < 2 ^ 31 by have := (ht_4 h).2; omega)], fun h => by simp only [mIt]; simp (decide := true) only [c_2, c_3, if_true, if_false]; rw [(hf_4 h).1]⟩) (hP) (hD) hS (bI_nar _) dX8_readItem_99
    by_cases c_6 : (mLt (ar 14) (sc 15) (sc 16)) = nI 100
    · refine lv_lookup (x := (mLt (ar 14) (sc 15) (sc 16))) (off := 49) (tgt := 85) hx hb dX8_readItem_36 (by decide) (by rw [c_6]; decide) (by decide) ?_
      refine lv_aload_n hx hb dX8_readItem_85 rfl (lv_at hl 1 rfl) ?_
      refine wr_callVi0 (As := []) (rest := []) (b := o) ctx hKK hP hD hS (c_X8_readDoorOf l g o a (updN (updN sc 16 ((sc 16) + 1)) 18 1) ar (show (sc 15) ≤ 200 from by omega) (show ((sc 16) + 1) ≤ (sc 15) from by omega) (show (sc 22) ≤ 5 from by omega) (show (sc 19) ≤ 8 from by omega)) gX8_readItem_X8_readDoorOf rfl rfl rfl hdX8_readDoorOf ⟨Nat.le_of_ble_eq_true rfl, Nat.le_of_ble_eq_true rfl⟩ (ci := 8) (q0 := 0) rfl rfl hl.1 rfl rfl (Nat.le_of_ble_eq_true rfl) dX8_readItem_86 (fun r_7 u_8 H locs hr_7 hP hD hS => ?_)
      have hP : va_P g.1 vwCl (mW g o a (updN (updN (updN sc 18 1) 16 u_8.2.1) 22 u_8.2.2.2.2.2) (upA (upA (upA ar 17 u_8.2.2.1) 23 u_8.2.2.2.1) 27 u_8.2.2.2.2.1)) H := hP
      have hD : va_D A (mW g o a (updN (updN (updN sc 18 1) 16 u_8.2.1) 22 u_8.2.2.2.2.2) (upA (upA (upA ar 17 u_8.2.2.1) 23 u_8.2.2.2.1) 27 u_8.2.2.2.2.1)) := hD
      have hr_7 : r_7 = bI u_8.1 ∧ (u_8.1 = true → mRd (ar 14) (sc 15) (((sc 16) + 1)) (sc 22) (sc 19) (ar 23) (ar 27) = some (u_8.2.1, u_8.2.2.2.1, u_8.2.2.2.2.1)) ∧ (u_8.1 = false → mRd (ar 14) (sc 15) (((sc 16) + 1)) (sc 22) (sc 19) (ar 23) (ar 27) = none) ∧ u_8.2.1 ≤ (sc 15) ∧ u_8.2.2.2.2.2 = (if u_8.1 = true then (sc 22) + 1 else (sc 22)) := hr_7
      obtain ⟨rfl, ht_7, hf_7, hb_7, hn_7⟩ := hr_7
      exact hret (bI u_8.1) (u_8.1, u_8.2.1, (1, sc 19, sc 20, u_8.2.2.2.2.2, sc 24, sc 26, ar 21, u_8.2.2.2.1, ar 25, u_8.2.2.2.2.1), u_8.2.2.1) H locs 89 ls (⟨rfl, fun h => by have h : u_8.1 = true := h; simp only [mIt]; simp (decide := true) only [c_2, c_3, c_6, if_true, if_false]; rw [ht_7 h, hn_7, if_pos h], fun h => by simp only [mIt]; simp (decide := true) only [c_2, c_3, c_6, if_true, if_false]; rw [hf_7 h]⟩) (hP) (hD) hS (bI_nar _) dX8_readItem_89
    by_cases c_9 : (mLt (ar 14) (sc 15) (sc 16)) = nI 112
    · refine lv_lookup (x := (mLt (ar 14) (sc 15) (sc 16))) (off := 44) (tgt := 80) hx hb dX8_readItem_36 (by decide) (by rw [c_9]; decide) (by decide) ?_
      refine lv_aload_n hx hb dX8_readItem_80 rfl (lv_at hl 1 rfl) ?_
      refine wr_callVi0 (As := []) (rest := []) (b := o) ctx hKK hP hD hS (c_X8_readPersonOf l g o a (updN (updN sc 16 ((sc 16) + 1)) 18 1) ar (show (sc 15) ≤ 200 from by omega) (show ((sc 16) + 1) ≤ (sc 15) from by omega) (show (sc 20) ≤ (sc 19) from by omega) (show (sc 19) ≤ 8 from by omega)) gX8_readItem_X8_readPersonOf rfl rfl rfl hdX8_readPersonOf ⟨Nat.le_of_ble_eq_true rfl, Nat.le_of_ble_eq_true rfl⟩ (ci := 8) (q0 := 0) rfl rfl hl.1 rfl rfl (Nat.le_of_ble_eq_true rfl) dX8_readItem_81 (fun r_10 u_11 H locs hr_10 hP hD hS => ?_)
      have hP : va_P g.1 vwCl (mW g o a (updN (updN (updN sc 18 1) 16 u_11.2.1) 20 u_11.2.2.2.2) (upA (upA ar 21 u_11.2.2.1) 27 u_11.2.2.2.1)) H := hP
      have hD : va_D A (mW g o a (updN (updN (updN sc 18 1) 16 u_11.2.1) 20 u_11.2.2.2.2) (upA (upA ar 21 u_11.2.2.1) 27 u_11.2.2.2.1)) := hD
      have hr_10 : r_10 = bI u_11.1 ∧ (u_11.1 = true → mRp (ar 14) (sc 15) (((sc 16) + 1)) (sc 20) (sc 19) (ar 21) (ar 27) = some (u_11.2.1, u_11.2.2.1, u_11.2.2.2.1)) ∧ (u_11.1 = false → mRp (ar 14) (sc 15) (((sc 16) + 1)) (sc 20) (sc 19) (ar 21) (ar 27) = none) ∧ (u_11.1 = true → u_11.2.1 ≤ (sc 15)) ∧ (u_11.1 = true → u_11.2.2.2.2 = (sc 20) + 1) := hr_10
      obtain ⟨rfl, ht_10, hf_10, hb_10, hn_10⟩ := hr_10
      exact hret (bI u_11.1) (u_11.1, u_11.2.1, (1, sc 19, u_11.2.2.2.2, sc 22, sc 24, sc 26, u_11.2.2.1, ar 23, ar 25, u_11.2.2.2.1), ar 17) H locs 84 ls (⟨rfl, fun h => by simp only [mIt]; simp (decide := true) only [c_2, c_3, c_6, c_9, if_true, if_false]; rw [ht_10 h]; simp only [hn_10 h], fun h => by simp only [mIt]; simp (decide := true) only [c_2, c_3, c_6, c_9, if_true, if_false]; rw [hf_10 h]⟩) (hP) (hD) hS (bI_nar _) dX8_readItem_84
    by_cases c_12 : (mLt (ar 14) (sc 15) (sc 16)) = nI 119
    · refine lv_lookup (x := (mLt (ar 14) (sc 15) (sc 16))) (off := 54) (tgt := 90) hx hb dX8_readItem_36 (by decide) (by rw [c_12]; decide) (by decide) ?_
      refine lv_aload_n hx hb dX8_readItem_90 rfl (lv_at hl 1 rfl) ?_
      refine wr_callVi0 (As := []) (rest := []) (b := o) ctx hKK hP hD hS (c_X8_readWordOf l g o a (updN (updN sc 16 ((sc 16) + 1)) 18 1) ar (show (sc 15) ≤ 200 from by omega) (show ((sc 16) + 1) ≤ (sc 15) from by omega) (show (sc 24) ≤ 6 from by omega)) gX8_readItem_X8_readWordOf rfl rfl rfl hdX8_readWordOf ⟨Nat.le_of_ble_eq_true rfl, Nat.le_of_ble_eq_true rfl⟩ (ci := 8) (q0 := 0) rfl rfl hl.1 rfl rfl (Nat.le_of_ble_eq_true rfl) dX8_readItem_91 (fun r_13 u_14 H locs hr_13 hP hD hS => ?_)
      have hP : va_P g.1 vwCl (mW g o a (updN (updN (updN sc 18 1) 16 u_14.2.1) 24 u_14.2.2.2.2) (upA (upA ar 17 u_14.2.2.1) 25 u_14.2.2.2.1)) H := hP
      have hD : va_D A (mW g o a (updN (updN (updN sc 18 1) 16 u_14.2.1) 24 u_14.2.2.2.2) (upA (upA ar 17 u_14.2.2.1) 25 u_14.2.2.2.1)) := hD
      have hr_13 : r_13 = bI u_14.1 ∧ (u_14.1 = true → mRw (ar 14) (sc 15) (((sc 16) + 1)) (sc 24) (ar 25) = some (u_14.2.1, u_14.2.2.2.1)) ∧ (u_14.1 = false → mRw (ar 14) (sc 15) (((sc 16) + 1)) (sc 24) (ar 25) = none) ∧ u_14.2.1 ≤ (sc 15) ∧ u_14.2.2.2.2 = (if u_14.1 = true then (sc 24) + 1 else (sc 24)) := hr_13
      obtain ⟨rfl, ht_13, hf_13, hb_13, hn_13⟩ := hr_13
      exact hret (bI u_14.1) (u_14.1, u_14.2.1, (1, sc 19, sc 20, sc 22, u_14.2.2.2.2, sc 26, ar 21, ar 23, u_14.2.2.2.1, ar 27), u_14.2.2.1) H locs 94 ls (⟨rfl, fun h => by have h : u_14.1 = true := h; simp only [mIt]; simp (decide := true) only [c_2, c_3, c_6, c_9, c_12, if_true, if_false]; rw [ht_13 h, hn_13, if_pos h], fun h => by simp only [mIt]; simp (decide := true) only [c_2, c_3, c_6, c_9, c_12, if_true, if_false]; rw [hf_13 h]⟩) (hP) (hD) hS (bI_nar _) dX8_readItem_94
    refine lv_lookup (x := (mLt (ar 14) (sc 15) (sc 16))) (off := 64) (tgt := 100) hx hb dX8_readItem_36 (by decide) (by show Op.lookupswitch.offset [(98, 59), (100, 49), (112, 44), (119, 54)] 64 _ = 64; rw [lv_osw (k := nI 98) c_3 (by decide), lv_osw (k := nI 100) c_6 (by decide), lv_osw (k := nI 112) c_9 (by decide), lv_osw (k := nI 119) c_12 (by decide)]; rfl) (by decide) ?_
    refine lv_iconst (v := nI 0) hx hb dX8_readItem_100 (by decide) ?_
    exact hret (nI 0) (false, (sc 16) + 1, (1, sc 19, sc 20, sc 22, sc 24, sc 26, ar 21, ar 23, ar 25, ar 27), ar 17) H locs 101 ls (⟨rfl, fun h => ft h, fun _ => by simp only [mIt]; simp [c_2, c_3, c_6, c_9, c_12]⟩) (hP) (hD) hS (rfl) dX8_readItem_101
  · refine lv_aload_n hx hb dX8_readItem_25 rfl (lv_at hl 1 rfl) ?_
    refine wr_callVi0 (As := []) (rest := []) (b := o) ctx hKK hP hD hS (c_X8_readPersonsOf l g o a (updN sc 16 ((sc 16) + 1)) ar (show (sc 15) ≤ 200 from by omega) (show ((sc 16) + 1) ≤ (sc 15) from by omega) (show (sc 18) ≤ 1 from by omega)) gX8_readItem_X8_readPersonsOf rfl rfl rfl hdX8_readPersonsOf ⟨Nat.le_of_ble_eq_true rfl, Nat.le_of_ble_eq_true rfl⟩ (ci := 8) (q0 := 0) rfl rfl hl.1 rfl rfl (Nat.le_of_ble_eq_true rfl) dX8_readItem_26 (fun r_15 u_16 H locs hr_15 hP hD hS => ?_)
    have hP : va_P g.1 vwCl (mW g o a (updN (updN sc 16 u_16.2.1) 19 u_16.2.2.2) (upA ar 17 u_16.2.2.1)) H := hP
    have hD : va_D A (mW g o a (updN (updN sc 16 u_16.2.1) 19 u_16.2.2.2) (upA ar 17 u_16.2.2.1)) := hD
    have hr_15 : r_15 = bI u_16.1 ∧ (u_16.1 = true → mRn (ar 14) (sc 15) (((sc 16) + 1)) (sc 18) = some (u_16.2.1, nI u_16.2.2.2) ∧ 2 ≤ u_16.2.2.2 ∧ u_16.2.2.2 ≤ 8) ∧ (u_16.1 = false → mRn (ar 14) (sc 15) (((sc 16) + 1)) (sc 18) = none ∧ u_16.2.2.2 = (sc 19)) ∧ u_16.2.1 ≤ (sc 15) := hr_15
    obtain ⟨rfl, ht_15, hf_15, hb_15⟩ := hr_15
    exact hret (bI u_16.1) (u_16.1, u_16.2.1, (sc 18, u_16.2.2.2, sc 20, sc 22, sc 24, sc 26, ar 21, ar 23, ar 25, ar 27), u_16.2.2.1) H locs 29 ls (⟨rfl, fun h => by simp only [mIt]; simp (decide := true) only [c_2, if_true, if_false]; rw [(ht_15 h).1]; simp only [nI_clamp (show u_16.2.2.2 < 2 ^ 31 by have := (ht_15 h).2; omega)], fun h => by simp only [mIt]; simp (decide := true) only [c_2, if_true, if_false]; rw [(hf_15 h).1]⟩) (hP) (hD) hS (bI_nar _) dX8_readItem_29
