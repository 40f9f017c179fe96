
def mSetL (kd : Nat → Int32) (P : Nat) (rd : Nat → Int32) : Nat → Nat → Int32
  | 0 => rd
  | d + 1 => mCallW kd P (mSetL kd P rd d) (mSetL kd P rd d (65 + d)).toNatClampNeg d
theorem mSetL_c {kd : Nat → Int32} {P D : Nat} {rd : Nat → Int32} (hok : hsOk (fun d => rd (65 + d)) P D) (hP : P ≤ 8) (hD : D ≤ 5) : ∀ j, j ≤ D → ∀ d, d < 5 → mSetL kd P rd j (65 + d) = rd (65 + d)
  | 0, _, d, _ => rfl
  | j + 1, hj, d, hd => by
    have ih := mSetL_c (kd := kd) hok hP hD j (by omega)
    rw [mSetL, mCallW, pk_un (by omega)]
    by_cases e : d = j
    · subst e
      rw [pk_us, ih d (by omega)]
      obtain ⟨i, hi, e⟩ := inPb_nat (hok d (by omega)) (by omega)
      have e : rd (65 + d) = nI i := e
      rw [e, nI_clamp (by omega)]
    · rw [pk_un (by omega)]; exact ih d hd
theorem mSetL_ok {kd : Nat → Int32} {P D : Nat} {rd f : Nat → Int32} {j : Nat} (hok : hsOk (fun d => rd (65 + d)) P D) (hP : P ≤ 8) (hD : D ≤ 5) (hj : j < D) (ef : f = mSetL kd P rd j) : ¬ f (65 + j) < 0 ∧ (f (65 + j)).toNatClampNeg < P := by
  rw [ef, mSetL_c hok hP hD j (by omega) j (by omega)]
  obtain ⟨i, hi, e⟩ := inPb_nat (hok j hj) (by omega)
  have e : rd (65 + j) = nI i := e
  rw [e, nI_clamp (by omega)]
  exact ⟨nI_pos (by omega), hi⟩
def mLayOk (F : Int32 × MDV) : Bool := decide (F.1 = -4 ∧ F.2.2.2.1 = F.2.2.1 ∧ ¬ F.2.2.2.2.1 = 0)
def mLayY (sc : Nat → Nat) (ar : Nat → Nat → Int32) (D : MDV) (sc' : Nat → Nat) (ar' : Nat → Nat → Int32) : Prop :=
  MOK D ∧ sc' 0 = D.2.1 ∧ ar' 1 = D.2.2.2.2.2.2.1 ∧ sc' 2 = D.2.2.2.1 ∧ ar' 3 = D.2.2.2.2.2.2.2.1 ∧ sc' 4 = D.2.2.2.2.1 ∧ ar' 5 = D.2.2.2.2.2.2.2.2.1 ∧ sc' 6 = D.2.2.2.2.2.1 ∧ ar' 7 = mSetL D.2.2.2.2.2.2.1 D.2.1 D.2.2.2.2.2.2.2.2.2 D.2.2.2.1 ∧ sc' 8 = 0 ∧ sc' 10 = 0 ∧ sc' 12 = 0 ∧ sc' 15 = sc 15 ∧ ar' 14 = ar 14
/-- all that counts is the same, but for the draft and 'now' -/
def mSame (sc : Nat → Nat) (ar : Nat → Nat → Int32) (sc' : Nat → Nat) (ar' : Nat → Nat → Int32) : Prop :=
  sc' 0 = sc 0 ∧ ar' 1 = ar 1 ∧ sc' 2 = sc 2 ∧ ar' 3 = ar 3 ∧ sc' 4 = sc 4 ∧ ar' 5 = ar 5 ∧ sc' 6 = sc 6 ∧ ar' 7 = ar 7 ∧ sc' 8 = sc 8 ∧ ar' 9 = ar 9 ∧ sc' 10 = sc 10 ∧ ar' 11 = ar 11 ∧ sc' 12 = sc 12 ∧ ar' 13 = ar 13 ∧ sc' 15 = sc 15 ∧ ar' 14 = ar 14
theorem kX8_fault_f95 : (Cond.fieldLink RX8 95 "LastCallersWordModel" "at" "I" : Cond) ∈ wsX8_fault := List.mem_cons_of_mem _ aw_376
theorem hX8_fault_X8 : ∀ w ∈ wsX80, w ∈ wsX8_fault := fun w h => List.mem_cons_of_mem _ (ac_X8 w h)
theorem kX8_fault_f92 : (Cond.fieldLink RX8 92 "LastCallersWordModel" "texted" "I" : Cond) ∈ wsX8_fault := List.mem_cons_of_mem _ aw_360
set_option maxHeartbeats 400000 in
set_option maxRecDepth 100000 in
theorem c_X8_fault (l : Launch) (g : GG) (o : Nat) (a : Nat → Nat) (sc : Nat → Nat) (ar : Nat → Nat → Int32) (hT : sc 15 ≤ 200) : Met l yX8_fault wsX8_fault ({ frames := 5, cells := 0, slots := 0, locals := 106 } : Room) (wr g [.ref o] (mW g o a sc ar)) (wQi g (mW g o a sc ar) (fun u : Nat × MDV × (Nat → Int32) => (mW g o a (updN (updN (updN (updN (updN (updN (updN sc 16 u.1) 18 u.2.1.1) 19 u.2.1.2.1) 20 u.2.1.2.2.1) 22 u.2.1.2.2.2.1) 24 u.2.1.2.2.2.2.1) 26 u.2.1.2.2.2.2.2.1) (upA (upA (upA (upA (upA ar 21 u.2.1.2.2.2.2.2.2.1) 23 u.2.1.2.2.2.2.2.2.2.1) 25 u.2.1.2.2.2.2.2.2.2.2.1) 27 u.2.1.2.2.2.2.2.2.2.2.2) 17 u.2.2))) (fun rr u => rr = (mff (ar 14) (sc 15) 200 0 (mD0 ar)).1 ∧ (rr = -4 → u.2.1 = (mff (ar 14) (sc 15) 200 0 (mD0 ar)).2 ∧ MOK u.2.1))) 0 0 (cA (mW g o a sc ar)) := by
  refine wr_starti (cc := cX8_fault) (maxL := 2) (ty := .int) (by decide) rfl (Nat.le_of_ble_eq_true rfl) (fun p e s m args below meth c Q A C hP hD hS hret ls hl => ?_)
  obtain ⟨hx, hb, hml, hr, hown, hts, hlk, hKK⟩ := id C
  have hK := hKK.1
  have hown : s.vm.findClass RX8 = some m.cls := hown
  have ctx : CallFix p m c cX8_fault 2 s args wsX8_fault RX8 := ⟨hx, hb, hml, hown, hts⟩
  have hl : lv_has ls 2 [(0, .ref o)] := hl
  obtain ⟨H, hHe⟩ : ∃ H, H = s.heap := ⟨_, rfl⟩
  obtain ⟨locs, hLe⟩ : ∃ L : List Loc, L = [] := ⟨_, rfl⟩
  have hP : va_P g.1 vwCl (mW g o a sc ar) H := by rw [hHe]; exact hP
  have hS : va_S A s.heap H locs := by rw [hHe, hLe]; exact hS
  suffices hgo : W p l e ({ frames := 5, cells := 0, slots := 0, locals := 106 } : Room) s m args below meth c H locs 0 0 Q (F0 m 0 ls []) by rw [hHe, hLe] at hgo; exact hgo
  clear hHe hLe
  refine lv_aload_n hx hb dX8_fault_0 rfl (lv_at hl 0 rfl) ?_
  refine lv_iconst (v := nI 0) hx hb dX8_fault_1 (by decide) ?_
  refine va_put (D := g.1) (cl := vwCl) (ci := 8) (v := .int (nI 0)) (ty := .int) (C := RX8) (T := TX8) (N := 29) hx hb hts hX8_fault_X8 tyX8 tyX8_ok nmX8 hown hK hP hD hS 0 rfl rfl 16 (by decide) (hts _ kX8_fault_f95) (fun _ h9 => h9) rfl (by decide +kernel) (rfl) (rfl) (Nat.le_of_ble_eq_true rfl) dX8_fault_2 (fun H locs hP hD hS => ?_)
  have hP : va_P g.1 vwCl (mW g o a (updN sc 16 0) ar) H := hP
  have hD : va_D A (mW g o a (updN sc 16 0) ar) := hD
  refine lv_aload_n hx hb dX8_fault_5 rfl (lv_at hl 0 rfl) ?_
  refine wr_callVv0 (As := []) (rest := []) (b := o) ctx hKK hP hD hS (c_X8_clearTold l g o a (updN sc 16 0) ar) gX8_fault_X8_clearTold rfl rfl rfl hdX8_clearTold ⟨Nat.le_of_ble_eq_true rfl, Nat.le_of_ble_eq_true rfl⟩ (ci := 8) (q0 := 0) rfl rfl hl.1 rfl rfl (Nat.le_of_ble_eq_true rfl) dX8_fault_6 (fun u_2 H locs hr_1 hP hD hS => ?_)
  have hP : va_P g.1 vwCl (mW g o a (updN (updN (updN (updN (updN (updN (updN sc 16 0) 18 0) 19 4) 20 0) 22 0) 24 0) 26 3) (upA ar 27 zF)) H := hP
  have hD : va_D A (mW g o a (updN (updN (updN (updN (updN (updN (updN sc 16 0) 18 0) 19 4) 20 0) 22 0) 24 0) 26 3) (upA ar 27 zF)) := hD
  have LP9 : ∀ (fu : Nat) (q : Nat) (bg : Nat) (rp : Nat) (rt : Nat) (dn : Nat) (wn : Nat) (rb : Nat) (kd : Nat → Int32) (hs : Nat → Int32) (pt : Nat → Int32) (rd : Nat → Int32) (td : Nat → Int32), sc 15 - q < fu → (q ≤ sc 15) → (MOK (bg, rp, rt, dn, wn, rb, kd, hs, pt, rd)) → (mff (ar 14) (sc 15) 200 0 (mD0 ar) = mff (ar 14) (sc 15) (200 - q) q (bg, rp, rt, dn, wn, rb, kd, hs, pt, rd)) → ∀ (H : Heap) (locs : List Loc), va_P g.1 vwCl (mW g o a (updN (updN (updN (updN (updN (updN (updN sc 16 q) 18 bg) 19 rp) 20 rt) 22 dn) 24 wn) 26 rb) (upA (upA (upA (upA (upA ar 21 kd) 23 hs) 25 pt) 27 rd) 17 td)) H → va_D A (mW g o a (updN (updN (updN (updN (updN (updN (updN sc 16 q) 18 bg) 19 rp) 20 rt) 22 dn) 24 wn) 26 rb) (upA (upA (upA (upA (upA ar 21 kd) 23 hs) 25 pt) 27 rd) 17 td)) → va_S A s.heap H locs → ∀ (ls : Array Slot), lv_has ls 2 [(0, .ref o)] → W p l e ({ frames := 5, cells := 0, slots := 0, locals := 106 } : Room) s m args below meth c H locs 0 0 Q (F0 m 9 ls []) := by
    intro fu
    induction fu with
    | zero => intro q bg rp rt dn wn rb kd hs pt rd td hfu; exact absurd hfu (Nat.not_lt_zero _)
    | succ fu ih9 =>
      intro q bg rp rt dn wn rb kd hs pt rd td hfu hq okd ef H locs hP hD hS ls hl
      refine lv_aload_n hx hb dX8_fault_9 rfl (lv_at hl 0 rfl) ?_
      refine va_get (D := g.1) (cl := vwCl) (ci := 8) (v := .int (nI q)) (C := RX8) (T := TX8) (N := 29) hx hb hts hX8_fault_X8 hown hK hP 0 rfl rfl 16 (by decide) (hts _ kX8_fault_f95) (fun _ h9 => h9) rfl dX8_fault_10 ?_
      refine lv_aload_n hx hb dX8_fault_13 rfl (lv_at hl 0 rfl) ?_
      refine va_get (D := g.1) (cl := vwCl) (ci := 8) (v := .int (nI (sc 15))) (C := RX8) (T := TX8) (N := 29) hx hb hts hX8_fault_X8 hown hK hP 0 rfl rfl 15 (by decide) (hts _ kX8_fault_f92) (fun _ h9 => h9) rfl dX8_fault_14 ?_
      refine lv_icmp_ge (tgt := 37) hx hb dX8_fault_17 (by decide) (fun c_3 => ?_) (fun c_3 => ?_)
      · replace c_3 : (sc 15) ≤ q := (nI_leI (a := sc 15) (b := q) (by omega) (by omega)).mp c_3
        have hff : mff (ar 14) (sc 15) (200 - q) q (bg, rp, rt, dn, wn, rb, kd, hs, pt, rd) = (-4, (bg, rp, rt, dn, wn, rb, kd, hs, pt, rd)) := by rcases Nat.lt_or_ge q 200 with hq2 | hq2; (rw [show 200 - q = 199 - q + 1 by omega, mff, if_pos (by omega)]); (rw [show 200 - q = 0 by omega, mff])
        refine lv_bipush (v := (-4)) hx hb dX8_fault_37 (by decide) ?_
        exact hret (-4) (q, (bg, rp, rt, dn, wn, rb, kd, hs, pt, rd), td) H locs 39 ls (⟨by rw [ef, hff], fun _ => ⟨by rw [ef, hff], okd⟩⟩) (hP) (hD) hS (rfl) dX8_fault_39
      · replace c_3 : ¬ (sc 15) ≤ q := fun h => c_3 ((nI_leI (a := sc 15) (b := q) (by omega) (by omega)).mpr h)
        refine lv_aload_n hx hb dX8_fault_20 rfl (lv_at hl 0 rfl) ?_
        refine va_get (D := g.1) (cl := vwCl) (ci := 8) (v := .int (nI q)) (C := RX8) (T := TX8) (N := 29) hx hb hts hX8_fault_X8 hown hK hP 0 rfl rfl 16 (by decide) (hts _ kX8_fault_f95) (fun _ h9 => h9) rfl dX8_fault_21 ?_
        refine lv_istore_n (lv' := [(1, .int (nI q)), (0, .ref o)]) hx hb dX8_fault_24 rfl hl (by decide) rfl (fun ls hl => ?_)
        refine lv_aload_n hx hb dX8_fault_25 rfl (lv_at hl 1 rfl) ?_
        refine wr_callVi0 (As := []) (rest := []) (b := o) ctx hKK hP hD hS (c_X8_readItem l g o a (updN (updN (updN (updN (updN (updN (updN sc 16 q) 18 bg) 19 rp) 20 rt) 22 dn) 24 wn) 26 rb) (upA (upA (upA (upA (upA ar 21 kd) 23 hs) 25 pt) 27 rd) 17 td) (show (sc 15) ≤ 200 from by omega) (show q < (sc 15) from by omega) (show MOK (bg, rp, rt, dn, wn, rb, kd, hs, pt, rd) from okd)) gX8_fault_X8_readItem rfl rfl rfl hdX8_readItem ⟨Nat.le_of_ble_eq_true rfl, Nat.le_of_ble_eq_true rfl⟩ (ci := 8) (q0 := 0) rfl rfl hl.1 rfl rfl (Nat.le_of_ble_eq_true rfl) dX8_fault_26 (fun r_4 u_5 H locs hr_4 hP hD hS => ?_)
        have hP : va_P g.1 vwCl (mW g o a (updN (updN (updN (updN (updN (updN (updN sc 16 u_5.2.1) 18 u_5.2.2.1.1) 19 u_5.2.2.1.2.1) 20 u_5.2.2.1.2.2.1) 22 u_5.2.2.1.2.2.2.1) 24 u_5.2.2.1.2.2.2.2.1) 26 u_5.2.2.1.2.2.2.2.2.1) (upA (upA (upA (upA (upA ar 21 u_5.2.2.1.2.2.2.2.2.2.1) 23 u_5.2.2.1.2.2.2.2.2.2.2.1) 25 u_5.2.2.1.2.2.2.2.2.2.2.2.1) 27 u_5.2.2.1.2.2.2.2.2.2.2.2.2) 17 u_5.2.2.2)) H := hP
        have hD : va_D A (mW g o a (updN (updN (updN (updN (updN (updN (updN sc 16 u_5.2.1) 18 u_5.2.2.1.1) 19 u_5.2.2.1.2.1) 20 u_5.2.2.1.2.2.1) 22 u_5.2.2.1.2.2.2.1) 24 u_5.2.2.1.2.2.2.2.1) 26 u_5.2.2.1.2.2.2.2.2.1) (upA (upA (upA (upA (upA ar 21 u_5.2.2.1.2.2.2.2.2.2.1) 23 u_5.2.2.1.2.2.2.2.2.2.2.1) 25 u_5.2.2.1.2.2.2.2.2.2.2.2.1) 27 u_5.2.2.1.2.2.2.2.2.2.2.2.2) 17 u_5.2.2.2)) := hD
        have hr_4 : r_4 = bI u_5.1 ∧ (u_5.1 = true → mIt (ar 14) (sc 15) (q) (bg, rp, rt, dn, wn, rb, kd, hs, pt, rd) = some (u_5.2.1, u_5.2.2.1)) ∧ (u_5.1 = false → mIt (ar 14) (sc 15) (q) (bg, rp, rt, dn, wn, rb, kd, hs, pt, rd) = none) := hr_4
        obtain ⟨rfl, ht_4, hf_4⟩ := hr_4
        have ht_R := ht_4
        have hf_R := hf_4
        refine lv_if_ne (tgt := 34) hx hb dX8_fault_29 (by decide) (fun c_6 => ?_) (fun c_6 => ?_)
        · replace c_6 := bI_t c_6
          refine lv_goto (tgt := 9) hx hb dX8_fault_34 (by decide) ?_
          exact ih9 u_5.2.1 u_5.2.2.1.1 u_5.2.2.1.2.1 u_5.2.2.1.2.2.1 u_5.2.2.1.2.2.2.1 u_5.2.2.1.2.2.2.2.1 u_5.2.2.1.2.2.2.2.2.1 u_5.2.2.1.2.2.2.2.2.2.1 u_5.2.2.1.2.2.2.2.2.2.2.1 u_5.2.2.1.2.2.2.2.2.2.2.2.1 u_5.2.2.1.2.2.2.2.2.2.2.2.2 u_5.2.2.2 (by have hp := mIt_pos (ht_R c_6); dsimp only at hp; omega) ((mIt_pos (ht_R c_6)).2) (mIt_ok okd (ht_R c_6)) (by have hp := mIt_pos (ht_R c_6); rw [ef, show 200 - q = 199 - q + 1 by omega, mff, if_neg (by omega), ht_R c_6]; exact mff_fuel _ _ _ _ (by dsimp only at hp ⊢; omega) (by dsimp only at hp ⊢; omega)) _ _ hP hD hS ls (lv_sub hl [1] rfl)
        · replace c_6 := bI_f c_6
          refine lv_iload_n hx hb dX8_fault_32 rfl (lv_at hl 0 rfl) ?_
          exact hret (nI q) (u_5.2.1, (u_5.2.2.1.1, u_5.2.2.1.2.1, u_5.2.2.1.2.2.1, u_5.2.2.1.2.2.2.1, u_5.2.2.1.2.2.2.2.1, u_5.2.2.1.2.2.2.2.2.1, u_5.2.2.1.2.2.2.2.2.2.1, u_5.2.2.1.2.2.2.2.2.2.2.1, u_5.2.2.1.2.2.2.2.2.2.2.2.1, u_5.2.2.1.2.2.2.2.2.2.2.2.2), u_5.2.2.2) H locs 33 ls (⟨by rw [ef, show 200 - q = 199 - q + 1 by omega, mff, if_neg (by omega), hf_R c_6], fun h => absurd h (nI_nm4 (by omega))⟩) (hP) (hD) hS (rfl) dX8_fault_33
  exact LP9 (sc 15 + 1) 0 0 4 0 0 0 3 (ar 21) (ar 23) (ar 25) zF (ar 17) (by omega) (by omega) (⟨by decide, ⟨by decide, by decide⟩, by decide, by decide, by decide, by decide, fun _ => ⟨rfl, rfl⟩, fun d hd => absurd hd (Nat.not_lt_zero d), fun d hd => absurd hd (Nat.not_lt_zero d), fun d hd => absurd hd (Nat.not_lt_zero d)⟩) (rfl) _ _ hP hD hS ls (lv_sub hl [0] rfl)
theorem kX8_settles_f55 : (Cond.fieldLink RX8 55 "LastCallersWordModel" "readPersons" "I" : Cond) ∈ wsX8_settles := List.mem_cons_of_mem _ aw_302
theorem hX8_settles_X8 : ∀ w ∈ wsX80, w ∈ wsX8_settles := fun w h => List.mem_cons_of_mem _ (ac_X8 w h)
theorem kX8_settles_f82 : (Cond.fieldLink RX8 82 "LastCallersWordModel" "persons" "I" : Cond) ∈ wsX8_settles := List.mem_cons_of_mem _ aw_324
theorem kX8_settles_f7 : (Cond.fieldLink RX8 7 "LastCallersWordModel" "kinds" "[I" : Cond) ∈ wsX8_settles := List.mem_cons_of_mem _ aw_288
theorem kX8_settles_f37 : (Cond.fieldLink RX8 37 "LastCallersWordModel" "readKinds" "[I" : Cond) ∈ wsX8_settles := List.mem_cons_of_mem _ aw_297
theorem kX8_settles_f79 : (Cond.fieldLink RX8 79 "LastCallersWordModel" "readDoors" "I" : Cond) ∈ wsX8_settles := List.mem_cons_of_mem _ aw_311
theorem kX8_settles_f89 : (Cond.fieldLink RX8 89 "LastCallersWordModel" "doors" "I" : Cond) ∈ wsX8_settles := List.mem_cons_of_mem _ aw_325
theorem kX8_settles_f13 : (Cond.fieldLink RX8 13 "LastCallersWordModel" "hosts" "[I" : Cond) ∈ wsX8_settles := List.mem_cons_of_mem _ aw_289
theorem kX8_settles_f40 : (Cond.fieldLink RX8 40 "LastCallersWordModel" "readHosts" "[I" : Cond) ∈ wsX8_settles := List.mem_cons_of_mem _ aw_298
theorem kX8_settles_f67 : (Cond.fieldLink RX8 67 "LastCallersWordModel" "readWords" "I" : Cond) ∈ wsX8_settles := List.mem_cons_of_mem _ aw_303
theorem kX8_settles_f143 : (Cond.fieldLink RX8 143 "LastCallersWordModel" "words" "I" : Cond) ∈ wsX8_settles := List.mem_cons_of_mem _ aw_326
theorem kX8_settles_f16 : (Cond.fieldLink RX8 16 "LastCallersWordModel" "parts" "[I" : Cond) ∈ wsX8_settles := List.mem_cons_of_mem _ aw_290
theorem kX8_settles_f43 : (Cond.fieldLink RX8 43 "LastCallersWordModel" "readParts" "[I" : Cond) ∈ wsX8_settles := List.mem_cons_of_mem _ aw_299
theorem kX8_settles_f70 : (Cond.fieldLink RX8 70 "LastCallersWordModel" "readBars" "I" : Cond) ∈ wsX8_settles := List.mem_cons_of_mem _ aw_304
theorem kX8_settles_f146 : (Cond.fieldLink RX8 146 "LastCallersWordModel" "bars" "I" : Cond) ∈ wsX8_settles := List.mem_cons_of_mem _ aw_327
theorem kX8_settles_f49 : (Cond.fieldLink RX8 49 "LastCallersWordModel" "now" "[I" : Cond) ∈ wsX8_settles := List.mem_cons_of_mem _ aw_301
theorem kX8_settles_f46 : (Cond.fieldLink RX8 46 "LastCallersWordModel" "read" "[I" : Cond) ∈ wsX8_settles := List.mem_cons_of_mem _ aw_300
theorem kX8_settles_f19 : (Cond.fieldLink RX8 19 "LastCallersWordModel" "st" "[I" : Cond) ∈ wsX8_settles := List.mem_cons_of_mem _ aw_291
theorem kX8_settles_f152 : (Cond.fieldLink RX8 152 "LastCallersWordModel" "acts" "I" : Cond) ∈ wsX8_settles := List.mem_cons_of_mem _ aw_328
theorem kX8_settles_f155 : (Cond.fieldLink RX8 155 "LastCallersWordModel" "keeps" "I" : Cond) ∈ wsX8_settles := List.mem_cons_of_mem _ aw_329
theorem kX8_settles_f158 : (Cond.fieldLink RX8 158 "LastCallersWordModel" "seens" "I" : Cond) ∈ wsX8_settles := List.mem_cons_of_mem _ aw_330
set_option maxHeartbeats 400000 in
set_option maxRecDepth 100000 in
theorem c_X8_settles (l : Launch) (g : GG) (o : Nat) (a : Nat → Nat) (sc : Nat → Nat) (ar : Nat → Nat → Int32) (hP8r : sc 19 ≤ 8) (hD5r : sc 22 ≤ 5) (hcl : hsOk (fun d => ar 27 (65 + d)) (sc 19) (sc 22)) : Met l yX8_settles wsX8_settles ({ frames := 4, cells := 0, slots := 0, locals := 96 } : Room) (wr g [.ref o] (mW g o a sc ar)) (wQv g (mW g o a sc ar) (fun u : Unit => (mW g o a (updN (updN (updN (updN (updN (updN (updN sc 0 (sc 19)) 2 (sc 22)) 4 (sc 24)) 6 (sc 26)) 8 0) 10 0) 12 0) (upA (upA (upA (upA (upA ar 1 (ar 21)) 3 (ar 23)) 5 (ar 25)) 28 (mSetL (ar 21) (sc 19) (ar 27) (sc 22))) 7 (mSetL (ar 21) (sc 19) (ar 27) (sc 22))))) (fun u => True)) 0 0 (cA (mW g o a sc ar)) := by
  refine wr_startv (cc := cX8_settles) (maxL := 2) (by decide) rfl (Nat.le_of_ble_eq_true rfl) (fun p e s m args below meth c Q A C hP hD hS hret ls hl => ?_)
  obtain ⟨hx, hb, hml, hr, hown, hts, hlk, hKK⟩ := id C
  have hK := hKK.1
  have hown : s.vm.findClass RX8 = some m.cls := hown
  have ctx : CallFix p m c cX8_settles 2 s args wsX8_settles RX8 := ⟨hx, hb, hml, hown, hts⟩
  have hl : lv_has ls 2 [(0, .ref o)] := hl
  obtain ⟨H, hHe⟩ : ∃ H, H = s.heap := ⟨_, rfl⟩
  obtain ⟨locs, hLe⟩ : ∃ L : List Loc, L = [] := ⟨_, rfl⟩
  have hP : va_P g.1 vwCl (mW g o a sc ar) H := by rw [hHe]; exact hP
  have hS : va_S A s.heap H locs := by rw [hHe, hLe]; exact hS
  suffices hgo : W p l e ({ frames := 4, cells := 0, slots := 0, locals := 96 } : Room) s m args below meth c H locs 0 0 Q (F0 m 0 ls []) by rw [hHe, hLe] at hgo; exact hgo
  clear hHe hLe
  refine lv_aload_n hx hb dX8_settles_0 rfl (lv_at hl 0 rfl) ?_
  refine lv_aload_n hx hb dX8_settles_1 rfl (lv_at hl 0 rfl) ?_
  refine va_get (D := g.1) (cl := vwCl) (ci := 8) (v := .int (nI (sc 19))) (C := RX8) (T := TX8) (N := 29) hx hb hts hX8_settles_X8 hown hK hP 0 rfl rfl 19 (by decide) (hts _ kX8_settles_f55) (fun _ h9 => h9) rfl dX8_settles_2 ?_
  refine va_put (D := g.1) (cl := vwCl) (ci := 8) (v := .int (nI (sc 19))) (ty := .int) (C := RX8) (T := TX8) (N := 29) hx hb hts hX8_settles_X8 tyX8 tyX8_ok nmX8 hown hK hP hD hS 0 rfl rfl 0 (by decide) (hts _ kX8_settles_f82) (fun _ h9 => h9) rfl (by decide +kernel) (rfl) (rfl) (Nat.le_of_ble_eq_true rfl) dX8_settles_5 (fun H locs hP hD hS => ?_)
  have hP : va_P g.1 vwCl (mW g o a (updN sc 0 (sc 19)) ar) H := hP
  have hD : va_D A (mW g o a (updN sc 0 (sc 19)) ar) := hD
  refine lv_aload_n hx hb dX8_settles_8 rfl (lv_at hl 0 rfl) ?_
  refine va_get (D := g.1) (cl := vwCl) (ci := 8) (v := .ref (a 1)) (C := RX8) (T := TX8) (N := 29) hx hb hts hX8_settles_X8 hown hK hP 0 rfl rfl 1 (by decide) (hts _ kX8_settles_f7) (fun _ h9 => h9) rfl dX8_settles_9 ?_
  refine lv_iconst (v := nI 0) hx hb dX8_settles_12 (by decide) ?_
  refine lv_aload_n hx hb dX8_settles_13 rfl (lv_at hl 0 rfl) ?_
  refine va_get (D := g.1) (cl := vwCl) (ci := 8) (v := .ref (a 21)) (C := RX8) (T := TX8) (N := 29) hx hb hts hX8_settles_X8 hown hK hP 0 rfl rfl 21 (by decide) (hts _ kX8_settles_f37) (fun _ h9 => h9) rfl dX8_settles_14 ?_
  refine lv_iconst (v := nI 0) hx hb dX8_settles_17 (by decide) ?_
  refine lv_bipush (v := nI 8) hx hb dX8_settles_18 (by decide) ?_
  refine wr_callSv (As := [.ref (a 1), .int (nI 0), .ref (a 21), .int (nI 0), .int (nI 8)]) (rest := []) ctx hKK hP hD hS (c_X8_copies_8_8_8w l g (a 1) (a 21) (ar 1) (ar 21)) gX8_settles_X8_copies rfl rfl rfl hdX8_copies ⟨Nat.le_of_ble_eq_true rfl, Nat.le_of_ble_eq_true rfl⟩ [1, 10] rfl rfl (fun _ _ => rfl) hl.1 rfl rfl (Nat.le_of_ble_eq_true rfl) dX8_settles_20 (fun u_2 H locs hr_1 hP hD hS => ?_)
  have hP : va_P g.1 vwCl (mW g o a (updN sc 0 (sc 19)) (upA (upA ar 1 (ar 21)) 21 (ar 21))) H := hP
  have hD : va_D A (mW g o a (updN sc 0 (sc 19)) (upA (upA ar 1 (ar 21)) 21 (ar 21))) := hD
  refine lv_aload_n hx hb dX8_settles_23 rfl (lv_at hl 0 rfl) ?_
  refine lv_aload_n hx hb dX8_settles_24 rfl (lv_at hl 0 rfl) ?_
  refine va_get (D := g.1) (cl := vwCl) (ci := 8) (v := .int (nI (sc 22))) (C := RX8) (T := TX8) (N := 29) hx hb hts hX8_settles_X8 hown hK hP 0 rfl rfl 22 (by decide) (hts _ kX8_settles_f79) (fun _ h9 => h9) rfl dX8_settles_25 ?_
  refine va_put (D := g.1) (cl := vwCl) (ci := 8) (v := .int (nI (sc 22))) (ty := .int) (C := RX8) (T := TX8) (N := 29) hx hb hts hX8_settles_X8 tyX8 tyX8_ok nmX8 hown hK hP hD hS 0 rfl rfl 2 (by decide) (hts _ kX8_settles_f89) (fun _ h9 => h9) rfl (by decide +kernel) (rfl) (rfl) (Nat.le_of_ble_eq_true rfl) dX8_settles_28 (fun H locs hP hD hS => ?_)
  have hP : va_P g.1 vwCl (mW g o a (updN (updN sc 0 (sc 19)) 2 (sc 22)) (upA (upA ar 1 (ar 21)) 21 (ar 21))) H := hP
  have hD : va_D A (mW g o a (updN (updN sc 0 (sc 19)) 2 (sc 22)) (upA (upA ar 1 (ar 21)) 21 (ar 21))) := hD
  refine lv_aload_n hx hb dX8_settles_31 rfl (lv_at hl 0 rfl) ?_
  refine va_get (D := g.1) (cl := vwCl) (ci := 8) (v := .ref (a 3)) (C := RX8) (T := TX8) (N := 29) hx hb hts hX8_settles_X8 hown hK hP 0 rfl rfl 3 (by decide) (hts _ kX8_settles_f13) (fun _ h9 => h9) rfl dX8_settles_32 ?_
  refine lv_iconst (v := nI 0) hx hb dX8_settles_35 (by decide) ?_
  refine lv_aload_n hx hb dX8_settles_36 rfl (lv_at hl 0 rfl) ?_
  refine va_get (D := g.1) (cl := vwCl) (ci := 8) (v := .ref (a 23)) (C := RX8) (T := TX8) (N := 29) hx hb hts hX8_settles_X8 hown hK hP 0 rfl rfl 23 (by decide) (hts _ kX8_settles_f40) (fun _ h9 => h9) rfl dX8_settles_37 ?_
  refine lv_iconst (v := nI 0) hx hb dX8_settles_40 (by decide) ?_
  refine lv_iconst (v := nI 5) hx hb dX8_settles_41 (by decide) ?_
  refine wr_callSv (As := [.ref (a 3), .int (nI 0), .ref (a 23), .int (nI 0), .int (nI 5)]) (rest := []) ctx hKK hP hD hS (c_X8_copies_5_5_5w l g (a 3) (a 23) (ar 3) (ar 23)) gX8_settles_X8_copies rfl rfl rfl hdX8_copies ⟨Nat.le_of_ble_eq_true rfl, Nat.le_of_ble_eq_true rfl⟩ [2, 11] rfl rfl (fun _ _ => rfl) hl.1 rfl rfl (Nat.le_of_ble_eq_true rfl) dX8_settles_42 (fun u_4 H locs hr_3 hP hD hS => ?_)
  have hP : va_P g.1 vwCl (mW g o a (updN (updN sc 0 (sc 19)) 2 (sc 22)) (upA (upA (upA (upA ar 1 (ar 21)) 21 (ar 21)) 3 (ar 23)) 23 (ar 23))) H := hP
  have hD : va_D A (mW g o a (updN (updN sc 0 (sc 19)) 2 (sc 22)) (upA (upA (upA (upA ar 1 (ar 21)) 21 (ar 21)) 3 (ar 23)) 23 (ar 23))) := hD
  refine lv_aload_n hx hb dX8_settles_45 rfl (lv_at hl 0 rfl) ?_
  refine lv_aload_n hx hb dX8_settles_46 rfl (lv_at hl 0 rfl) ?_
  refine va_get (D := g.1) (cl := vwCl) (ci := 8) (v := .int (nI (sc 24))) (C := RX8) (T := TX8) (N := 29) hx hb hts hX8_settles_X8 hown hK hP 0 rfl rfl 24 (by decide) (hts _ kX8_settles_f67) (fun _ h9 => h9) rfl dX8_settles_47 ?_
  refine va_put (D := g.1) (cl := vwCl) (ci := 8) (v := .int (nI (sc 24))) (ty := .int) (C := RX8) (T := TX8) (N := 29) hx hb hts hX8_settles_X8 tyX8 tyX8_ok nmX8 hown hK hP hD hS 0 rfl rfl 4 (by decide) (hts _ kX8_settles_f143) (fun _ h9 => h9) rfl (by decide +kernel) (rfl) (rfl) (Nat.le_of_ble_eq_true rfl) dX8_settles_50 (fun H locs hP hD hS => ?_)
  have hP : va_P g.1 vwCl (mW g o a (updN (updN (updN sc 0 (sc 19)) 2 (sc 22)) 4 (sc 24)) (upA (upA (upA (upA ar 1 (ar 21)) 21 (ar 21)) 3 (ar 23)) 23 (ar 23))) H := hP
  have hD : va_D A (mW g o a (updN (updN (updN sc 0 (sc 19)) 2 (sc 22)) 4 (sc 24)) (upA (upA (upA (upA ar 1 (ar 21)) 21 (ar 21)) 3 (ar 23)) 23 (ar 23))) := hD
  refine lv_aload_n hx hb dX8_settles_53 rfl (lv_at hl 0 rfl) ?_
  refine va_get (D := g.1) (cl := vwCl) (ci := 8) (v := .ref (a 5)) (C := RX8) (T := TX8) (N := 29) hx hb hts hX8_settles_X8 hown hK hP 0 rfl rfl 5 (by decide) (hts _ kX8_settles_f16) (fun _ h9 => h9) rfl dX8_settles_54 ?_
  refine lv_iconst (v := nI 0) hx hb dX8_settles_57 (by decide) ?_
  refine lv_aload_n hx hb dX8_settles_58 rfl (lv_at hl 0 rfl) ?_
  refine va_get (D := g.1) (cl := vwCl) (ci := 8) (v := .ref (a 25)) (C := RX8) (T := TX8) (N := 29) hx hb hts hX8_settles_X8 hown hK hP 0 rfl rfl 25 (by decide) (hts _ kX8_settles_f43) (fun _ h9 => h9) rfl dX8_settles_59 ?_
  refine lv_iconst (v := nI 0) hx hb dX8_settles_62 (by decide) ?_
  refine lv_bipush (v := nI 6) hx hb dX8_settles_63 (by decide) ?_
  refine wr_callSv (As := [.ref (a 5), .int (nI 0), .ref (a 25), .int (nI 0), .int (nI 6)]) (rest := []) ctx hKK hP hD hS (c_X8_copies_6_6_6w l g (a 5) (a 25) (ar 5) (ar 25)) gX8_settles_X8_copies rfl rfl rfl hdX8_copies ⟨Nat.le_of_ble_eq_true rfl, Nat.le_of_ble_eq_true rfl⟩ [3, 12] rfl rfl (fun _ _ => rfl) hl.1 rfl rfl (Nat.le_of_ble_eq_true rfl) dX8_settles_65 (fun u_6 H locs hr_5 hP hD hS => ?_)
  have hP : va_P g.1 vwCl (mW g o a (updN (updN (updN sc 0 (sc 19)) 2 (sc 22)) 4 (sc 24)) (upA (upA (upA (upA (upA (upA ar 1 (ar 21)) 21 (ar 21)) 3 (ar 23)) 23 (ar 23)) 5 (ar 25)) 25 (ar 25))) H := hP
  have hD : va_D A (mW g o a (updN (updN (updN sc 0 (sc 19)) 2 (sc 22)) 4 (sc 24)) (upA (upA (upA (upA (upA (upA ar 1 (ar 21)) 21 (ar 21)) 3 (ar 23)) 23 (ar 23)) 5 (ar 25)) 25 (ar 25))) := hD
  refine lv_aload_n hx hb dX8_settles_68 rfl (lv_at hl 0 rfl) ?_
  refine lv_aload_n hx hb dX8_settles_69 rfl (lv_at hl 0 rfl) ?_
  refine va_get (D := g.1) (cl := vwCl) (ci := 8) (v := .int (nI (sc 26))) (C := RX8) (T := TX8) (N := 29) hx hb hts hX8_settles_X8 hown hK hP 0 rfl rfl 26 (by decide) (hts _ kX8_settles_f70) (fun _ h9 => h9) rfl dX8_settles_70 ?_
  refine va_put (D := g.1) (cl := vwCl) (ci := 8) (v := .int (nI (sc 26))) (ty := .int) (C := RX8) (T := TX8) (N := 29) hx hb hts hX8_settles_X8 tyX8 tyX8_ok nmX8 hown hK hP hD hS 0 rfl rfl 6 (by decide) (hts _ kX8_settles_f146) (fun _ h9 => h9) rfl (by decide +kernel) (rfl) (rfl) (Nat.le_of_ble_eq_true rfl) dX8_settles_73 (fun H locs hP hD hS => ?_)
  have hP : va_P g.1 vwCl (mW g o a (updN (updN (updN (updN sc 0 (sc 19)) 2 (sc 22)) 4 (sc 24)) 6 (sc 26)) (upA (upA (upA (upA (upA (upA ar 1 (ar 21)) 21 (ar 21)) 3 (ar 23)) 23 (ar 23)) 5 (ar 25)) 25 (ar 25))) H := hP
  have hD : va_D A (mW g o a (updN (updN (updN (updN sc 0 (sc 19)) 2 (sc 22)) 4 (sc 24)) 6 (sc 26)) (upA (upA (upA (upA (upA (upA ar 1 (ar 21)) 21 (ar 21)) 3 (ar 23)) 23 (ar 23)) 5 (ar 25)) 25 (ar 25))) := hD
  refine lv_aload_n hx hb dX8_settles_76 rfl (lv_at hl 0 rfl) ?_
  refine va_get (D := g.1) (cl := vwCl) (ci := 8) (v := .ref (a 28)) (C := RX8) (T := TX8) (N := 29) hx hb hts hX8_settles_X8 hown hK hP 0 rfl rfl 28 (by decide) (hts _ kX8_settles_f49) (fun _ h9 => h9) rfl dX8_settles_77 ?_
  refine lv_iconst (v := nI 0) hx hb dX8_settles_80 (by decide) ?_
  refine lv_aload_n hx hb dX8_settles_81 rfl (lv_at hl 0 rfl) ?_
  refine va_get (D := g.1) (cl := vwCl) (ci := 8) (v := .ref (a 27)) (C := RX8) (T := TX8) (N := 29) hx hb hts hX8_settles_X8 hown hK hP 0 rfl rfl 27 (by decide) (hts _ kX8_settles_f46) (fun _ h9 => h9) rfl dX8_settles_82 ?_
  refine lv_iconst (v := nI 0) hx hb dX8_settles_85 (by decide) ?_
  refine lv_bipush (v := nI 115) hx hb dX8_settles_86 (by decide) ?_
  refine wr_callSv (As := [.ref (a 28), .int (nI 0), .ref (a 27), .int (nI 0), .int (nI 115)]) (rest := []) ctx hKK hP hD hS (c_X8_copies_115_115_115w l g (a 28) (a 27) (ar 28) (ar 27)) gX8_settles_X8_copies rfl rfl rfl hdX8_copies ⟨Nat.le_of_ble_eq_true rfl, Nat.le_of_ble_eq_true rfl⟩ [14, 13] rfl rfl (fun _ _ => rfl) hl.1 rfl rfl (Nat.le_of_ble_eq_true rfl) dX8_settles_88 (fun u_8 H locs hr_7 hP hD hS => ?_)
  have hP : va_P g.1 vwCl (mW g o a (updN (updN (updN (updN sc 0 (sc 19)) 2 (sc 22)) 4 (sc 24)) 6 (sc 26)) (upA (upA (upA (upA (upA (upA (upA (upA ar 1 (ar 21)) 21 (ar 21)) 3 (ar 23)) 23 (ar 23)) 5 (ar 25)) 25 (ar 25)) 28 (ar 27)) 27 (ar 27))) H := hP
  have hD : va_D A (mW g o a (updN (updN (updN (updN sc 0 (sc 19)) 2 (sc 22)) 4 (sc 24)) 6 (sc 26)) (upA (upA (upA (upA (upA (upA (upA (upA ar 1 (ar 21)) 21 (ar 21)) 3 (ar 23)) 23 (ar 23)) 5 (ar 25)) 25 (ar 25)) 28 (ar 27)) 27 (ar 27))) := hD
  refine lv_iconst (v := nI 0) hx hb dX8_settles_91 (by decide) ?_
  refine lv_istore_n (lv' := [(1, .int (nI 0)), (0, .ref o)]) hx hb dX8_settles_92 rfl hl (by decide) rfl (fun ls hl => ?_)
  have LP93 : ∀ (fu : Nat) (j : Nat) (f : Nat → Int32), sc 22 - j < fu → (j ≤ sc 22) → (f = mSetL (ar 21) (sc 19) (ar 27) j) → ∀ (H : Heap) (locs : List Loc), va_P g.1 vwCl (mW g o a (updN (updN (updN (updN sc 0 (sc 19)) 2 (sc 22)) 4 (sc 24)) 6 (sc 26)) (upA (upA (upA (upA (upA (upA (upA (upA ar 1 (ar 21)) 21 (ar 21)) 3 (ar 23)) 23 (ar 23)) 5 (ar 25)) 25 (ar 25)) 27 (ar 27)) 28 f)) H → va_D A (mW g o a (updN (updN (updN (updN sc 0 (sc 19)) 2 (sc 22)) 4 (sc 24)) 6 (sc 26)) (upA (upA (upA (upA (upA (upA (upA (upA ar 1 (ar 21)) 21 (ar 21)) 3 (ar 23)) 23 (ar 23)) 5 (ar 25)) 25 (ar 25)) 27 (ar 27)) 28 f)) → va_S A s.heap H locs → ∀ (ls : Array Slot), lv_has ls 2 [(1, .int (nI j)), (0, .ref o)] → W p l e ({ frames := 4, cells := 0, slots := 0, locals := 96 } : Room) s m args below meth c H locs 0 0 Q (F0 m 93 ls []) := by
    intro fu
    induction fu with
    | zero => intro j f hfu; exact absurd hfu (Nat.not_lt_zero _)
    | succ fu ih93 =>
      intro j f hfu hj ef H locs hP hD hS ls hl
      refine lv_iload_n hx hb dX8_settles_93 rfl (lv_at hl 0 rfl) ?_
      refine lv_aload_n hx hb dX8_settles_94 rfl (lv_at hl 1 rfl) ?_
      refine va_get (D := g.1) (cl := vwCl) (ci := 8) (v := .int (nI (sc 22))) (C := RX8) (T := TX8) (N := 29) hx hb hts hX8_settles_X8 hown hK hP 0 rfl rfl 2 (by decide) (hts _ kX8_settles_f89) (fun _ h9 => h9) rfl dX8_settles_95 ?_
      refine lv_icmp_ge (tgt := 121) hx hb dX8_settles_98 (by decide) (fun c_9 => ?_) (fun c_9 => ?_)
      · replace c_9 : (sc 22) ≤ j := (nI_leI (a := sc 22) (b := j) (by omega) (by omega)).mp c_9
        rw [show j = sc 22 by omega] at ef
        subst ef
        have hP : va_P g.1 vwCl (mW g o a (updN (updN (updN (updN sc 0 (sc 19)) 2 (sc 22)) 4 (sc 24)) 6 (sc 26)) (upA (upA (upA (upA (upA (upA (upA (upA ar 1 (ar 21)) 21 (ar 21)) 3 (ar 23)) 23 (ar 23)) 5 (ar 25)) 25 (ar 25)) 27 (ar 27)) 28 (mSetL (ar 21) (sc 19) (ar 27) (sc 22)))) H := hP
        have hD : va_D A (mW g o a (updN (updN (updN (updN sc 0 (sc 19)) 2 (sc 22)) 4 (sc 24)) 6 (sc 26)) (upA (upA (upA (upA (upA (upA (upA (upA ar 1 (ar 21)) 21 (ar 21)) 3 (ar 23)) 23 (ar 23)) 5 (ar 25)) 25 (ar 25)) 27 (ar 27)) 28 (mSetL (ar 21) (sc 19) (ar 27) (sc 22)))) := hD
        refine lv_aload_n hx hb dX8_settles_121 rfl (lv_at hl 1 rfl) ?_
        refine va_get (D := g.1) (cl := vwCl) (ci := 8) (v := .ref (a 7)) (C := RX8) (T := TX8) (N := 29) hx hb hts hX8_settles_X8 hown hK hP 0 rfl rfl 7 (by decide) (hts _ kX8_settles_f19) (fun _ h9 => h9) rfl dX8_settles_122 ?_
        refine lv_iconst (v := nI 0) hx hb dX8_settles_125 (by decide) ?_
        refine lv_aload_n hx hb dX8_settles_126 rfl (lv_at hl 1 rfl) ?_
        refine va_get (D := g.1) (cl := vwCl) (ci := 8) (v := .ref (a 28)) (C := RX8) (T := TX8) (N := 29) hx hb hts hX8_settles_X8 hown hK hP 0 rfl rfl 28 (by decide) (hts _ kX8_settles_f49) (fun _ h9 => h9) rfl dX8_settles_127 ?_
        refine lv_iconst (v := nI 0) hx hb dX8_settles_130 (by decide) ?_
        refine lv_bipush (v := nI 115) hx hb dX8_settles_131 (by decide) ?_
        refine wr_callSv (As := [.ref (a 7), .int (nI 0), .ref (a 28), .int (nI 0), .int (nI 115)]) (rest := []) ctx hKK hP hD hS (c_X8_copies_115_115_115w l g (a 7) (a 28) (ar 7) (mSetL (ar 21) (sc 19) (ar 27) (sc 22))) gX8_settles_X8_copies rfl rfl rfl hdX8_copies ⟨Nat.le_of_ble_eq_true rfl, Nat.le_of_ble_eq_true rfl⟩ [4, 14] rfl rfl (fun _ _ => rfl) hl.1 rfl rfl (Nat.le_of_ble_eq_true rfl) dX8_settles_133 (fun u_11 H locs hr_10 hP hD hS => ?_)
        have hP : va_P g.1 vwCl (mW g o a (updN (updN (updN (updN sc 0 (sc 19)) 2 (sc 22)) 4 (sc 24)) 6 (sc 26)) (upA (upA (upA (upA (upA (upA (upA (upA (upA ar 1 (ar 21)) 21 (ar 21)) 3 (ar 23)) 23 (ar 23)) 5 (ar 25)) 25 (ar 25)) 27 (ar 27)) 7 (mSetL (ar 21) (sc 19) (ar 27) (sc 22))) 28 (mSetL (ar 21) (sc 19) (ar 27) (sc 22)))) H := hP
        have hD : va_D A (mW g o a (updN (updN (updN (updN sc 0 (sc 19)) 2 (sc 22)) 4 (sc 24)) 6 (sc 26)) (upA (upA (upA (upA (upA (upA (upA (upA (upA ar 1 (ar 21)) 21 (ar 21)) 3 (ar 23)) 23 (ar 23)) 5 (ar 25)) 25 (ar 25)) 27 (ar 27)) 7 (mSetL (ar 21) (sc 19) (ar 27) (sc 22))) 28 (mSetL (ar 21) (sc 19) (ar 27) (sc 22)))) := hD
        refine lv_aload_n hx hb dX8_settles_136 rfl (lv_at hl 1 rfl) ?_
        refine lv_iconst (v := nI 0) hx hb dX8_settles_137 (by decide) ?_
        refine va_put (D := g.1) (cl := vwCl) (ci := 8) (v := .int (nI 0)) (ty := .int) (C := RX8) (T := TX8) (N := 29) hx hb hts hX8_settles_X8 tyX8 tyX8_ok nmX8 hown hK hP hD hS 0 rfl rfl 8 (by decide) (hts _ kX8_settles_f152) (fun _ h9 => h9) rfl (by decide +kernel) (rfl) (rfl) (Nat.le_of_ble_eq_true rfl) dX8_settles_138 (fun H locs hP hD hS => ?_)
        have hP : va_P g.1 vwCl (mW g o a (updN (updN (updN (updN (updN sc 0 (sc 19)) 2 (sc 22)) 4 (sc 24)) 6 (sc 26)) 8 0) (upA (upA (upA (upA (upA (upA (upA (upA (upA ar 1 (ar 21)) 21 (ar 21)) 3 (ar 23)) 23 (ar 23)) 5 (ar 25)) 25 (ar 25)) 27 (ar 27)) 7 (mSetL (ar 21) (sc 19) (ar 27) (sc 22))) 28 (mSetL (ar 21) (sc 19) (ar 27) (sc 22)))) H := hP
        have hD : va_D A (mW g o a (updN (updN (updN (updN (updN sc 0 (sc 19)) 2 (sc 22)) 4 (sc 24)) 6 (sc 26)) 8 0) (upA (upA (upA (upA (upA (upA (upA (upA (upA ar 1 (ar 21)) 21 (ar 21)) 3 (ar 23)) 23 (ar 23)) 5 (ar 25)) 25 (ar 25)) 27 (ar 27)) 7 (mSetL (ar 21) (sc 19) (ar 27) (sc 22))) 28 (mSetL (ar 21) (sc 19) (ar 27) (sc 22)))) := hD
        refine lv_aload_n hx hb dX8_settles_141 rfl (lv_at hl 1 rfl) ?_
        refine lv_iconst (v := nI 0) hx hb dX8_settles_142 (by decide) ?_
        refine va_put (D := g.1) (cl := vwCl) (ci := 8) (v := .int (nI 0)) (ty := .int) (C := RX8) (T := TX8) (N := 29) hx hb hts hX8_settles_X8 tyX8 tyX8_ok nmX8 hown hK hP hD hS 0 rfl rfl 10 (by decide) (hts _ kX8_settles_f155) (fun _ h9 => h9) rfl (by decide +kernel) (rfl) (rfl) (Nat.le_of_ble_eq_true rfl) dX8_settles_143 (fun H locs hP hD hS => ?_)
        have hP : va_P g.1 vwCl (mW g o a (updN (updN (updN (updN (updN (updN sc 0 (sc 19)) 2 (sc 22)) 4 (sc 24)) 6 (sc 26)) 8 0) 10 0) (upA (upA (upA (upA (upA (upA (upA (upA (upA ar 1 (ar 21)) 21 (ar 21)) 3 (ar 23)) 23 (ar 23)) 5 (ar 25)) 25 (ar 25)) 27 (ar 27)) 7 (mSetL (ar 21) (sc 19) (ar 27) (sc 22))) 28 (mSetL (ar 21) (sc 19) (ar 27) (sc 22)))) H := hP
        have hD : va_D A (mW g o a (updN (updN (updN (updN (updN (updN sc 0 (sc 19)) 2 (sc 22)) 4 (sc 24)) 6 (sc 26)) 8 0) 10 0) (upA (upA (upA (upA (upA (upA (upA (upA (upA ar 1 (ar 21)) 21 (ar 21)) 3 (ar 23)) 23 (ar 23)) 5 (ar 25)) 25 (ar 25)) 27 (ar 27)) 7 (mSetL (ar 21) (sc 19) (ar 27) (sc 22))) 28 (mSetL (ar 21) (sc 19) (ar 27) (sc 22)))) := hD
        refine lv_aload_n hx hb dX8_settles_146 rfl (lv_at hl 1 rfl) ?_
        refine lv_iconst (v := nI 0) hx hb dX8_settles_147 (by decide) ?_
        refine va_put (D := g.1) (cl := vwCl) (ci := 8) (v := .int (nI 0)) (ty := .int) (C := RX8) (T := TX8) (N := 29) hx hb hts hX8_settles_X8 tyX8 tyX8_ok nmX8 hown hK hP hD hS 0 rfl rfl 12 (by decide) (hts _ kX8_settles_f158) (fun _ h9 => h9) rfl (by decide +kernel) (rfl) (rfl) (Nat.le_of_ble_eq_true rfl) dX8_settles_148 (fun H locs hP hD hS => ?_)
        have hP : va_P g.1 vwCl (mW g o a (updN (updN (updN (updN (updN (updN (updN sc 0 (sc 19)) 2 (sc 22)) 4 (sc 24)) 6 (sc 26)) 8 0) 10 0) 12 0) (upA (upA (upA (upA (upA (upA (upA (upA (upA ar 1 (ar 21)) 21 (ar 21)) 3 (ar 23)) 23 (ar 23)) 5 (ar 25)) 25 (ar 25)) 27 (ar 27)) 7 (mSetL (ar 21) (sc 19) (ar 27) (sc 22))) 28 (mSetL (ar 21) (sc 19) (ar 27) (sc 22)))) H := hP
        have hD : va_D A (mW g o a (updN (updN (updN (updN (updN (updN (updN sc 0 (sc 19)) 2 (sc 22)) 4 (sc 24)) 6 (sc 26)) 8 0) 10 0) 12 0) (upA (upA (upA (upA (upA (upA (upA (upA (upA ar 1 (ar 21)) 21 (ar 21)) 3 (ar 23)) 23 (ar 23)) 5 (ar 25)) 25 (ar 25)) 27 (ar 27)) 7 (mSetL (ar 21) (sc 19) (ar 27) (sc 22))) 28 (mSetL (ar 21) (sc 19) (ar 27) (sc 22)))) := hD
        exact hret () H locs 151 ls (trivial) (hP) (hD) hS dX8_settles_151
      · replace c_9 : ¬ (sc 22) ≤ j := fun h => c_9 ((nI_leI (a := sc 22) (b := j) (by omega) (by omega)).mpr h)
        have hso := mSetL_ok hcl hP8r hD5r (show j < sc 22 by omega) ef
        refine lv_aload_n hx hb dX8_settles_101 rfl (lv_at hl 1 rfl) ?_
        refine lv_aload_n hx hb dX8_settles_102 rfl (lv_at hl 1 rfl) ?_
        refine va_get (D := g.1) (cl := vwCl) (ci := 8) (v := .ref (a 28)) (C := RX8) (T := TX8) (N := 29) hx hb hts hX8_settles_X8 hown hK hP 0 rfl rfl 28 (by decide) (hts _ kX8_settles_f49) (fun _ h9 => h9) rfl dX8_settles_103 ?_
        refine lv_bipush (v := nI 65) hx hb dX8_settles_106 (by decide) ?_
        refine lv_iload_n hx hb dX8_settles_108 rfl (lv_at hl 0 rfl) ?_
        refine lv_iadd hx hb dX8_settles_109 ?_
        refine lv_is (nI_add 65 j) ?_
        refine ald_i (D := g.1) (cl := vwCl) (f := f) (i := 65 + j) (n := 115) hx hb hK hP 14 0 rfl rfl (by omega) (by decide) dX8_settles_110 ?_
        refine lv_is (nI_cl hso.1) ?_
        refine lv_iload_n hx hb dX8_settles_111 rfl (lv_at hl 0 rfl) ?_
        refine wr_callVv0 (As := [.int (nI ((f (65 + j)).toNatClampNeg)), .int (nI j)]) (rest := []) (b := o) ctx hKK hP hD hS (c_X8_calls l g o a (updN (updN (updN (updN sc 0 (sc 19)) 2 (sc 22)) 4 (sc 24)) 6 (sc 26)) (upA (upA (upA (upA (upA (upA (upA (upA ar 1 (ar 21)) 21 (ar 21)) 3 (ar 23)) 23 (ar 23)) 5 (ar 25)) 25 (ar 25)) 27 (ar 27)) 28 f) ((f (65 + j)).toNatClampNeg) j (show (sc 19) ≤ 8 from by omega) (show ((f (65 + j)).toNatClampNeg) < 8 from by omega) (show j < 5 from by omega)) gX8_settles_X8_calls rfl rfl rfl hdX8_calls ⟨Nat.le_of_ble_eq_true rfl, Nat.le_of_ble_eq_true rfl⟩ (ci := 8) (q0 := 0) rfl rfl hl.1 rfl rfl (Nat.le_of_ble_eq_true rfl) dX8_settles_112 (fun u_13 H locs hr_12 hP hD hS => ?_)
        have hP : va_P g.1 vwCl (mW g o a (updN (updN (updN (updN sc 0 (sc 19)) 2 (sc 22)) 4 (sc 24)) 6 (sc 26)) (upA (upA (upA (upA (upA (upA (upA (upA ar 1 (ar 21)) 21 (ar 21)) 3 (ar 23)) 23 (ar 23)) 5 (ar 25)) 25 (ar 25)) 27 (ar 27)) 28 (mCallW (ar 21) (sc 19) (f) ((f (65 + j)).toNatClampNeg) j))) H := hP
        have hD : va_D A (mW g o a (updN (updN (updN (updN sc 0 (sc 19)) 2 (sc 22)) 4 (sc 24)) 6 (sc 26)) (upA (upA (upA (upA (upA (upA (upA (upA ar 1 (ar 21)) 21 (ar 21)) 3 (ar 23)) 23 (ar 23)) 5 (ar 25)) 25 (ar 25)) 27 (ar 27)) 28 (mCallW (ar 21) (sc 19) (f) ((f (65 + j)).toNatClampNeg) j))) := hD
        refine lv_iinc (v := nI (j + 1)) (lv' := [(1, .int (nI (j + 1))), (0, .ref o)]) hx hb dX8_settles_115 hl (k := 0) rfl (iincK j 1) (by decide) rfl (fun ls hl => ?_)
        refine lv_goto (tgt := 93) hx hb dX8_settles_118 (by decide) ?_
        exact ih93 (j + 1) (mCallW (ar 21) (sc 19) (f) ((f (65 + j)).toNatClampNeg) j) (by omega) (by omega) (by rw [mSetL, ← ef]) _ _ hP hD hS ls (lv_sub hl [0, 1] rfl)
  exact LP93 (sc 22 + 1) 0 (ar 27) (by omega) (by omega) (rfl) _ _ hP hD hS ls (lv_sub hl [0, 1] rfl)
theorem kX8_lay_f76 : (Cond.fieldLink RX8 76 "LastCallersWordModel" "readTold" "I" : Cond) ∈ wsX8_lay := List.mem_cons_of_mem _ aw_310
theorem hX8_lay_X8 : ∀ w ∈ wsX80, w ∈ wsX8_lay := fun w h => List.mem_cons_of_mem _ (ac_X8 w h)
theorem kX8_lay_f55 : (Cond.fieldLink RX8 55 "LastCallersWordModel" "readPersons" "I" : Cond) ∈ wsX8_lay := List.mem_cons_of_mem _ aw_302
theorem kX8_lay_f79 : (Cond.fieldLink RX8 79 "LastCallersWordModel" "readDoors" "I" : Cond) ∈ wsX8_lay := List.mem_cons_of_mem _ aw_311
theorem kX8_lay_f89 : (Cond.fieldLink RX8 89 "LastCallersWordModel" "doors" "I" : Cond) ∈ wsX8_lay := List.mem_cons_of_mem _ aw_325
set_option maxHeartbeats 400000 in
set_option maxRecDepth 100000 in
theorem c_X8_lay (l : Launch) (g : GG) (o : Nat) (a : Nat → Nat) (sc : Nat → Nat) (ar : Nat → Nat → Int32) (hT : sc 15 ≤ 200) : Met l yX8_lay wsX8_lay ({ frames := 6, cells := 0, slots := 0, locals := 127 } : Room) (wr g [.ref o] (mW g o a sc ar)) (wQi g (mW g o a sc ar) (fun u : (Nat → Nat) × (Nat → Nat → Int32) => (mW g o a u.1 u.2)) (fun rr u => rr = (if mLayOk (mff (ar 14) (sc 15) 200 0 (mD0 ar)) = true then nI ((mff (ar 14) (sc 15) 200 0 (mD0 ar)).2.2.2.2.1) else -2) ∧ (mLayOk (mff (ar 14) (sc 15) 200 0 (mD0 ar)) = true → mLayY sc ar (mff (ar 14) (sc 15) 200 0 (mD0 ar)).2 u.1 u.2) ∧ (mLayOk (mff (ar 14) (sc 15) 200 0 (mD0 ar)) = false → mSame sc ar u.1 u.2))) 0 0 (cA (mW g o a sc ar)) := by
  refine wr_starti (cc := cX8_lay) (maxL := 1) (ty := .int) (by decide) rfl (Nat.le_of_ble_eq_true rfl) (fun p e s m args below meth c Q A C hP hD hS hret ls hl => ?_)
  obtain ⟨hx, hb, hml, hr, hown, hts, hlk, hKK⟩ := id C
  have hK := hKK.1
  have hown : s.vm.findClass RX8 = some m.cls := hown
  have ctx : CallFix p m c cX8_lay 1 s args wsX8_lay RX8 := ⟨hx, hb, hml, hown, hts⟩
  have hl : lv_has ls 1 [(0, .ref o)] := hl
  obtain ⟨H, hHe⟩ : ∃ H, H = s.heap := ⟨_, rfl⟩
  obtain ⟨locs, hLe⟩ : ∃ L : List Loc, L = [] := ⟨_, rfl⟩
  have hP : va_P g.1 vwCl (mW g o a sc ar) H := by rw [hHe]; exact hP
  have hS : va_S A s.heap H locs := by rw [hHe, hLe]; exact hS
  suffices hgo : W p l e ({ frames := 6, cells := 0, slots := 0, locals := 127 } : Room) s m args below meth c H locs 0 0 Q (F0 m 0 ls []) by rw [hHe, hLe] at hgo; exact hgo
  clear hHe hLe
  refine lv_aload_n hx hb dX8_lay_0 rfl (lv_at hl 0 rfl) ?_
  refine wr_callVi0 (As := []) (rest := []) (b := o) ctx hKK hP hD hS (c_X8_fault l g o a sc ar (show (sc 15) ≤ 200 from by omega)) gX8_lay_X8_fault rfl rfl rfl hdX8_fault ⟨Nat.le_of_ble_eq_true rfl, Nat.le_of_ble_eq_true rfl⟩ (ci := 8) (q0 := 0) rfl rfl hl.1 rfl rfl (Nat.le_of_ble_eq_true rfl) dX8_lay_1 (fun r_1 u_2 H locs hr_1 hP hD hS => ?_)
  have hP : va_P g.1 vwCl (mW g o a (updN (updN (updN (updN (updN (updN (updN sc 16 u_2.1) 18 u_2.2.1.1) 19 u_2.2.1.2.1) 20 u_2.2.1.2.2.1) 22 u_2.2.1.2.2.2.1) 24 u_2.2.1.2.2.2.2.1) 26 u_2.2.1.2.2.2.2.2.1) (upA (upA (upA (upA (upA ar 21 u_2.2.1.2.2.2.2.2.2.1) 23 u_2.2.1.2.2.2.2.2.2.2.1) 25 u_2.2.1.2.2.2.2.2.2.2.2.1) 27 u_2.2.1.2.2.2.2.2.2.2.2.2) 17 u_2.2.2)) H := hP
  have hD : va_D A (mW g o a (updN (updN (updN (updN (updN (updN (updN sc 16 u_2.1) 18 u_2.2.1.1) 19 u_2.2.1.2.1) 20 u_2.2.1.2.2.1) 22 u_2.2.1.2.2.2.1) 24 u_2.2.1.2.2.2.2.1) 26 u_2.2.1.2.2.2.2.2.1) (upA (upA (upA (upA (upA ar 21 u_2.2.1.2.2.2.2.2.2.1) 23 u_2.2.1.2.2.2.2.2.2.2.1) 25 u_2.2.1.2.2.2.2.2.2.2.2.1) 27 u_2.2.1.2.2.2.2.2.2.2.2.2) 17 u_2.2.2)) := hD
  have hr_1 : r_1 = (mff (ar 14) (sc 15) 200 0 (mD0 ar)).1 ∧ (r_1 = -4 → u_2.2.1 = (mff (ar 14) (sc 15) 200 0 (mD0 ar)).2 ∧ MOK u_2.2.1) := hr_1
  obtain ⟨hr_1, hd_1⟩ := hr_1
  refine lv_bipush (v := (-4)) hx hb dX8_lay_4 (by decide) ?_
  refine lv_icmp_ne (tgt := 27) hx hb dX8_lay_6 (by decide) (fun c_3 => ?_) (fun c_3 => ?_)
  · refine lv_bipush (v := (-2)) hx hb dX8_lay_27 (by decide) ?_
    exact hret (-2) ((updN (updN (updN (updN (updN (updN (updN sc 16 u_2.1) 18 u_2.2.1.1) 19 u_2.2.1.2.1) 20 u_2.2.1.2.2.1) 22 u_2.2.1.2.2.2.1) 24 u_2.2.1.2.2.2.2.1) 26 u_2.2.1.2.2.2.2.2.1), (upA (upA (upA (upA (upA ar 21 u_2.2.1.2.2.2.2.2.2.1) 23 u_2.2.1.2.2.2.2.2.2.2.1) 25 u_2.2.1.2.2.2.2.2.2.2.2.1) 27 u_2.2.1.2.2.2.2.2.2.2.2.2) 17 u_2.2.2)) H locs 29 ls (by have no : mLayOk (mff (ar 14) (sc 15) 200 0 (mD0 ar)) = false := (by rw [mLayOk]; exact decide_eq_false (fun h => absurd (hr_1.trans h.1) c_3)); exact ⟨by rw [if_neg (by rw [no]; decide)], fun h => absurd h (by rw [no]; decide), fun _ => ⟨rfl, rfl, rfl, rfl, rfl, rfl, rfl, rfl, rfl, rfl, rfl, rfl, rfl, rfl, rfl, rfl⟩⟩) (hP) (hD) hS (rfl) dX8_lay_29
  · have okk := (hd_1 c_3).2
    have ok2 : u_2.2.1.2.1 ≤ 8 := okk.2.1.2
    have ok3 : u_2.2.1.2.2.1 ≤ u_2.2.1.2.1 := okk.2.2.1
    have ok4 : u_2.2.1.2.2.2.1 ≤ 5 := okk.2.2.2.1
    have ok9 : hsOk (fun d => u_2.2.1.2.2.2.2.2.2.2.2.2 (65 + d)) u_2.2.1.2.1 u_2.2.1.2.2.2.1 := okk.2.2.2.2.2.2.2.2.1
    refine lv_aload_n hx hb dX8_lay_9 rfl (lv_at hl 0 rfl) ?_
    refine va_get (D := g.1) (cl := vwCl) (ci := 8) (v := .int (nI u_2.2.1.2.2.1)) (C := RX8) (T := TX8) (N := 29) hx hb hts hX8_lay_X8 hown hK hP 0 rfl rfl 20 (by decide) (hts _ kX8_lay_f76) (fun _ h9 => h9) rfl dX8_lay_10 ?_
    refine lv_aload_n hx hb dX8_lay_13 rfl (lv_at hl 0 rfl) ?_
    refine va_get (D := g.1) (cl := vwCl) (ci := 8) (v := .int (nI u_2.2.1.2.1)) (C := RX8) (T := TX8) (N := 29) hx hb hts hX8_lay_X8 hown hK hP 0 rfl rfl 19 (by decide) (hts _ kX8_lay_f55) (fun _ h9 => h9) rfl dX8_lay_14 ?_
    refine lv_icmp_ne (tgt := 27) hx hb dX8_lay_17 (by decide) (fun c_4 => ?_) (fun c_4 => ?_)
    · replace c_4 : ¬ u_2.2.1.2.2.1 = u_2.2.1.2.1 := fun h => c_4 ((nI_eq (a := u_2.2.1.2.2.1) (b := u_2.2.1.2.1) (by omega) (by omega)).mpr h)
      refine lv_bipush (v := (-2)) hx hb dX8_lay_27 (by decide) ?_
      exact hret (-2) ((updN (updN (updN (updN (updN (updN (updN sc 16 u_2.1) 18 u_2.2.1.1) 19 u_2.2.1.2.1) 20 u_2.2.1.2.2.1) 22 u_2.2.1.2.2.2.1) 24 u_2.2.1.2.2.2.2.1) 26 u_2.2.1.2.2.2.2.2.1), (upA (upA (upA (upA (upA ar 21 u_2.2.1.2.2.2.2.2.2.1) 23 u_2.2.1.2.2.2.2.2.2.2.1) 25 u_2.2.1.2.2.2.2.2.2.2.2.1) 27 u_2.2.1.2.2.2.2.2.2.2.2.2) 17 u_2.2.2)) H locs 29 ls (by have no : mLayOk (mff (ar 14) (sc 15) 200 0 (mD0 ar)) = false := (by rw [mLayOk]; exact decide_eq_false (fun h => by have e := (hd_1 (hr_1.trans h.1)).1; rw [← e] at h; exact absurd h.2 (by intro q; have q1 := q.1; have q2 := q.2; first | exact c_4 q1 | exact q2 c_4))); exact ⟨by rw [if_neg (by rw [no]; decide)], fun h => absurd h (by rw [no]; decide), fun _ => ⟨rfl, rfl, rfl, rfl, rfl, rfl, rfl, rfl, rfl, rfl, rfl, rfl, rfl, rfl, rfl, rfl⟩⟩) (hP) (hD) hS (rfl) dX8_lay_29
    · replace c_4 : u_2.2.1.2.2.1 = u_2.2.1.2.1 := (nI_eq (a := u_2.2.1.2.2.1) (b := u_2.2.1.2.1) (by omega) (by omega)).mp c_4
      refine lv_aload_n hx hb dX8_lay_20 rfl (lv_at hl 0 rfl) ?_
      refine va_get (D := g.1) (cl := vwCl) (ci := 8) (v := .int (nI u_2.2.1.2.2.2.1)) (C := RX8) (T := TX8) (N := 29) hx hb hts hX8_lay_X8 hown hK hP 0 rfl rfl 22 (by decide) (hts _ kX8_lay_f79) (fun _ h9 => h9) rfl dX8_lay_21 ?_
      refine lv_if_ne (tgt := 30) hx hb dX8_lay_24 (by decide) (fun c_5 => ?_) (fun c_5 => ?_)
      · replace c_5 : ¬ u_2.2.1.2.2.2.1 = 0 := fun h => c_5 ((nI_eq (a := u_2.2.1.2.2.2.1) (b := 0) (by omega) (by omega)).mpr h)
        refine lv_aload_n hx hb dX8_lay_30 rfl (lv_at hl 0 rfl) ?_
        refine wr_callVv0 (As := []) (rest := []) (b := o) ctx hKK hP hD hS (c_X8_settles l g o a (updN (updN (updN (updN (updN (updN (updN sc 16 u_2.1) 18 u_2.2.1.1) 19 u_2.2.1.2.1) 20 u_2.2.1.2.2.1) 22 u_2.2.1.2.2.2.1) 24 u_2.2.1.2.2.2.2.1) 26 u_2.2.1.2.2.2.2.2.1) (upA (upA (upA (upA (upA ar 21 u_2.2.1.2.2.2.2.2.2.1) 23 u_2.2.1.2.2.2.2.2.2.2.1) 25 u_2.2.1.2.2.2.2.2.2.2.2.1) 27 u_2.2.1.2.2.2.2.2.2.2.2.2) 17 u_2.2.2) (show u_2.2.1.2.1 ≤ 8 from ok2) (show u_2.2.1.2.2.2.1 ≤ 5 from ok4) (show hsOk (fun d => u_2.2.1.2.2.2.2.2.2.2.2.2 (65 + d)) (u_2.2.1.2.1) (u_2.2.1.2.2.2.1) from ok9)) gX8_lay_X8_settles rfl rfl rfl hdX8_settles ⟨Nat.le_of_ble_eq_true rfl, Nat.le_of_ble_eq_true rfl⟩ (ci := 8) (q0 := 0) rfl rfl hl.1 rfl rfl (Nat.le_of_ble_eq_true rfl) dX8_lay_31 (fun u_7 H locs hr_6 hP hD hS => ?_)
        obtain ⟨hP, hD⟩ := re2 (mW g o a (updN (updN (updN (updN (updN (updN (updN (updN (updN (updN (updN (updN (updN (updN sc 16 u_2.1) 18 u_2.2.1.1) 19 u_2.2.1.2.1) 20 u_2.2.1.2.2.1) 22 u_2.2.1.2.2.2.1) 24 u_2.2.1.2.2.2.2.1) 26 u_2.2.1.2.2.2.2.2.1) 0 u_2.2.1.2.1) 2 u_2.2.1.2.2.2.1) 4 u_2.2.1.2.2.2.2.1) 6 u_2.2.1.2.2.2.2.2.1) 8 0) 10 0) 12 0) (upA (upA (upA (upA (upA (upA (upA (upA (upA (upA ar 21 u_2.2.1.2.2.2.2.2.2.1) 23 u_2.2.1.2.2.2.2.2.2.2.1) 25 u_2.2.1.2.2.2.2.2.2.2.2.1) 27 u_2.2.1.2.2.2.2.2.2.2.2.2) 17 u_2.2.2) 1 u_2.2.1.2.2.2.2.2.2.1) 3 u_2.2.1.2.2.2.2.2.2.2.1) 5 u_2.2.1.2.2.2.2.2.2.2.2.1) 28 (mSetL (u_2.2.1.2.2.2.2.2.2.1) (u_2.2.1.2.1) (u_2.2.1.2.2.2.2.2.2.2.2.2) (u_2.2.1.2.2.2.1))) 7 (mSetL (u_2.2.1.2.2.2.2.2.2.1) (u_2.2.1.2.1) (u_2.2.1.2.2.2.2.2.2.2.2.2) (u_2.2.1.2.2.2.1)))) hP hD rfl
        refine lv_aload_n hx hb dX8_lay_34 rfl (lv_at hl 0 rfl) ?_
        refine va_get (D := g.1) (cl := vwCl) (ci := 8) (v := .int (nI u_2.2.1.2.2.2.1)) (C := RX8) (T := TX8) (N := 29) hx hb hts hX8_lay_X8 hown hK hP 0 rfl rfl 2 (by decide) (hts _ kX8_lay_f89) (fun _ h9 => h9) rfl dX8_lay_35 ?_
        exact hret (nI u_2.2.1.2.2.2.1) ((updN (updN (updN (updN (updN (updN (updN (updN (updN (updN (updN (updN (updN (updN sc 16 u_2.1) 18 u_2.2.1.1) 19 u_2.2.1.2.1) 20 u_2.2.1.2.2.1) 22 u_2.2.1.2.2.2.1) 24 u_2.2.1.2.2.2.2.1) 26 u_2.2.1.2.2.2.2.2.1) 0 u_2.2.1.2.1) 2 u_2.2.1.2.2.2.1) 4 u_2.2.1.2.2.2.2.1) 6 u_2.2.1.2.2.2.2.2.1) 8 0) 10 0) 12 0), (upA (upA (upA (upA (upA (upA (upA (upA (upA (upA ar 21 u_2.2.1.2.2.2.2.2.2.1) 23 u_2.2.1.2.2.2.2.2.2.2.1) 25 u_2.2.1.2.2.2.2.2.2.2.2.1) 27 u_2.2.1.2.2.2.2.2.2.2.2.2) 17 u_2.2.2) 1 u_2.2.1.2.2.2.2.2.2.1) 3 u_2.2.1.2.2.2.2.2.2.2.1) 5 u_2.2.1.2.2.2.2.2.2.2.2.1) 28 (mSetL (u_2.2.1.2.2.2.2.2.2.1) (u_2.2.1.2.1) (u_2.2.1.2.2.2.2.2.2.2.2.2) (u_2.2.1.2.2.2.1))) 7 (mSetL (u_2.2.1.2.2.2.2.2.2.1) (u_2.2.1.2.1) (u_2.2.1.2.2.2.2.2.2.2.2.2) (u_2.2.1.2.2.2.1)))) H locs 38 ls (by have e := (hd_1 c_3).1; have yes : mLayOk (mff (ar 14) (sc 15) 200 0 (mD0 ar)) = true := (by rw [mLayOk, ← e]; exact decide_eq_true ⟨hr_1.symm.trans c_3, c_4, c_5⟩); exact ⟨by rw [if_pos yes, ← e], fun _ => by rw [← e]; exact ⟨(hd_1 c_3).2, rfl, rfl, rfl, rfl, rfl, rfl, rfl, rfl, rfl, rfl, rfl, rfl, rfl⟩, fun h => absurd h (by rw [yes]; decide)⟩) (hP) (hD) hS (rfl) dX8_lay_38
      · replace c_5 : u_2.2.1.2.2.2.1 = 0 := (nI_eq (a := u_2.2.1.2.2.2.1) (b := 0) (by omega) (by omega)).mp c_5
        refine lv_bipush (v := (-2)) hx hb dX8_lay_27 (by decide) ?_
        exact hret (-2) ((updN (updN (updN (updN (updN (updN (updN sc 16 u_2.1) 18 u_2.2.1.1) 19 u_2.2.1.2.1) 20 u_2.2.1.2.2.1) 22 u_2.2.1.2.2.2.1) 24 u_2.2.1.2.2.2.2.1) 26 u_2.2.1.2.2.2.2.2.1), (upA (upA (upA (upA (upA ar 21 u_2.2.1.2.2.2.2.2.2.1) 23 u_2.2.1.2.2.2.2.2.2.2.1) 25 u_2.2.1.2.2.2.2.2.2.2.2.1) 27 u_2.2.1.2.2.2.2.2.2.2.2.2) 17 u_2.2.2)) H locs 29 ls (by have no : mLayOk (mff (ar 14) (sc 15) 200 0 (mD0 ar)) = false := (by rw [mLayOk]; exact decide_eq_false (fun h => by have e := (hd_1 (hr_1.trans h.1)).1; rw [← e] at h; exact absurd h.2 (by intro q; have q1 := q.1; have q2 := q.2; first | exact c_5 q1 | exact q2 c_5))); exact ⟨by rw [if_neg (by rw [no]; decide)], fun h => absurd h (by rw [no]; decide), fun _ => ⟨rfl, rfl, rfl, rfl, rfl, rfl, rfl, rfl, rfl, rfl, rfl, rfl, rfl, rfl, rfl, rfl⟩⟩) (hP) (hD) hS (rfl) dX8_lay_29
