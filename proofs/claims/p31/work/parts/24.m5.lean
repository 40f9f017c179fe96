
theorem mTl_bit (nw : Nat → Int32) (P i : Nat) (ls : Int32) (hi : i < 32) : ∀ k, bt (mTl nw P i ls k) i = true
  | 0 => by rw [mTl, bt_bit hi]; simp
  | k + 1 => by rw [mTl, b_or, mTl_bit nw P i ls hi k, Bool.true_or]
theorem mLets_host {kd : Nat → Int32} {P : Nat} {st : Nat → Int32} {h d : Nat} (hh : h < 8) : ∀ c, h < c → bt (mLets kd P st (nI h) d 0 c) h = true
  | 0, hc => absurd hc (Nat.not_lt_zero h)
  | c + 1, hc => by
    rw [mLets, b_or]
    by_cases e : h = c
    · subst e
      have h1 : hasB (mKnB kd P d (mCallW kd P st h d) 0 (70 + d)) (nI h) = true := by
        rw [hasB_bt _ _ (by omega), mKnB, mCallW, pk_us, mTell, mTl_bit _ _ _ _ (by omega)]
      rw [if_pos h1, bt_bit (by omega)]; simp
    · rw [mLets_host hh c (by omega), Bool.true_or]
theorem loL_le (x : Int32) (h : Nat) (hx : hasB x (nI h) = true) : ∀ f i, i ≤ h → h < i + f → loL x f i ≤ h
  | 0, i, h1, h2 => by omega
  | f + 1, i, h1, h2 => by
    rw [loL]
    split
    · exact h1
    · rename_i q
      rcases Nat.lt_or_ge i h with a | a
      · exact loL_le x h hx f (i + 1) a (by omega)
      · exact absurd (by rw [show i = h by omega]; exact hx) q
theorem inB_allIn {D : Nat} (hD : D ≤ 5) (x : Int32) : inB x (-1) (nI D - nI 1) = (decide (x = -1) || inPb D x) := by
  have key : (¬ x < -1 ∧ x ≤ nI D - nI 1) ↔ (x = -1 ∨ (¬ x < 0 ∧ ¬ nI D ≤ x)) := by
    have h1 : (0 : Int32).toInt = 0 := by decide
    have h3 : (-1 : Int32).toInt = -1 := by decide
    have h2 : (nI D - nI 1).toInt = (D : Int) - 1 ∧ (nI D).toInt = (D : Int) := by
      rcases (by omega : D = 0 ∨ D = 1 ∨ D = 2 ∨ D = 3 ∨ D = 4 ∨ D = 5) with rfl | rfl | rfl | rfl | rfl | rfl <;> decide
    rw [← Int32.toInt_inj, Int32.lt_iff_toInt_lt, Int32.lt_iff_toInt_lt, Int32.le_iff_toInt_le, Int32.le_iff_toInt_le, h1, h3, h2.1, h2.2]
    omega
  rw [inB, inPb, ← Bool.decide_or]
  exact decide_eq_decide.mpr key
theorem inPb_pos {P : Nat} {x : Int32} (h : inPb P x = true) : ¬ x < 0 := by
  have h2 : ¬ x < 0 ∧ ¬ nI P ≤ x := by simpa [inPb] using h
  exact h2.1
def hsOk (hs : Nat → Int32) (P D : Nat) : Prop := ∀ d, d < D → inPb P (hs d) = true
theorem hsOk_at {hs : Nat → Int32} {P D d : Nat} (h : hsOk hs P D) (hd : d < D) (hP : P ≤ 8) : ∃ i, i < P ∧ hs d = nI i := inPb_nat (h d hd) (by omega)
theorem kX8_allIn_f89 : (Cond.fieldLink RX8 89 "LastCallersWordModel" "doors" "I" : Cond) ∈ wsX8_allIn := List.mem_cons_of_mem _ aw_325
theorem hX8_allIn_X8 : ∀ w ∈ wsX80, w ∈ wsX8_allIn := fun w h => List.mem_cons_of_mem _ (ac_X8 w h)
theorem kX8_allIn_f13 : (Cond.fieldLink RX8 13 "LastCallersWordModel" "hosts" "[I" : Cond) ∈ wsX8_allIn := List.mem_cons_of_mem _ aw_289
set_option maxHeartbeats 400000 in
set_option maxRecDepth 100000 in
theorem c_X8_allIn (l : Launch) (g : GG) (o : Nat) (a : Nat → Nat) (sc : Nat → Nat) (ar : Nat → Nat → Int32) (dv : Int32) (hP8 : sc 0 ≤ 8) (hD5 : sc 2 ≤ 5) (hho : hsOk (ar 3) (sc 0) (sc 2)) : Met l yX8_allIn wsX8_allIn ({ frames := 5, cells := 0, slots := 0, locals := 121 } : Room) (wr g [.ref o, .int dv] (mW g o a sc ar)) (wQi g (mW g o a sc ar) (fun u : (Nat → Int32) => (mW g o a sc (upA ar 28 u))) (fun rr u => rr = (if dv = -1 then mBits (mSo (ar 7) (ar 3) (sc 2)) 8 else if inPb (sc 2) dv = true then (if mShut (ar 7) (ar 3) dv.toNatClampNeg = true then nI (loL (mLets (ar 1) (sc 0) (ar 7) (ar 3 dv.toNatClampNeg) dv.toNatClampNeg 0 (sc 0)) 8 0) else -4) else -1))) 0 0 (cA (mW g o a sc ar)) := by
  refine wr_starti (cc := cX8_allIn) (maxL := 4) (ty := .int) (by decide) rfl (Nat.le_of_ble_eq_true rfl) (fun p e s m args below meth c Q A C hP hD hS hret ls hl => ?_)
  obtain ⟨hx, hb, hml, hr, hown, hts, hlk, hKK⟩ := id C
  have hK := hKK.1
  have hown : s.vm.findClass RX8 = some m.cls := hown
  have ctx : CallFix p m c cX8_allIn 4 s args wsX8_allIn RX8 := ⟨hx, hb, hml, hown, hts⟩
  have hl : lv_has ls 4 [(0, .ref o), (1, .int dv)] := hl
  obtain ⟨H, hHe⟩ : ∃ H, H = s.heap := ⟨_, rfl⟩
  obtain ⟨locs, hLe⟩ : ∃ L : List Loc, L = [] := ⟨_, rfl⟩
  have hP : va_P g.1 vwCl (mW g o a sc ar) H := by rw [hHe]; exact hP
  have hS : va_S A s.heap H locs := by rw [hHe, hLe]; exact hS
  suffices hgo : W p l e ({ frames := 5, cells := 0, slots := 0, locals := 121 } : Room) s m args below meth c H locs 0 0 Q (F0 m 0 ls []) by rw [hHe, hLe] at hgo; exact hgo
  clear hHe hLe
  refine lv_iload_n hx hb dX8_allIn_0 rfl (lv_at hl 1 rfl) ?_
  refine lv_iconst (v := (-1)) hx hb dX8_allIn_1 (by decide) ?_
  refine lv_aload_n hx hb dX8_allIn_2 rfl (lv_at hl 0 rfl) ?_
  refine va_get (D := g.1) (cl := vwCl) (ci := 8) (v := .int (nI (sc 2))) (C := RX8) (T := TX8) (N := 29) hx hb hts hX8_allIn_X8 hown hK hP 0 rfl rfl 2 (by decide) (hts _ kX8_allIn_f89) (fun _ h9 => h9) rfl dX8_allIn_3 ?_
  refine lv_iconst (v := nI 1) hx hb dX8_allIn_6 (by decide) ?_
  refine lv_isub hx hb dX8_allIn_7 ?_
  refine ro_callS (As := [.int dv, .int (-1), .int ((nI (sc 2)) - (nI 1))]) (rest := []) ctx hKK hP (c_X8_in l g dv (-1) ((nI (sc 2)) - (nI 1))) gX8_allIn_X8_in rfl rfl rfl hdX8_in ⟨Nat.le_of_ble_eq_true rfl, Nat.le_of_ble_eq_true rfl⟩ [] rfl hl.1 rfl rfl (Nat.le_of_ble_eq_true rfl) dX8_allIn_8 (fun r_1 hr_1 => ?_)
  subst hr_1
  refine lv_if_ne (tgt := 16) hx hb dX8_allIn_11 (by decide) (fun c_2 => ?_) (fun c_2 => ?_)
  · replace c_2 := bI_t c_2
    rw [inB_allIn hD5] at c_2
    refine lv_aload_n hx hb dX8_allIn_16 rfl (lv_at hl 0 rfl) ?_
    refine wr_callVv0 (As := []) (rest := []) (b := o) ctx hKK hP hD hS (c_X8_asItIs l g o a sc ar) gX8_allIn_X8_asItIs rfl rfl rfl hdX8_asItIs ⟨Nat.le_of_ble_eq_true rfl, Nat.le_of_ble_eq_true rfl⟩ (ci := 8) (q0 := 0) rfl rfl hl.1 rfl rfl (Nat.le_of_ble_eq_true rfl) dX8_allIn_17 (fun u_4 H locs hr_3 hP hD hS => ?_)
    have hP : va_P g.1 vwCl (mW g o a sc (upA ar 28 (ar 7))) H := hP
    have hD : va_D A (mW g o a sc (upA ar 28 (ar 7))) := hD
    refine lv_iload_n hx hb dX8_allIn_20 rfl (lv_at hl 1 rfl) ?_
    refine lv_if_ge (tgt := 32) hx hb dX8_allIn_21 (by decide) (fun c_5 => ?_) (fun c_5 => ?_)
    · have hdm : ¬ dv = -1 := fun q => absurd (q ▸ c_5 : (0 : Int32) ≤ -1) (by decide)
      replace c_2 : inPb (sc 2) dv = true := by simpa [hdm] using c_2
      obtain ⟨d, hd, rfl⟩ := inPb_nat c_2 (by omega)
      refine lv_aload_n hx hb dX8_allIn_32 rfl (lv_at hl 0 rfl) ?_
      refine lv_iload_n hx hb dX8_allIn_33 rfl (lv_at hl 1 rfl) ?_
      refine ro_callV0 (As := [.int (nI d)]) (rest := []) (b := o) ctx hKK hP (c_X8_isShutOut l g o a sc (upA ar 28 (ar 7)) d (show d < 5 from by omega)) gX8_allIn_X8_isShutOut rfl rfl rfl hdX8_isShutOut ⟨Nat.le_of_ble_eq_true rfl, Nat.le_of_ble_eq_true rfl⟩ (ci := 8) (q0 := 0) rfl rfl hl.1 rfl rfl (Nat.le_of_ble_eq_true rfl) dX8_allIn_34 (fun r_6 hr_6 => ?_)
      have hr_6 : r_6 = bI (mShut (ar 7) (ar 3) d) := hr_6
      subst hr_6
      refine lv_if_ne (tgt := 43) hx hb dX8_allIn_37 (by decide) (fun c_7 => ?_) (fun c_7 => ?_)
      · replace c_7 := bI_t c_7
        refine lv_aload_n hx hb dX8_allIn_43 rfl (lv_at hl 0 rfl) ?_
        refine lv_aload_n hx hb dX8_allIn_44 rfl (lv_at hl 0 rfl) ?_
        refine va_get (D := g.1) (cl := vwCl) (ci := 8) (v := .ref (a 3)) (C := RX8) (T := TX8) (N := 29) hx hb hts hX8_allIn_X8 hown hK hP 0 rfl rfl 3 (by decide) (hts _ kX8_allIn_f13) (fun _ h9 => h9) rfl dX8_allIn_45 ?_
        refine lv_iload_n hx hb dX8_allIn_48 rfl (lv_at hl 1 rfl) ?_
        refine ald_i (D := g.1) (cl := vwCl) (f := ar 3) (i := d) (n := 5) hx hb hK hP 2 0 rfl rfl (by omega) (by decide) dX8_allIn_49 ?_
        refine lv_iload_n hx hb dX8_allIn_50 rfl (lv_at hl 1 rfl) ?_
        refine lv_iconst (v := nI 0) hx hb dX8_allIn_51 (by decide) ?_
        refine wr_callVi0 (As := [.int ((ar 3) d), .int (nI d), .int (nI 0)]) (rest := []) (b := o) ctx hKK hP hD hS (c_X8_letsIn l g o a sc (upA ar 28 (ar 7)) ((ar 3) d) d 0 (show (sc 0) ≤ 8 from by omega) (show d < 5 from by omega) (show 0 ≤ 20 from by omega)) gX8_allIn_X8_letsIn rfl rfl rfl hdX8_letsIn ⟨Nat.le_of_ble_eq_true rfl, Nat.le_of_ble_eq_true rfl⟩ (ci := 8) (q0 := 0) rfl rfl hl.1 rfl rfl (Nat.le_of_ble_eq_true rfl) dX8_allIn_52 (fun r_8 u_9 H locs hr_8 hP hD hS => ?_)
        have hP : va_P g.1 vwCl (mW g o a sc (upA ar 28 u_9)) H := hP
        have hD : va_D A (mW g o a sc (upA ar 28 u_9)) := hD
        have hr_8 : r_8 = mLets (ar 1) (sc 0) (ar 7) ((ar 3) d) d 0 (sc 0) := hr_8
        subst hr_8
        refine lv_istore_n (lv' := [(2, .int (mLets (ar 1) (sc 0) (ar 7) ((ar 3) d) d 0 (sc 0))), (0, .ref o), (1, .int (nI d))]) hx hb dX8_allIn_55 rfl hl (by decide) rfl (fun ls hl => ?_)
        obtain ⟨hh, hhP, ehh⟩ := hsOk_at hho (show d < sc 2 by omega) hP8
        generalize eset : mLets (ar 1) (sc 0) (ar 7) (ar 3 d) d 0 (sc 0) = lset at *
        have hbit : hasB lset (nI hh) = true := by rw [← eset, ehh, hasB_bt _ _ (by omega)]; exact mLets_host (by omega) _ hhP
        refine lv_iconst (v := nI 0) hx hb dX8_allIn_56 (by decide) ?_
        refine lv_istore_n (lv' := [(3, .int (nI 0)), (2, .int lset), (0, .ref o), (1, .int (nI d))]) hx hb dX8_allIn_57 rfl hl (by decide) rfl (fun ls hl => ?_)
        have LP58 : ∀ (fu : Nat) (j : Nat), hh - j < fu → (j ≤ hh) → (loL lset 8 0 = loL lset (8 - j) j) → ∀ (H : Heap) (locs : List Loc), va_P g.1 vwCl (mW g o a sc (upA ar 28 u_9)) H → va_D A (mW g o a sc (upA ar 28 u_9)) → va_S A s.heap H locs → ∀ (ls : Array Slot), lv_has ls 4 [(3, .int (nI j)), (2, .int lset), (0, .ref o), (1, .int (nI d))] → W p l e ({ frames := 5, cells := 0, slots := 0, locals := 121 } : Room) s m args below meth c H locs 0 0 Q (F0 m 58 ls []) := by
          intro fu
          induction fu with
          | zero => intro j hfu; exact absurd hfu (Nat.not_lt_zero _)
          | succ fu ih58 =>
            intro j hfu hj el H locs hP hD hS ls hl
            refine lv_iload_n hx hb dX8_allIn_58 rfl (lv_at hl 1 rfl) ?_
            refine lv_iload_n hx hb dX8_allIn_59 rfl (lv_at hl 0 rfl) ?_
            refine ro_callS (As := [.int lset, .int (nI j)]) (rest := []) ctx hKK hP (c_X8_has l g lset (nI j)) gX8_allIn_X8_has rfl rfl rfl hdX8_has ⟨Nat.le_of_ble_eq_true rfl, Nat.le_of_ble_eq_true rfl⟩ [] rfl hl.1 rfl rfl (Nat.le_of_ble_eq_true rfl) dX8_allIn_60 (fun r_10 hr_10 => ?_)
            subst hr_10
            refine lv_if_ne (tgt := 72) hx hb dX8_allIn_63 (by decide) (fun c_11 => ?_) (fun c_11 => ?_)
            · replace c_11 := bI_t c_11
              refine lv_iload_n hx hb dX8_allIn_72 rfl (lv_at hl 0 rfl) ?_
              exact hret (nI j) u_9 H locs 73 ls (by rw [if_neg hdm, if_pos (by assumption), nI_clamp (show d < 2 ^ 31 by omega), if_pos (by assumption), eset, el, show 8 - j = 7 - j + 1 by omega, loL, if_pos c_11]) (hP) (hD) hS (rfl) dX8_allIn_73
            · replace c_11 := bI_f c_11
              refine lv_iinc (v := nI (j + 1)) (lv' := [(3, .int (nI (j + 1))), (2, .int lset), (0, .ref o), (1, .int (nI d))]) hx hb dX8_allIn_66 hl (k := 0) rfl (iincK j 1) (by decide) rfl (fun ls hl => ?_)
              refine lv_goto (tgt := 58) hx hb dX8_allIn_69 (by decide) ?_
              exact ih58 (j + 1) (by have hne : ¬ j = hh := (fun e => by rw [e, hbit] at c_11; exact tf c_11); omega) (by have hne : ¬ j = hh := (fun e => by rw [e, hbit] at c_11; exact tf c_11); omega) (by rw [el, show 8 - j = 7 - j + 1 by omega, loL, if_neg (by rw [c_11]; decide), show 8 - (j + 1) = 7 - j by omega]) _ _ hP hD hS ls (lv_sub hl [0, 1, 2, 3] rfl)
        exact LP58 (hh + 1) 0 (by omega) (by omega) (rfl) _ _ hP hD hS ls (lv_sub hl [0, 1, 2, 3] rfl)
      · replace c_7 := bI_f c_7
        refine lv_bipush (v := (-4)) hx hb dX8_allIn_40 (by decide) ?_
        exact hret (-4) (ar 7) H locs 42 ls (by simp [hdm, c_2, c_5, c_7, nI_clamp (show d < 2 ^ 31 by omega)]) (hP) (hD) hS (rfl) dX8_allIn_42
    · refine lv_aload_n hx hb dX8_allIn_24 rfl (lv_at hl 0 rfl) ?_
      refine ro_callV0 (As := []) (rest := []) (b := o) ctx hKK hP (c_X8_shutOutNow l g o a sc (upA ar 28 (ar 7)) (show (sc 2) ≤ 5 from by omega)) gX8_allIn_X8_shutOutNow rfl rfl rfl hdX8_shutOutNow ⟨Nat.le_of_ble_eq_true rfl, Nat.le_of_ble_eq_true rfl⟩ (ci := 8) (q0 := 0) rfl rfl hl.1 rfl rfl (Nat.le_of_ble_eq_true rfl) dX8_allIn_25 (fun r_12 hr_12 => ?_)
      have hr_12 : r_12 = mSo (ar 7) (ar 3) (sc 2) := hr_12
      subst hr_12
      refine ro_callS (As := [.int (mSo (ar 7) (ar 3) (sc 2))]) (rest := []) ctx hKK hP (c_X8_bits l g (mSo (ar 7) (ar 3) (sc 2))) gX8_allIn_X8_bits rfl rfl rfl hdX8_bits ⟨Nat.le_of_ble_eq_true rfl, Nat.le_of_ble_eq_true rfl⟩ [] rfl hl.1 rfl rfl (Nat.le_of_ble_eq_true rfl) dX8_allIn_28 (fun r_13 hr_13 => ?_)
      subst hr_13
      exact hret (mBits (mSo (ar 7) (ar 3) (sc 2)) 8) (ar 7) H locs 31 ls (by have e : dv = -1 := (by rcases (by simpa using c_2 : dv = -1 ∨ inPb (sc 2) dv = true) with q | q; exact q; exact absurd (Int32.not_le.mp c_5) (inPb_pos q)); rw [if_pos e]) (hP) (hD) hS (rfl) dX8_allIn_31
  · replace c_2 := bI_f c_2
    rw [inB_allIn hD5] at c_2
    refine lv_iconst (v := (-1)) hx hb dX8_allIn_14 (by decide) ?_
    exact hret (-1) (ar 28) H locs 15 ls (by have := c_2; simp at this; simp [this.1, this.2]) (hP) (hD) hS (rfl) dX8_allIn_15
