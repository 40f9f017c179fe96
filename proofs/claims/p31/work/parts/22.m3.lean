
def mSh (w : Nat → Int32) : Nat → Nat → Int32
  | 0 => w
  | j + 1 => upd (mSh w j) j (mSh w j (j + 115))
def mRemN (k : Nat) : Nat := if k = 8 then k - 1 + 1 else k + 1
def mRemW (w st : Nat → Int32) (k : Nat) : Nat → Int32 := if k = 8 then cpL (mSh w 805) st (115 * (k - 1)) 0 115 else cpL w st (115 * k) 0 115
def mBar (st : Nat → Int32) (B d : Nat) : Nat → Int32
  | 0 => nI 0
  | i + 1 => mBar st B d i ||| (if st ((75 + (8 * d)) + i) < nI B then nI 0 else nI 1 <<< (nI i &&& 31))
def mKnB (kd : Nat → Int32) (P d : Nat) (nw : Nat → Int32) : Nat → Nat → Int32
  | 0 => nw
  | n + 1 => mDayA kd P d (mKnB kd P d nw n)
def mLets (kd : Nat → Int32) (P : Nat) (st : Nat → Int32) (hv : Int32) (d n : Nat) : Nat → Int32
  | 0 => nI 0
  | c + 1 => mLets kd P st hv d n c ||| (if hasB (mKnB kd P d (mCallW kd P st c d) n (70 + d)) hv = true then nI 1 <<< (nI c &&& 31) else nI 0)
def mWh (kd : Nat → Int32) (P d : Nat) (iv : Int32) : Nat → Nat → (Nat → Int32) → Int32
  | 0, _, _ => -4
  | f + 1, n, nw => if hasB (nw (70 + d)) iv = true then nI n else mWh kd P d iv f (n + 1) (mDayA kd P d nw)
def mFr (st : Nat → Int32) (i : Nat) : Nat → Int32 × Int32
  | 0 => (-4, -4)
  | j + 1 => if ¬ j = i ∧ ¬ st ((1 + (8 * j)) + i) ≤ (mFr st i j).2 then (nI j, st ((1 + (8 * j)) + i)) else mFr st i j
def mCk (sn : Nat → Int32) (kn dv : Int32) : Nat → Nat
  | 0 => 1
  | k + 1 => if mCk sn kn dv k = 0 then 0 else if sn ((3 * k) + 1) = dv ∧ ¬ bI (hasB kn (sn (3 * k))) = (if sn ((3 * k) + 2) = nI 1 then nI 1 else nI 0) then 0 else 1
def mCd (kd nw sn : Nat → Int32) (P Sn : Nat) (dv : Int32) : Nat → Int32
  | 0 => nI 0
  | c + 1 => mCd kd nw sn P Sn dv c ||| (if mCk sn (mTell kd nw P c) dv Sn = 0 then nI 0 else nI 1 <<< (nI c &&& 31))
def mSumP (pt : Nat → Int32) : Nat → Nat
  | 0 => 0
  | k + 1 => mSumP pt k + (pt k).toNatClampNeg
def mMn (pt : Nat → Int32) (W : Nat) : Nat → Nat
  | 0 => 0
  | w + 1 => mMn pt W w + ((rkN pt w W + 1) * (pt w).toNatClampNeg)
def mIn (pt : Nat → Int32) (W B : Nat) : Nat → Nat
  | 0 => 0
  | w + 1 => if B ≤ rkN pt w W then mIn pt W B w + 0 else mIn pt W B w + (pt w).toNatClampNeg
def mLow (a b : Nat) (pv : Int32) : Nat := (if pv = 0 then a else b) / Nat.gcd a b
def mLkl (kd : Nat → Int32) (P d : Nat) (nw : Nat → Int32) (way : Nat) : Nat → (Nat → Int32) × Nat
  | 0 => (nw, way)
  | t + 1 => (mDayA kd P d (if hasB ((mLkl kd P d nw way t).1 (70 + d)) (nI ((mLkl kd P d nw way t).2 % P)) = true then mCallW kd P (mLkl kd P d nw way t).1 ((mLkl kd P d nw way t).2 % P) d else (mLkl kd P d nw way t).1), (mLkl kd P d nw way t).2 / P)
def mLkA (kd hs : Nat → Int32) (P d : Nat) (nw : Nat → Int32) (n : Nat) : Nat → Nat
  | 0 => 0
  | w + 1 => mLkA kd hs P d nw n w + (if mShut (mLkl kd P d nw w n).1 hs d = true then 1 else 0)
def mStS (kd : Nat → Int32) (P D dr : Nat) (f : Nat → Int32) : Nat → Int32 := if dr / 64 % 3 = 0 then mGoes kd P D f else mCallW kd P f (dr % P) (dr / 8 % D)
def mSt (kd hs : Nat → Int32) (P D z : Nat) (nw : Nat → Int32) : Nat → (Nat → Int32) × Nat
  | 0 => (nw, 0)
  | k + 1 => (mStS kd P D (dN z k) (mSt kd hs P D z nw k).1, (mSt kd hs P D z nw k).2 + (if mSo (mStS kd P D (dN z k) (mSt kd hs P D z nw k).1) hs D = 0 then 1 else 0))
def loL (x : Int32) : Nat → Nat → Nat
  | 0, i => i
  | f + 1, i => if hasB x (nI i) = true then i else loL x f (i + 1)
def ptOk (pt : Nat → Int32) (W : Nat) : Prop := ∀ w, w < W → ¬ pt w < 0 ∧ 1 ≤ (pt w).toNatClampNeg ∧ (pt w).toNatClampNeg ≤ 60
theorem mSumP_le {pt : Nat → Int32} {W : Nat} (h : ptOk pt W) : ∀ k, k ≤ W → k ≤ mSumP pt k ∧ mSumP pt k ≤ 60 * k
  | 0, _ => ⟨Nat.le_refl _, Nat.le_refl _⟩
  | k + 1, hk => by have a := mSumP_le h k (by omega); have b := h k (by omega); rw [mSumP]; omega
theorem mMn_le {pt : Nat → Int32} {W V : Nat} (h : ptOk pt W) (hV : V ≤ 6) : ∀ k, k ≤ W → mMn pt V k ≤ 420 * k
  | 0, _ => Nat.le_refl _
  | k + 1, hk => by
    have a := mMn_le h hV k (by omega); have b := h k (by omega); have c := rkN_le pt k V; rw [mMn]
    have d : (rkN pt k V + 1) * (pt k).toNatClampNeg ≤ 7 * 60 := Nat.mul_le_mul (by omega) b.2.2
    omega
theorem mIn_le {pt : Nat → Int32} {W V B : Nat} (h : ptOk pt W) : ∀ k, k ≤ W → mIn pt V B k ≤ 60 * k
  | 0, _ => Nat.le_refl _
  | k + 1, hk => by have a := mIn_le (V := V) (B := B) h k (by omega); have b := h k (by omega); rw [mIn]; split <;> omega
theorem mLkA_le (kd hs : Nat → Int32) (P d : Nat) (nw : Nat → Int32) (n : Nat) : ∀ w, mLkA kd hs P d nw n w ≤ w
  | 0 => Nat.le_refl _
  | w + 1 => by have a := mLkA_le kd hs P d nw n w; rw [mLkA]; split <;> omega
theorem mLkl_le (kd : Nat → Int32) (P d : Nat) (nw : Nat → Int32) (way : Nat) : ∀ t, (mLkl kd P d nw way t).2 ≤ way
  | 0 => Nat.le_refl _
  | t + 1 => Nat.le_trans (Nat.div_le_self _ _) (mLkl_le kd P d nw way t)
theorem mSt_le (kd hs : Nat → Int32) (P D z : Nat) (nw : Nat → Int32) : ∀ k, (mSt kd hs P D z nw k).2 ≤ k
  | 0 => Nat.le_refl _
  | k + 1 => by have a := mSt_le kd hs P D z nw k; rw [mSt]; dsimp only; split <;> omega
theorem mCk_le (sn : Nat → Int32) (kn dv : Int32) : ∀ k, mCk sn kn dv k ≤ 1
  | 0 => Nat.le_refl _
  | k + 1 => by
    have key : ∀ (q : Prop) [Decidable q], (if q then 0 else 1 : Nat) ≤ 1 := fun q _ => by split <;> omega
    rw [mCk]
    by_cases h1 : mCk sn kn dv k = 0
    · rw [if_pos h1]; omega
    · rw [if_neg h1]; exact key _
theorem isPb_inB (v : Int32) : inB v (nI 0) (nI 1) = isPb v := by
  rw [inB, isPb]
  by_cases h : v < nI 0
  · have h2 : ¬ (v = 0 ∨ v = nI 1) := by rintro (rfl | rfl) <;> exact absurd h (by decide)
    simp [h, h2]
  · obtain ⟨k, hk, rfl⟩ := nI_of (x := v) h
    rcases (by omega : k = 0 ∨ k = 1 ∨ 2 ≤ k) with rfl | rfl | h2
    · decide
    · decide
    · have a : ¬ nI k ≤ nI 1 := fun h => by have := (nI_leI hk (by decide)).mp h; omega
      have b : ¬ (nI k = 0 ∨ nI k = nI 1) := by
        rintro (h | h)
        · have := (nI_eq hk (by decide : 0 < 2 ^ 31)).mp h; omega
        · have := (nI_eq hk (by decide : 1 < 2 ^ 31)).mp h; omega
      simp [a, b]
theorem inB_rng {x : Int32} {k n : Nat} (h : inB x (nI k) (nI n) = true) (hk : k < 2 ^ 31) (hn : n < 2 ^ 31) : ∃ i : Nat, (k ≤ i ∧ i ≤ n) ∧ x = nI i := by
  have h2 : ¬ x < nI k ∧ x ≤ nI n := by simpa [inB] using h
  obtain ⟨i, hi, rfl⟩ := nI_of (pos_of_lt hk h2.1)
  exact ⟨i, ⟨Nat.le_of_not_lt (fun q => h2.1 (nI_lt q (by omega))), (nI_leI hi hn).mp h2.2⟩, rfl⟩
theorem kX8_remembers_f152 : (Cond.fieldLink RX8 152 "LastCallersWordModel" "acts" "I" : Cond) ∈ wsX8_remembers := List.mem_cons_of_mem _ aw_328
theorem hX8_remembers_X8 : ∀ w ∈ wsX80, w ∈ wsX8_remembers := fun w h => List.mem_cons_of_mem _ (ac_X8 w h)
theorem kX8_remembers_f22 : (Cond.fieldLink RX8 22 "LastCallersWordModel" "was" "[I" : Cond) ∈ wsX8_remembers := List.mem_cons_of_mem _ aw_292
theorem kX8_remembers_f19 : (Cond.fieldLink RX8 19 "LastCallersWordModel" "st" "[I" : Cond) ∈ wsX8_remembers := List.mem_cons_of_mem _ aw_291
set_option maxHeartbeats 400000 in
set_option maxRecDepth 100000 in
theorem c_X8_remembers (l : Launch) (g : GG) (o : Nat) (a : Nat → Nat) (sc : Nat → Nat) (ar : Nat → Nat → Int32) (hA8 : sc 8 ≤ 8) : Met l yX8_remembers wsX8_remembers ({ frames := 1, cells := 0, slots := 0, locals := 25 } : Room) (wr g [.ref o] (mW g o a sc ar)) (wQv g (mW g o a sc ar) (fun u : Unit => (mW g o a (updN sc 8 (mRemN (sc 8))) (upA ar 9 (mRemW (ar 9) (ar 7) (sc 8))))) (fun u => True)) 0 0 (cA (mW g o a sc ar)) := by
  refine wr_startv (cc := cX8_remembers) (maxL := 2) (by decide) rfl (Nat.le_of_ble_eq_true rfl) (fun p e s m args below meth c Q A C hP hD hS hret ls hl => ?_)
  obtain ⟨hx, hb, hml, hr, hown, hts, hlk, hKK⟩ := id C
  have hK := hKK.1
  have hown : s.vm.findClass RX8 = some m.cls := hown
  have ctx : CallFix p m c cX8_remembers 2 s args wsX8_remembers RX8 := ⟨hx, hb, hml, hown, hts⟩
  have hl : lv_has ls 2 [(0, .ref o)] := hl
  obtain ⟨H, hHe⟩ : ∃ H, H = s.heap := ⟨_, rfl⟩
  obtain ⟨locs, hLe⟩ : ∃ L : List Loc, L = [] := ⟨_, rfl⟩
  have hP : va_P g.1 vwCl (mW g o a sc ar) H := by rw [hHe]; exact hP
  have hS : va_S A s.heap H locs := by rw [hHe, hLe]; exact hS
  suffices hgo : W p l e ({ frames := 1, cells := 0, slots := 0, locals := 25 } : Room) s m args below meth c H locs 0 0 Q (F0 m 0 ls []) by rw [hHe, hLe] at hgo; exact hgo
  clear hHe hLe
  refine lv_aload_n hx hb dX8_remembers_0 rfl (lv_at hl 0 rfl) ?_
  refine va_get (D := g.1) (cl := vwCl) (ci := 8) (v := .int (nI (sc 8))) (C := RX8) (T := TX8) (N := 29) hx hb hts hX8_remembers_X8 hown hK hP 0 rfl rfl 8 (by decide) (hts _ kX8_remembers_f152) (fun _ h9 => h9) rfl dX8_remembers_1 ?_
  refine lv_bipush (v := nI 8) hx hb dX8_remembers_4 (by decide) ?_
  refine lv_icmp_ne (tgt := 49) hx hb dX8_remembers_6 (by decide) (fun c_1 => ?_) (fun c_1 => ?_)
  · replace c_1 : ¬ (sc 8) = 8 := fun h => c_1 ((nI_eq (a := sc 8) (b := 8) (by omega) (by omega)).mpr h)
    refine lv_aload_n hx hb dX8_remembers_49 rfl (lv_at hl 0 rfl) ?_
    refine va_get (D := g.1) (cl := vwCl) (ci := 8) (v := .ref (a 9)) (C := RX8) (T := TX8) (N := 29) hx hb hts hX8_remembers_X8 hown hK hP 0 rfl rfl 9 (by decide) (hts _ kX8_remembers_f22) (fun _ h9 => h9) rfl dX8_remembers_50 ?_
    refine lv_bipush (v := nI 115) hx hb dX8_remembers_53 (by decide) ?_
    refine lv_aload_n hx hb dX8_remembers_55 rfl (lv_at hl 0 rfl) ?_
    refine va_get (D := g.1) (cl := vwCl) (ci := 8) (v := .int (nI (sc 8))) (C := RX8) (T := TX8) (N := 29) hx hb hts hX8_remembers_X8 hown hK hP 0 rfl rfl 8 (by decide) (hts _ kX8_remembers_f152) (fun _ h9 => h9) rfl dX8_remembers_56 ?_
    refine lv_imul hx hb dX8_remembers_59 ?_
    refine lv_is (pk_mul 115 (sc 8)) ?_
    refine lv_aload_n hx hb dX8_remembers_60 rfl (lv_at hl 0 rfl) ?_
    refine va_get (D := g.1) (cl := vwCl) (ci := 8) (v := .ref (a 7)) (C := RX8) (T := TX8) (N := 29) hx hb hts hX8_remembers_X8 hown hK hP 0 rfl rfl 7 (by decide) (hts _ kX8_remembers_f19) (fun _ h9 => h9) rfl dX8_remembers_61 ?_
    refine lv_iconst (v := nI 0) hx hb dX8_remembers_64 (by decide) ?_
    refine lv_bipush (v := nI 115) hx hb dX8_remembers_65 (by decide) ?_
    refine wr_callSv (As := [.ref (a 9), .int (nI (115 * (sc 8))), .ref (a 7), .int (nI 0), .int (nI 115)]) (rest := []) ctx hKK hP hD hS (c_X8_copies_920_115_115 l g (a 9) (a 7) (ar 9) (ar 7) (115 * (sc 8)) 0 (by omega) (by omega)) gX8_remembers_X8_copies rfl rfl rfl hdX8_copies ⟨Nat.le_of_ble_eq_true rfl, Nat.le_of_ble_eq_true rfl⟩ [5, 4] rfl rfl (fun _ _ => rfl) hl.1 rfl rfl (Nat.le_of_ble_eq_true rfl) dX8_remembers_67 (fun u_3 H locs hr_2 hP hD hS => ?_)
    have hP : va_P g.1 vwCl (mW g o a sc (upA (upA ar 9 (cpL (ar 9) (ar 7) (115 * (sc 8)) 0 115)) 7 (ar 7))) H := hP
    have hD : va_D A (mW g o a sc (upA (upA ar 9 (cpL (ar 9) (ar 7) (115 * (sc 8)) 0 115)) 7 (ar 7))) := hD
    refine lv_aload_n hx hb dX8_remembers_70 rfl (lv_at hl 0 rfl) ?_
    refine lv_dup hx hb dX8_remembers_71 rfl ?_
    refine va_get (D := g.1) (cl := vwCl) (ci := 8) (v := .int (nI (sc 8))) (C := RX8) (T := TX8) (N := 29) hx hb hts hX8_remembers_X8 hown hK hP 0 rfl rfl 8 (by decide) (hts _ kX8_remembers_f152) (fun _ h9 => h9) rfl dX8_remembers_72 ?_
    refine lv_iconst (v := nI 1) hx hb dX8_remembers_75 (by decide) ?_
    refine lv_iadd hx hb dX8_remembers_76 ?_
    refine lv_is (nI_add (sc 8) 1) ?_
    refine va_put (D := g.1) (cl := vwCl) (ci := 8) (v := .int (nI ((sc 8) + 1))) (ty := .int) (C := RX8) (T := TX8) (N := 29) hx hb hts hX8_remembers_X8 tyX8 tyX8_ok nmX8 hown hK hP hD hS 0 rfl rfl 8 (by decide) (hts _ kX8_remembers_f152) (fun _ h9 => h9) rfl (by decide +kernel) (rfl) (rfl) (Nat.le_of_ble_eq_true rfl) dX8_remembers_77 (fun H locs hP hD hS => ?_)
    have hP : va_P g.1 vwCl (mW g o a (updN sc 8 ((sc 8) + 1)) (upA (upA ar 9 (cpL (ar 9) (ar 7) (115 * (sc 8)) 0 115)) 7 (ar 7))) H := hP
    have hD : va_D A (mW g o a (updN sc 8 ((sc 8) + 1)) (upA (upA ar 9 (cpL (ar 9) (ar 7) (115 * (sc 8)) 0 115)) 7 (ar 7))) := hD
    exact hret () H locs 80 ls (trivial) (by rw [show mRemN (sc 8) = (sc 8) + 1 by simp [mRemN, c_1], show mRemW (ar 9) (ar 7) (sc 8) = cpL (ar 9) (ar 7) (115 * (sc 8)) 0 115 by rw [mRemW, if_neg (by assumption)]]; exact hP) (by rw [show mRemN (sc 8) = (sc 8) + 1 by simp [mRemN, c_1], show mRemW (ar 9) (ar 7) (sc 8) = cpL (ar 9) (ar 7) (115 * (sc 8)) 0 115 by rw [mRemW, if_neg (by assumption)]]; exact hD) hS dX8_remembers_80
  · replace c_1 : (sc 8) = 8 := (nI_eq (a := sc 8) (b := 8) (by omega) (by omega)).mp c_1
    refine lv_iconst (v := nI 0) hx hb dX8_remembers_9 (by decide) ?_
    refine lv_istore_n (lv' := [(1, .int (nI 0)), (0, .ref o)]) hx hb dX8_remembers_10 rfl hl (by decide) rfl (fun ls hl => ?_)
    have LP11 : ∀ (fu : Nat) (j : Nat) (f : Nat → Int32), 805 - j < fu → (j ≤ 805) → (f = mSh (ar 9) j) → ∀ (H : Heap) (locs : List Loc), va_P g.1 vwCl (mW g o a sc (upA ar 9 f)) H → va_D A (mW g o a sc (upA ar 9 f)) → va_S A s.heap H locs → ∀ (ls : Array Slot), lv_has ls 2 [(1, .int (nI j)), (0, .ref o)] → W p l e ({ frames := 1, cells := 0, slots := 0, locals := 25 } : Room) s m args below meth c H locs 0 0 Q (F0 m 11 ls []) := by
      intro fu
      induction fu with
      | zero => intro j f hfu; exact absurd hfu (Nat.not_lt_zero _)
      | succ fu ih11 =>
        intro j f hfu hj ef H locs hP hD hS ls hl
        refine lv_iload_n hx hb dX8_remembers_11 rfl (lv_at hl 0 rfl) ?_
        refine lv_sipush (v := nI 805) hx hb dX8_remembers_12 (by decide) ?_
        refine lv_icmp_ge (tgt := 39) hx hb dX8_remembers_15 (by decide) (fun c_4 => ?_) (fun c_4 => ?_)
        · replace c_4 : 805 ≤ j := (nI_leI (a := 805) (b := j) (by omega) (by omega)).mp c_4
          refine lv_aload_n hx hb dX8_remembers_39 rfl (lv_at hl 1 rfl) ?_
          refine lv_dup hx hb dX8_remembers_40 rfl ?_
          refine va_get (D := g.1) (cl := vwCl) (ci := 8) (v := .int (nI (sc 8))) (C := RX8) (T := TX8) (N := 29) hx hb hts hX8_remembers_X8 hown hK hP 0 rfl rfl 8 (by decide) (hts _ kX8_remembers_f152) (fun _ h9 => h9) rfl dX8_remembers_41 ?_
          refine lv_iconst (v := nI 1) hx hb dX8_remembers_44 (by decide) ?_
          refine lv_isub hx hb dX8_remembers_45 ?_
          refine lv_is (pk_sub (a := sc 8) (b := 1) (by omega)) ?_
          refine va_put (D := g.1) (cl := vwCl) (ci := 8) (v := .int (nI ((sc 8) - 1))) (ty := .int) (C := RX8) (T := TX8) (N := 29) hx hb hts hX8_remembers_X8 tyX8 tyX8_ok nmX8 hown hK hP hD hS 0 rfl rfl 8 (by decide) (hts _ kX8_remembers_f152) (fun _ h9 => h9) rfl (by decide +kernel) (rfl) (rfl) (Nat.le_of_ble_eq_true rfl) dX8_remembers_46 (fun H locs hP hD hS => ?_)
          have hP : va_P g.1 vwCl (mW g o a (updN sc 8 ((sc 8) - 1)) (upA ar 9 f)) H := hP
          have hD : va_D A (mW g o a (updN sc 8 ((sc 8) - 1)) (upA ar 9 f)) := hD
          refine lv_aload_n hx hb dX8_remembers_49 rfl (lv_at hl 1 rfl) ?_
          refine va_get (D := g.1) (cl := vwCl) (ci := 8) (v := .ref (a 9)) (C := RX8) (T := TX8) (N := 29) hx hb hts hX8_remembers_X8 hown hK hP 0 rfl rfl 9 (by decide) (hts _ kX8_remembers_f22) (fun _ h9 => h9) rfl dX8_remembers_50 ?_
          refine lv_bipush (v := nI 115) hx hb dX8_remembers_53 (by decide) ?_
          refine lv_aload_n hx hb dX8_remembers_55 rfl (lv_at hl 1 rfl) ?_
          refine va_get (D := g.1) (cl := vwCl) (ci := 8) (v := .int (nI ((sc 8) - 1))) (C := RX8) (T := TX8) (N := 29) hx hb hts hX8_remembers_X8 hown hK hP 0 rfl rfl 8 (by decide) (hts _ kX8_remembers_f152) (fun _ h9 => h9) rfl dX8_remembers_56 ?_
          refine lv_imul hx hb dX8_remembers_59 ?_
          refine lv_is (pk_mul 115 ((sc 8) - 1)) ?_
          refine lv_aload_n hx hb dX8_remembers_60 rfl (lv_at hl 1 rfl) ?_
          refine va_get (D := g.1) (cl := vwCl) (ci := 8) (v := .ref (a 7)) (C := RX8) (T := TX8) (N := 29) hx hb hts hX8_remembers_X8 hown hK hP 0 rfl rfl 7 (by decide) (hts _ kX8_remembers_f19) (fun _ h9 => h9) rfl dX8_remembers_61 ?_
          refine lv_iconst (v := nI 0) hx hb dX8_remembers_64 (by decide) ?_
          refine lv_bipush (v := nI 115) hx hb dX8_remembers_65 (by decide) ?_
          refine wr_callSv (As := [.ref (a 9), .int (nI (115 * ((sc 8) - 1))), .ref (a 7), .int (nI 0), .int (nI 115)]) (rest := []) ctx hKK hP hD hS (c_X8_copies_920_115_115 l g (a 9) (a 7) f (ar 7) (115 * ((sc 8) - 1)) 0 (by omega) (by omega)) gX8_remembers_X8_copies rfl rfl rfl hdX8_copies ⟨Nat.le_of_ble_eq_true rfl, Nat.le_of_ble_eq_true rfl⟩ [5, 4] rfl rfl (fun _ _ => rfl) hl.1 rfl rfl (Nat.le_of_ble_eq_true rfl) dX8_remembers_67 (fun u_6 H locs hr_5 hP hD hS => ?_)
          have hP : va_P g.1 vwCl (mW g o a (updN sc 8 ((sc 8) - 1)) (upA (upA ar 9 (cpL f (ar 7) (115 * ((sc 8) - 1)) 0 115)) 7 (ar 7))) H := hP
          have hD : va_D A (mW g o a (updN sc 8 ((sc 8) - 1)) (upA (upA ar 9 (cpL f (ar 7) (115 * ((sc 8) - 1)) 0 115)) 7 (ar 7))) := hD
          refine lv_aload_n hx hb dX8_remembers_70 rfl (lv_at hl 1 rfl) ?_
          refine lv_dup hx hb dX8_remembers_71 rfl ?_
          refine va_get (D := g.1) (cl := vwCl) (ci := 8) (v := .int (nI ((sc 8) - 1))) (C := RX8) (T := TX8) (N := 29) hx hb hts hX8_remembers_X8 hown hK hP 0 rfl rfl 8 (by decide) (hts _ kX8_remembers_f152) (fun _ h9 => h9) rfl dX8_remembers_72 ?_
          refine lv_iconst (v := nI 1) hx hb dX8_remembers_75 (by decide) ?_
          refine lv_iadd hx hb dX8_remembers_76 ?_
          refine lv_is (nI_add ((sc 8) - 1) 1) ?_
          refine va_put (D := g.1) (cl := vwCl) (ci := 8) (v := .int (nI (((sc 8) - 1) + 1))) (ty := .int) (C := RX8) (T := TX8) (N := 29) hx hb hts hX8_remembers_X8 tyX8 tyX8_ok nmX8 hown hK hP hD hS 0 rfl rfl 8 (by decide) (hts _ kX8_remembers_f152) (fun _ h9 => h9) rfl (by decide +kernel) (rfl) (rfl) (Nat.le_of_ble_eq_true rfl) dX8_remembers_77 (fun H locs hP hD hS => ?_)
          have hP : va_P g.1 vwCl (mW g o a (updN sc 8 (((sc 8) - 1) + 1)) (upA (upA ar 9 (cpL f (ar 7) (115 * ((sc 8) - 1)) 0 115)) 7 (ar 7))) H := hP
          have hD : va_D A (mW g o a (updN sc 8 (((sc 8) - 1) + 1)) (upA (upA ar 9 (cpL f (ar 7) (115 * ((sc 8) - 1)) 0 115)) 7 (ar 7))) := hD
          exact hret () H locs 80 ls (trivial) (by rw [show mRemN (sc 8) = ((sc 8) - 1) + 1 by simp [mRemN, c_1, c_4], show mRemW (ar 9) (ar 7) (sc 8) = cpL f (ar 7) (115 * ((sc 8) - 1)) 0 115 by rw [mRemW, if_pos (by assumption), ef, show j = 805 by omega]]; exact hP) (by rw [show mRemN (sc 8) = ((sc 8) - 1) + 1 by simp [mRemN, c_1, c_4], show mRemW (ar 9) (ar 7) (sc 8) = cpL f (ar 7) (115 * ((sc 8) - 1)) 0 115 by rw [mRemW, if_pos (by assumption), ef, show j = 805 by omega]]; exact hD) hS dX8_remembers_80
        · replace c_4 : ¬ 805 ≤ j := fun h => c_4 ((nI_leI (a := 805) (b := j) (by omega) (by omega)).mpr h)
          refine lv_aload_n hx hb dX8_remembers_18 rfl (lv_at hl 1 rfl) ?_
          refine va_get (D := g.1) (cl := vwCl) (ci := 8) (v := .ref (a 9)) (C := RX8) (T := TX8) (N := 29) hx hb hts hX8_remembers_X8 hown hK hP 0 rfl rfl 9 (by decide) (hts _ kX8_remembers_f22) (fun _ h9 => h9) rfl dX8_remembers_19 ?_
          refine lv_iload_n hx hb dX8_remembers_22 rfl (lv_at hl 0 rfl) ?_
          refine lv_aload_n hx hb dX8_remembers_23 rfl (lv_at hl 1 rfl) ?_
          refine va_get (D := g.1) (cl := vwCl) (ci := 8) (v := .ref (a 9)) (C := RX8) (T := TX8) (N := 29) hx hb hts hX8_remembers_X8 hown hK hP 0 rfl rfl 9 (by decide) (hts _ kX8_remembers_f22) (fun _ h9 => h9) rfl dX8_remembers_24 ?_
          refine lv_iload_n hx hb dX8_remembers_27 rfl (lv_at hl 0 rfl) ?_
          refine lv_bipush (v := nI 115) hx hb dX8_remembers_28 (by decide) ?_
          refine lv_iadd hx hb dX8_remembers_30 ?_
          refine lv_is (nI_add j 115) ?_
          refine ald_i (D := g.1) (cl := vwCl) (f := f) (i := j + 115) (n := 920) hx hb hK hP 5 0 rfl rfl (by omega) (by decide) dX8_remembers_31 ?_
          refine ast_i (D := g.1) (cl := vwCl) (f := f) (i := j) (n := 920) (x := f (j + 115)) hx hb hK hP hD hS 5 0 rfl rfl (by omega) (by decide) dX8_remembers_32 (fun H locs hP hD hS => ?_)
          have hP : va_P g.1 vwCl (mW g o a sc (upA ar 9 (upd f j (f (j + 115))))) H := hP
          have hD : va_D A (mW g o a sc (upA ar 9 (upd f j (f (j + 115))))) := hD
          refine lv_iinc (v := nI (j + 1)) (lv' := [(1, .int (nI (j + 1))), (0, .ref o)]) hx hb dX8_remembers_33 hl (k := 0) rfl (iincK j 1) (by decide) rfl (fun ls hl => ?_)
          refine lv_goto (tgt := 11) hx hb dX8_remembers_36 (by decide) ?_
          exact ih11 (j + 1) (upd f j (f (j + 115))) (by omega) (by omega) (by rw [mSh, ← ef]) _ _ hP hD hS ls (lv_sub hl [0, 1] rfl)
    exact LP11 806 0 (ar 9) (by omega) (by omega) (rfl) _ _ hP hD hS ls (lv_sub hl [0, 1] rfl)
theorem kX8_person_f7 : (Cond.fieldLink RX8 7 "LastCallersWordModel" "kinds" "[I" : Cond) ∈ wsX8_person := List.mem_cons_of_mem _ aw_288
theorem hX8_person_X8 : ∀ w ∈ wsX80, w ∈ wsX8_person := fun w h => List.mem_cons_of_mem _ (ac_X8 w h)
set_option maxHeartbeats 400000 in
set_option maxRecDepth 100000 in
theorem c_X8_person (l : Launch) (g : GG) (o : Nat) (a : Nat → Nat) (sc : Nat → Nat) (ar : Nat → Nat → Int32) (iv : Int32) (wv : Int32) (hP8 : sc 0 ≤ 8) : Met l yX8_person wsX8_person ({ frames := 3, cells := 0, slots := 0, locals := 74 } : Room) (wr g [.ref o, .int iv, .int wv] (mW g o a sc ar)) (wQi g (mW g o a sc ar) (fun u : (Nat → Int32) => (mW g o a sc (upA ar 28 u))) (fun rr u => rr = (if inPb (sc 0) iv = true ∧ isPb wv = true then (if wv = 0 then ar 1 iv.toNatClampNeg else mBits (mTell (ar 1) (ar 7) (sc 0) iv.toNatClampNeg) 8 - nI 1) else -1))) 0 0 (cA (mW g o a sc ar)) := by
  refine wr_starti (cc := cX8_person) (maxL := 3) (ty := .int) (by decide) rfl (Nat.le_of_ble_eq_true rfl) (fun p e s m args below meth c Q A C hP hD hS hret ls hl => ?_)
  obtain ⟨hx, hb, hml, hr, hown, hts, hlk, hKK⟩ := id C
  have hK := hKK.1
  have hown : s.vm.findClass RX8 = some m.cls := hown
  have ctx : CallFix p m c cX8_person 3 s args wsX8_person RX8 := ⟨hx, hb, hml, hown, hts⟩
  have hl : lv_has ls 3 [(0, .ref o), (1, .int iv), (2, .int wv)] := hl
  obtain ⟨H, hHe⟩ : ∃ H, H = s.heap := ⟨_, rfl⟩
  obtain ⟨locs, hLe⟩ : ∃ L : List Loc, L = [] := ⟨_, rfl⟩
  have hP : va_P g.1 vwCl (mW g o a sc ar) H := by rw [hHe]; exact hP
  have hS : va_S A s.heap H locs := by rw [hHe, hLe]; exact hS
  suffices hgo : W p l e ({ frames := 3, cells := 0, slots := 0, locals := 74 } : Room) s m args below meth c H locs 0 0 Q (F0 m 0 ls []) by rw [hHe, hLe] at hgo; exact hgo
  clear hHe hLe
  refine lv_aload_n hx hb dX8_person_0 rfl (lv_at hl 0 rfl) ?_
  refine lv_iload_n hx hb dX8_person_1 rfl (lv_at hl 1 rfl) ?_
  refine ro_callV0 (As := [.int iv]) (rest := []) (b := o) ctx hKK hP (c_X8_isPerson l g o a sc ar iv (show (sc 0) ≤ 8 from by omega)) gX8_person_X8_isPerson rfl rfl rfl hdX8_isPerson ⟨Nat.le_of_ble_eq_true rfl, Nat.le_of_ble_eq_true rfl⟩ (ci := 8) (q0 := 0) rfl rfl hl.1 rfl rfl (Nat.le_of_ble_eq_true rfl) dX8_person_2 (fun r_1 hr_1 => ?_)
  have hr_1 : r_1 = bI (inPb ((sc 0)) iv) := hr_1
  subst hr_1
  refine lv_if_eq (tgt := 17) hx hb dX8_person_5 (by decide) (fun c_2 => ?_) (fun c_2 => ?_)
  · replace c_2 := bI_f c_2
    refine lv_iconst (v := (-1)) hx hb dX8_person_17 (by decide) ?_
    exact hret (-1) (ar 28) H locs 18 ls (by simp (decide := true) [c_2]) (hP) (hD) hS (rfl) dX8_person_18
  · replace c_2 := bI_t c_2
    obtain ⟨i, hi, rfl⟩ := inPb_nat c_2 (by omega)
    refine lv_iload_n hx hb dX8_person_8 rfl (lv_at hl 2 rfl) ?_
    refine lv_iconst (v := nI 0) hx hb dX8_person_9 (by decide) ?_
    refine lv_iconst (v := nI 1) hx hb dX8_person_10 (by decide) ?_
    refine ro_callS (As := [.int wv, .int (nI 0), .int (nI 1)]) (rest := []) ctx hKK hP (c_X8_in l g wv (nI 0) (nI 1)) gX8_person_X8_in rfl rfl rfl hdX8_in ⟨Nat.le_of_ble_eq_true rfl, Nat.le_of_ble_eq_true rfl⟩ [] rfl hl.1 rfl rfl (Nat.le_of_ble_eq_true rfl) dX8_person_11 (fun r_3 hr_3 => ?_)
    subst hr_3
    refine lv_if_ne (tgt := 19) hx hb dX8_person_14 (by decide) (fun c_4 => ?_) (fun c_4 => ?_)
    · replace c_4 := bI_t c_4
      rw [isPb_inB] at c_4
      refine lv_aload_n hx hb dX8_person_19 rfl (lv_at hl 0 rfl) ?_
      refine wr_callVv0 (As := []) (rest := []) (b := o) ctx hKK hP hD hS (c_X8_asItIs l g o a sc ar) gX8_person_X8_asItIs rfl rfl rfl hdX8_asItIs ⟨Nat.le_of_ble_eq_true rfl, Nat.le_of_ble_eq_true rfl⟩ (ci := 8) (q0 := 0) rfl rfl hl.1 rfl rfl (Nat.le_of_ble_eq_true rfl) dX8_person_20 (fun u_6 H locs hr_5 hP hD hS => ?_)
      have hP : va_P g.1 vwCl (mW g o a sc (upA ar 28 (ar 7))) H := hP
      have hD : va_D A (mW g o a sc (upA ar 28 (ar 7))) := hD
      refine lv_iload_n hx hb dX8_person_23 rfl (lv_at hl 2 rfl) ?_
      refine lv_if_ne (tgt := 36) hx hb dX8_person_24 (by decide) (fun c_7 => ?_) (fun c_7 => ?_)
      · refine lv_aload_n hx hb dX8_person_36 rfl (lv_at hl 0 rfl) ?_
        refine lv_iload_n hx hb dX8_person_37 rfl (lv_at hl 1 rfl) ?_
        refine ro_callV0 (As := [.int (nI i)]) (rest := []) (b := o) ctx hKK hP (c_X8_tellsTo l g o a sc (upA ar 28 (ar 7)) i (show (sc 0) ≤ 8 from by omega) (show i < 8 from by omega)) gX8_person_X8_tellsTo rfl rfl rfl hdX8_tellsTo ⟨Nat.le_of_ble_eq_true rfl, Nat.le_of_ble_eq_true rfl⟩ (ci := 8) (q0 := 0) rfl rfl hl.1 rfl rfl (Nat.le_of_ble_eq_true rfl) dX8_person_38 (fun r_8 hr_8 => ?_)
        have hr_8 : r_8 = mTell ((ar 1)) ((ar 7)) ((sc 0)) i := hr_8
        subst hr_8
        refine ro_callS (As := [.int (mTell ((ar 1)) ((ar 7)) ((sc 0)) i)]) (rest := []) ctx hKK hP (c_X8_bits l g (mTell ((ar 1)) ((ar 7)) ((sc 0)) i)) gX8_person_X8_bits rfl rfl rfl hdX8_bits ⟨Nat.le_of_ble_eq_true rfl, Nat.le_of_ble_eq_true rfl⟩ [] rfl hl.1 rfl rfl (Nat.le_of_ble_eq_true rfl) dX8_person_41 (fun r_9 hr_9 => ?_)
        subst hr_9
        refine lv_iconst (v := nI 1) hx hb dX8_person_44 (by decide) ?_
        refine lv_isub hx hb dX8_person_45 ?_
        exact hret ((mBits (mTell ((ar 1)) ((ar 7)) ((sc 0)) i) 8) - (nI 1)) (ar 7) H locs 46 ls (by simp (decide := true) [c_2, c_4, c_7, nI_clamp (show i < 2 ^ 31 by omega)]) (hP) (hD) hS (rfl) dX8_person_46
      · refine lv_aload_n hx hb dX8_person_27 rfl (lv_at hl 0 rfl) ?_
        refine va_get (D := g.1) (cl := vwCl) (ci := 8) (v := .ref (a 1)) (C := RX8) (T := TX8) (N := 29) hx hb hts hX8_person_X8 hown hK hP 0 rfl rfl 1 (by decide) (hts _ kX8_person_f7) (fun _ h9 => h9) rfl dX8_person_28 ?_
        refine lv_iload_n hx hb dX8_person_31 rfl (lv_at hl 1 rfl) ?_
        refine ald_i (D := g.1) (cl := vwCl) (f := ar 1) (i := i) (n := 8) hx hb hK hP 1 0 rfl rfl (by omega) (by decide) dX8_person_32 ?_
        refine lv_goto (tgt := 46) hx hb dX8_person_33 (by decide) ?_
        exact hret ((ar 1) i) (ar 7) H locs 46 ls (by simp (decide := true) [c_2, c_4, c_7, nI_clamp (show i < 2 ^ 31 by omega)]) (hP) (hD) hS (rfl) dX8_person_46
    · replace c_4 := bI_f c_4
      rw [isPb_inB] at c_4
      refine lv_iconst (v := (-1)) hx hb dX8_person_17 (by decide) ?_
      exact hret (-1) (ar 28) H locs 18 ls (by simp (decide := true) [c_2, c_4, nI_clamp (show i < 2 ^ 31 by omega)]) (hP) (hD) hS (rfl) dX8_person_18
theorem kX8_likes_f19 : (Cond.fieldLink RX8 19 "LastCallersWordModel" "st" "[I" : Cond) ∈ wsX8_likes := List.mem_cons_of_mem _ aw_291
theorem hX8_likes_X8 : ∀ w ∈ wsX80, w ∈ wsX8_likes := fun w h => List.mem_cons_of_mem _ (ac_X8 w h)
set_option maxHeartbeats 400000 in
set_option maxRecDepth 100000 in
theorem c_X8_likes (l : Launch) (g : GG) (o : Nat) (a : Nat → Nat) (sc : Nat → Nat) (ar : Nat → Nat → Int32) (iv : Int32) (jv : Int32) (hP8 : sc 0 ≤ 8) : Met l yX8_likes wsX8_likes ({ frames := 2, cells := 0, slots := 0, locals := 43 } : Room) (ro g [.ref o, .int iv, .int jv] (mW g o a sc ar)) (vp_Si (fun rr => rr = if inPb (sc 0) iv = true ∧ inPb (sc 0) jv = true then ar 7 ((1 + (8 * iv.toNatClampNeg)) + jv.toNatClampNeg) else -1)) 0 0 (fun _ => False) := by
  refine ro_start (cc := cX8_likes) (maxL := 3) (ty := .int) (by decide) rfl (Nat.le_of_ble_eq_true rfl) (fun p e s m args below meth c Q C hP hret ls hl => ?_)
  obtain ⟨hx, hb, hml, hr, hown, hts, hlk, hKK⟩ := id C
  have hK := hKK.1
  have hown : s.vm.findClass RX8 = some m.cls := hown
  have ctx : CallFix p m c cX8_likes 3 s args wsX8_likes RX8 := ⟨hx, hb, hml, hown, hts⟩
  have hl : lv_has ls 3 [(0, .ref o), (1, .int iv), (2, .int jv)] := hl
  refine lv_aload_n hx hb dX8_likes_0 rfl (lv_at hl 0 rfl) ?_
  refine lv_iload_n hx hb dX8_likes_1 rfl (lv_at hl 1 rfl) ?_
  refine ro_callV0 (As := [.int iv]) (rest := []) (b := o) ctx hKK hP (c_X8_isPerson l g o a sc ar iv (show (sc 0) ≤ 8 from by omega)) gX8_likes_X8_isPerson rfl rfl rfl hdX8_isPerson ⟨Nat.le_of_ble_eq_true rfl, Nat.le_of_ble_eq_true rfl⟩ (ci := 8) (q0 := 0) rfl rfl hl.1 rfl rfl (Nat.le_of_ble_eq_true rfl) dX8_likes_2 (fun r_1 hr_1 => ?_)
  have hr_1 : r_1 = bI (inPb ((sc 0)) iv) := hr_1
  subst hr_1
  refine lv_if_eq (tgt := 32) hx hb dX8_likes_5 (by decide) (fun c_2 => ?_) (fun c_2 => ?_)
  · replace c_2 := bI_f c_2
    refine lv_iconst (v := (-1)) hx hb dX8_likes_32 (by decide) ?_
    exact hret (-1) 33 ls (by simp [c_2]) (rfl) dX8_likes_33
  · replace c_2 := bI_t c_2
    obtain ⟨i, hi, rfl⟩ := inPb_nat c_2 (by omega)
    refine lv_aload_n hx hb dX8_likes_8 rfl (lv_at hl 0 rfl) ?_
    refine lv_iload_n hx hb dX8_likes_9 rfl (lv_at hl 2 rfl) ?_
    refine ro_callV0 (As := [.int jv]) (rest := []) (b := o) ctx hKK hP (c_X8_isPerson l g o a sc ar jv (show (sc 0) ≤ 8 from by omega)) gX8_likes_X8_isPerson rfl rfl rfl hdX8_isPerson ⟨Nat.le_of_ble_eq_true rfl, Nat.le_of_ble_eq_true rfl⟩ (ci := 8) (q0 := 0) rfl rfl hl.1 rfl rfl (Nat.le_of_ble_eq_true rfl) dX8_likes_10 (fun r_3 hr_3 => ?_)
    have hr_3 : r_3 = bI (inPb ((sc 0)) jv) := hr_3
    subst hr_3
    refine lv_if_eq (tgt := 32) hx hb dX8_likes_13 (by decide) (fun c_4 => ?_) (fun c_4 => ?_)
    · replace c_4 := bI_f c_4
      refine lv_iconst (v := (-1)) hx hb dX8_likes_32 (by decide) ?_
      exact hret (-1) 33 ls (by simp [c_2, c_4, nI_clamp (show i < 2 ^ 31 by omega)]) (rfl) dX8_likes_33
    · replace c_4 := bI_t c_4
      obtain ⟨j, hj, rfl⟩ := inPb_nat c_4 (by omega)
      refine lv_aload_n hx hb dX8_likes_16 rfl (lv_at hl 0 rfl) ?_
      refine va_get (D := g.1) (cl := vwCl) (ci := 8) (v := .ref (a 7)) (C := RX8) (T := TX8) (N := 29) hx hb hts hX8_likes_X8 hown hK hP 0 rfl rfl 7 (by decide) (hts _ kX8_likes_f19) (fun _ h9 => h9) rfl dX8_likes_17 ?_
      refine lv_iconst (v := nI 1) hx hb dX8_likes_20 (by decide) ?_
      refine lv_bipush (v := nI 8) hx hb dX8_likes_21 (by decide) ?_
      refine lv_iload_n hx hb dX8_likes_23 rfl (lv_at hl 1 rfl) ?_
      refine lv_imul hx hb dX8_likes_24 ?_
      refine lv_is (pk_mul 8 i) ?_
      refine lv_iadd hx hb dX8_likes_25 ?_
      refine lv_is (nI_add 1 (8 * i)) ?_
      refine lv_iload_n hx hb dX8_likes_26 rfl (lv_at hl 2 rfl) ?_
      refine lv_iadd hx hb dX8_likes_27 ?_
      refine lv_is (nI_add (1 + (8 * i)) j) ?_
      refine ald_i (D := g.1) (cl := vwCl) (f := ar 7) (i := (1 + (8 * i)) + j) (n := 115) hx hb hK hP 4 0 rfl rfl (by omega) (by decide) dX8_likes_28 ?_
      refine lv_goto (tgt := 33) hx hb dX8_likes_29 (by decide) ?_
      exact hret ((ar 7) ((1 + (8 * i)) + j)) 33 ls (by simp [c_2, c_4, nI_clamp (show i < 2 ^ 31 by omega), nI_clamp (show j < 2 ^ 31 by omega)]) (rfl) dX8_likes_33
theorem kX8_barredAt_f82 : (Cond.fieldLink RX8 82 "LastCallersWordModel" "persons" "I" : Cond) ∈ wsX8_barredAt := List.mem_cons_of_mem _ aw_324
theorem hX8_barredAt_X8 : ∀ w ∈ wsX80, w ∈ wsX8_barredAt := fun w h => List.mem_cons_of_mem _ (ac_X8 w h)
theorem kX8_barredAt_f19 : (Cond.fieldLink RX8 19 "LastCallersWordModel" "st" "[I" : Cond) ∈ wsX8_barredAt := List.mem_cons_of_mem _ aw_291
theorem kX8_barredAt_f146 : (Cond.fieldLink RX8 146 "LastCallersWordModel" "bars" "I" : Cond) ∈ wsX8_barredAt := List.mem_cons_of_mem _ aw_327
set_option maxHeartbeats 400000 in
set_option maxRecDepth 100000 in
theorem c_X8_barredAt (l : Launch) (g : GG) (o : Nat) (a : Nat → Nat) (sc : Nat → Nat) (ar : Nat → Nat → Int32) (d : Nat) (hP8 : sc 0 ≤ 8) (hd : d < 5) : Met l yX8_barredAt wsX8_barredAt ({ frames := 0, cells := 0, slots := 0, locals := 0 } : Room) (ro g [.ref o, .int (nI d)] (mW g o a sc ar)) (vp_Si (fun rr => rr = mBar (ar 7) (sc 6) d (sc 0))) 0 0 (fun _ => False) := by
  refine ro_start (cc := cX8_barredAt) (maxL := 4) (ty := .int) (by decide) rfl (Nat.le_of_ble_eq_true rfl) (fun p e s m args below meth c Q C hP hret ls hl => ?_)
  obtain ⟨hx, hb, hml, hr, hown, hts, hlk, hKK⟩ := id C
  have hK := hKK.1
  have hown : s.vm.findClass RX8 = some m.cls := hown
  have ctx : CallFix p m c cX8_barredAt 4 s args wsX8_barredAt RX8 := ⟨hx, hb, hml, hown, hts⟩
  have hl : lv_has ls 4 [(0, .ref o), (1, .int (nI d))] := hl
  refine lv_iconst (v := nI 0) hx hb dX8_barredAt_0 (by decide) ?_
  refine lv_istore_n (lv' := [(2, .int (nI 0)), (0, .ref o), (1, .int (nI d))]) hx hb dX8_barredAt_1 rfl hl (by decide) rfl (fun ls hl => ?_)
  refine lv_iconst (v := nI 0) hx hb dX8_barredAt_2 (by decide) ?_
  refine lv_istore_n (lv' := [(3, .int (nI 0)), (2, .int (nI 0)), (0, .ref o), (1, .int (nI d))]) hx hb dX8_barredAt_3 rfl hl (by decide) rfl (fun ls hl => ?_)
  have LP4 : ∀ (fu : Nat) (j : Nat) (x2 : Int32), sc 0 - j < fu → (j ≤ sc 0) → (x2 = mBar (ar 7) (sc 6) d j) → ∀ (ls : Array Slot), lv_has ls 4 [(3, .int (nI j)), (2, .int x2), (0, .ref o), (1, .int (nI d))] → W p l e ({ frames := 0, cells := 0, slots := 0, locals := 0 } : Room) s m args below meth c s.heap [] 0 0 Q (F0 m 4 ls []) := by
    intro fu
    induction fu with
    | zero => intro j x2 hfu; exact absurd hfu (Nat.not_lt_zero _)
    | succ fu ih4 =>
      intro j x2 hfu hj e2 ls hl
      refine lv_iload_n hx hb dX8_barredAt_4 rfl (lv_at hl 0 rfl) ?_
      refine lv_aload_n hx hb dX8_barredAt_5 rfl (lv_at hl 2 rfl) ?_
      refine va_get (D := g.1) (cl := vwCl) (ci := 8) (v := .int (nI (sc 0))) (C := RX8) (T := TX8) (N := 29) hx hb hts hX8_barredAt_X8 hown hK hP 0 rfl rfl 0 (by decide) (hts _ kX8_barredAt_f82) (fun _ h9 => h9) rfl dX8_barredAt_6 ?_
      refine lv_icmp_ge (tgt := 49) hx hb dX8_barredAt_9 (by decide) (fun c_1 => ?_) (fun c_1 => ?_)
      · replace c_1 : (sc 0) ≤ j := (nI_leI (a := sc 0) (b := j) (by omega) (by omega)).mp c_1
        refine lv_iload_n hx hb dX8_barredAt_49 rfl (lv_at hl 1 rfl) ?_
        exact hret x2 50 ls (by rw [e2, show j = sc 0 by omega]) (rfl) dX8_barredAt_50
      · replace c_1 : ¬ (sc 0) ≤ j := fun h => c_1 ((nI_leI (a := sc 0) (b := j) (by omega) (by omega)).mpr h)
        refine lv_iload_n hx hb dX8_barredAt_12 rfl (lv_at hl 1 rfl) ?_
        refine lv_aload_n hx hb dX8_barredAt_13 rfl (lv_at hl 2 rfl) ?_
        refine va_get (D := g.1) (cl := vwCl) (ci := 8) (v := .ref (a 7)) (C := RX8) (T := TX8) (N := 29) hx hb hts hX8_barredAt_X8 hown hK hP 0 rfl rfl 7 (by decide) (hts _ kX8_barredAt_f19) (fun _ h9 => h9) rfl dX8_barredAt_14 ?_
        refine lv_bipush (v := nI 75) hx hb dX8_barredAt_17 (by decide) ?_
        refine lv_bipush (v := nI 8) hx hb dX8_barredAt_19 (by decide) ?_
        refine lv_iload_n hx hb dX8_barredAt_21 rfl (lv_at hl 3 rfl) ?_
        refine lv_imul hx hb dX8_barredAt_22 ?_
        refine lv_is (pk_mul 8 d) ?_
        refine lv_iadd hx hb dX8_barredAt_23 ?_
        refine lv_is (nI_add 75 (8 * d)) ?_
        refine lv_iload_n hx hb dX8_barredAt_24 rfl (lv_at hl 0 rfl) ?_
        refine lv_iadd hx hb dX8_barredAt_25 ?_
        refine lv_is (nI_add (75 + (8 * d)) j) ?_
        refine ald_i (D := g.1) (cl := vwCl) (f := ar 7) (i := (75 + (8 * d)) + j) (n := 115) hx hb hK hP 4 0 rfl rfl (by omega) (by decide) dX8_barredAt_26 ?_
        refine lv_aload_n hx hb dX8_barredAt_27 rfl (lv_at hl 2 rfl) ?_
        refine va_get (D := g.1) (cl := vwCl) (ci := 8) (v := .int (nI (sc 6))) (C := RX8) (T := TX8) (N := 29) hx hb hts hX8_barredAt_X8 hown hK hP 0 rfl rfl 6 (by decide) (hts _ kX8_barredAt_f146) (fun _ h9 => h9) rfl dX8_barredAt_28 ?_
        refine lv_icmp_lt (tgt := 40) hx hb dX8_barredAt_31 (by decide) (fun c_2 => ?_) (fun c_2 => ?_)
        · refine lv_iconst (v := nI 0) hx hb dX8_barredAt_40 (by decide) ?_
          refine lv_ior hx hb dX8_barredAt_41 ?_
          refine lv_istore_n (lv' := [(2, .int (x2 ||| (nI 0))), (3, .int (nI j)), (0, .ref o), (1, .int (nI d))]) hx hb dX8_barredAt_42 rfl hl (by decide) rfl (fun ls hl => ?_)
          refine lv_iinc (v := nI (j + 1)) (lv' := [(3, .int (nI (j + 1))), (2, .int (x2 ||| (nI 0))), (0, .ref o), (1, .int (nI d))]) hx hb dX8_barredAt_43 hl (k := 1) rfl (iincK j 1) (by decide) rfl (fun ls hl => ?_)
          refine lv_goto (tgt := 4) hx hb dX8_barredAt_46 (by decide) ?_
          exact ih4 (j + 1) (x2 ||| (nI 0)) (by omega) (by omega) (by rw [mBar, ← e2]; simp [c_1, c_2]) ls (lv_sub hl [0, 1, 2, 3] rfl)
        · refine lv_iconst (v := nI 1) hx hb dX8_barredAt_34 (by decide) ?_
          refine lv_iload_n hx hb dX8_barredAt_35 rfl (lv_at hl 0 rfl) ?_
          refine lv_ishl hx hb dX8_barredAt_36 ?_
          refine lv_goto (tgt := 41) hx hb dX8_barredAt_37 (by decide) ?_
          refine lv_ior hx hb dX8_barredAt_41 ?_
          refine lv_istore_n (lv' := [(2, .int (x2 ||| ((nI 1) <<< ((nI j) &&& 31)))), (3, .int (nI j)), (0, .ref o), (1, .int (nI d))]) hx hb dX8_barredAt_42 rfl hl (by decide) rfl (fun ls hl => ?_)
          refine lv_iinc (v := nI (j + 1)) (lv' := [(3, .int (nI (j + 1))), (2, .int (x2 ||| ((nI 1) <<< ((nI j) &&& 31)))), (0, .ref o), (1, .int (nI d))]) hx hb dX8_barredAt_43 hl (k := 1) rfl (iincK j 1) (by decide) rfl (fun ls hl => ?_)
          refine lv_goto (tgt := 4) hx hb dX8_barredAt_46 (by decide) ?_
          exact ih4 (j + 1) (x2 ||| ((nI 1) <<< ((nI j) &&& 31))) (by omega) (by omega) (by rw [mBar, ← e2]; simp [c_1, c_2]) ls (lv_sub hl [0, 1, 2, 3] rfl)
  exact LP4 (sc 0 + 1) 0 (nI 0) (by omega) (by omega) (rfl) ls (lv_sub hl [0, 1, 2, 3] rfl)
theorem kX8_door_f19 : (Cond.fieldLink RX8 19 "LastCallersWordModel" "st" "[I" : Cond) ∈ wsX8_door := List.mem_cons_of_mem _ aw_291
theorem hX8_door_X8 : ∀ w ∈ wsX80, w ∈ wsX8_door := fun w h => List.mem_cons_of_mem _ (ac_X8 w h)
theorem kX8_door_f13 : (Cond.fieldLink RX8 13 "LastCallersWordModel" "hosts" "[I" : Cond) ∈ wsX8_door := List.mem_cons_of_mem _ aw_289
set_option maxHeartbeats 400000 in
set_option maxRecDepth 100000 in
theorem c_X8_door (l : Launch) (g : GG) (o : Nat) (a : Nat → Nat) (sc : Nat → Nat) (ar : Nat → Nat → Int32) (dv : Int32) (wv : Int32) (hP8 : sc 0 ≤ 8) (hD5 : sc 2 ≤ 5) : Met l yX8_door wsX8_door ({ frames := 2, cells := 0, slots := 0, locals := 43 } : Room) (ro g [.ref o, .int dv, .int wv] (mW g o a sc ar)) (vp_Si (fun rr => rr = if inPb (sc 2) dv = true ∧ inB wv (nI 0) (nI 3) = true then (if wv = 0 then ar 3 dv.toNatClampNeg else if wv = nI 1 then ar 7 (65 + dv.toNatClampNeg) else if wv = nI 2 then ar 7 (70 + dv.toNatClampNeg) else mBar (ar 7) (sc 6) dv.toNatClampNeg (sc 0)) else -1)) 0 0 (fun _ => False) := by
  refine ro_start (cc := cX8_door) (maxL := 3) (ty := .int) (by decide) rfl (Nat.le_of_ble_eq_true rfl) (fun p e s m args below meth c Q C hP hret ls hl => ?_)
  obtain ⟨hx, hb, hml, hr, hown, hts, hlk, hKK⟩ := id C
  have hK := hKK.1
  have hown : s.vm.findClass RX8 = some m.cls := hown
  have ctx : CallFix p m c cX8_door 3 s args wsX8_door RX8 := ⟨hx, hb, hml, hown, hts⟩
  have hl : lv_has ls 3 [(0, .ref o), (1, .int dv), (2, .int wv)] := hl
  refine lv_aload_n hx hb dX8_door_0 rfl (lv_at hl 0 rfl) ?_
  refine lv_iload_n hx hb dX8_door_1 rfl (lv_at hl 1 rfl) ?_
  refine ro_callV0 (As := [.int dv]) (rest := []) (b := o) ctx hKK hP (c_X8_isDoor l g o a sc ar dv (show (sc 2) ≤ 5 from by omega)) gX8_door_X8_isDoor rfl rfl rfl hdX8_isDoor ⟨Nat.le_of_ble_eq_true rfl, Nat.le_of_ble_eq_true rfl⟩ (ci := 8) (q0 := 0) rfl rfl hl.1 rfl rfl (Nat.le_of_ble_eq_true rfl) dX8_door_2 (fun r_1 hr_1 => ?_)
  have hr_1 : r_1 = bI (inPb ((sc 2)) dv) := hr_1
  subst hr_1
  refine lv_if_eq (tgt := 17) hx hb dX8_door_5 (by decide) (fun c_2 => ?_) (fun c_2 => ?_)
  · replace c_2 := bI_f c_2
    refine lv_iconst (v := (-1)) hx hb dX8_door_17 (by decide) ?_
    exact hret (-1) 18 ls (by simp (decide := true) [c_2]) (rfl) dX8_door_18
  · replace c_2 := bI_t c_2
    obtain ⟨d, hd, rfl⟩ := inPb_nat c_2 (by omega)
    refine lv_iload_n hx hb dX8_door_8 rfl (lv_at hl 2 rfl) ?_
    refine lv_iconst (v := nI 0) hx hb dX8_door_9 (by decide) ?_
    refine lv_iconst (v := nI 3) hx hb dX8_door_10 (by decide) ?_
    refine ro_callS (As := [.int wv, .int (nI 0), .int (nI 3)]) (rest := []) ctx hKK hP (c_X8_in l g wv (nI 0) (nI 3)) gX8_door_X8_in rfl rfl rfl hdX8_in ⟨Nat.le_of_ble_eq_true rfl, Nat.le_of_ble_eq_true rfl⟩ [] rfl hl.1 rfl rfl (Nat.le_of_ble_eq_true rfl) dX8_door_11 (fun r_3 hr_3 => ?_)
    subst hr_3
    refine lv_if_ne (tgt := 19) hx hb dX8_door_14 (by decide) (fun c_4 => ?_) (fun c_4 => ?_)
    · replace c_4 := bI_t c_4
      refine lv_iload_n hx hb dX8_door_19 rfl (lv_at hl 2 rfl) ?_
      refine lv_if_ne (tgt := 32) hx hb dX8_door_20 (by decide) (fun c_5 => ?_) (fun c_5 => ?_)
      · refine lv_iload_n hx hb dX8_door_32 rfl (lv_at hl 2 rfl) ?_
        refine lv_iconst (v := nI 1) hx hb dX8_door_33 (by decide) ?_
        refine lv_icmp_ne (tgt := 49) hx hb dX8_door_34 (by decide) (fun c_6 => ?_) (fun c_6 => ?_)
        · refine lv_iload_n hx hb dX8_door_49 rfl (lv_at hl 2 rfl) ?_
          refine lv_iconst (v := nI 2) hx hb dX8_door_50 (by decide) ?_
          refine lv_icmp_ne (tgt := 66) hx hb dX8_door_51 (by decide) (fun c_7 => ?_) (fun c_7 => ?_)
          · refine lv_aload_n hx hb dX8_door_66 rfl (lv_at hl 0 rfl) ?_
            refine lv_iload_n hx hb dX8_door_67 rfl (lv_at hl 1 rfl) ?_
            refine ro_callV0 (As := [.int (nI d)]) (rest := []) (b := o) ctx hKK hP (c_X8_barredAt l g o a sc ar d (show (sc 0) ≤ 8 from by omega) (show d < 5 from by omega)) gX8_door_X8_barredAt rfl rfl rfl hdX8_barredAt ⟨Nat.le_of_ble_eq_true rfl, Nat.le_of_ble_eq_true rfl⟩ (ci := 8) (q0 := 0) rfl rfl hl.1 rfl rfl (Nat.le_of_ble_eq_true rfl) dX8_door_68 (fun r_8 hr_8 => ?_)
            have hr_8 : r_8 = mBar ((ar 7)) ((sc 6)) d ((sc 0)) := hr_8
            subst hr_8
            exact hret (mBar ((ar 7)) ((sc 6)) d ((sc 0))) 71 ls (by simp (decide := true) [c_2, c_4, c_5, c_6, c_7, nI_clamp (show d < 2 ^ 31 by omega)]) (rfl) dX8_door_71
          · refine lv_aload_n hx hb dX8_door_54 rfl (lv_at hl 0 rfl) ?_
            refine va_get (D := g.1) (cl := vwCl) (ci := 8) (v := .ref (a 7)) (C := RX8) (T := TX8) (N := 29) hx hb hts hX8_door_X8 hown hK hP 0 rfl rfl 7 (by decide) (hts _ kX8_door_f19) (fun _ h9 => h9) rfl dX8_door_55 ?_
            refine lv_bipush (v := nI 70) hx hb dX8_door_58 (by decide) ?_
            refine lv_iload_n hx hb dX8_door_60 rfl (lv_at hl 1 rfl) ?_
            refine lv_iadd hx hb dX8_door_61 ?_
            refine lv_is (nI_add 70 d) ?_
            refine ald_i (D := g.1) (cl := vwCl) (f := ar 7) (i := 70 + d) (n := 115) hx hb hK hP 4 0 rfl rfl (by omega) (by decide) dX8_door_62 ?_
            refine lv_goto (tgt := 71) hx hb dX8_door_63 (by decide) ?_
            exact hret ((ar 7) (70 + d)) 71 ls (by simp (decide := true) [c_2, c_4, c_5, c_6, c_7, nI_clamp (show d < 2 ^ 31 by omega)]) (rfl) dX8_door_71
        · refine lv_aload_n hx hb dX8_door_37 rfl (lv_at hl 0 rfl) ?_
          refine va_get (D := g.1) (cl := vwCl) (ci := 8) (v := .ref (a 7)) (C := RX8) (T := TX8) (N := 29) hx hb hts hX8_door_X8 hown hK hP 0 rfl rfl 7 (by decide) (hts _ kX8_door_f19) (fun _ h9 => h9) rfl dX8_door_38 ?_
          refine lv_bipush (v := nI 65) hx hb dX8_door_41 (by decide) ?_
          refine lv_iload_n hx hb dX8_door_43 rfl (lv_at hl 1 rfl) ?_
          refine lv_iadd hx hb dX8_door_44 ?_
          refine lv_is (nI_add 65 d) ?_
          refine ald_i (D := g.1) (cl := vwCl) (f := ar 7) (i := 65 + d) (n := 115) hx hb hK hP 4 0 rfl rfl (by omega) (by decide) dX8_door_45 ?_
          refine lv_goto (tgt := 71) hx hb dX8_door_46 (by decide) ?_
          exact hret ((ar 7) (65 + d)) 71 ls (by simp (decide := true) [c_2, c_4, c_5, c_6, nI_clamp (show d < 2 ^ 31 by omega)]) (rfl) dX8_door_71
      · refine lv_aload_n hx hb dX8_door_23 rfl (lv_at hl 0 rfl) ?_
        refine va_get (D := g.1) (cl := vwCl) (ci := 8) (v := .ref (a 3)) (C := RX8) (T := TX8) (N := 29) hx hb hts hX8_door_X8 hown hK hP 0 rfl rfl 3 (by decide) (hts _ kX8_door_f13) (fun _ h9 => h9) rfl dX8_door_24 ?_
        refine lv_iload_n hx hb dX8_door_27 rfl (lv_at hl 1 rfl) ?_
        refine ald_i (D := g.1) (cl := vwCl) (f := ar 3) (i := d) (n := 5) hx hb hK hP 2 0 rfl rfl (by omega) (by decide) dX8_door_28 ?_
        refine lv_goto (tgt := 71) hx hb dX8_door_29 (by decide) ?_
        exact hret ((ar 3) d) 71 ls (by simp (decide := true) [c_2, c_4, c_5, nI_clamp (show d < 2 ^ 31 by omega)]) (rfl) dX8_door_71
    · replace c_4 := bI_f c_4
      refine lv_iconst (v := (-1)) hx hb dX8_door_17 (by decide) ?_
      exact hret (-1) 18 ls (by simp (decide := true) [c_2, c_4, nI_clamp (show d < 2 ^ 31 by omega)]) (rfl) dX8_door_18
theorem kX8_call_f19 : (Cond.fieldLink RX8 19 "LastCallersWordModel" "st" "[I" : Cond) ∈ wsX8_call := List.mem_cons_of_mem _ aw_291
theorem hX8_call_X8 : ∀ w ∈ wsX80, w ∈ wsX8_call := fun w h => List.mem_cons_of_mem _ (ac_X8 w h)
theorem kX8_call_f49 : (Cond.fieldLink RX8 49 "LastCallersWordModel" "now" "[I" : Cond) ∈ wsX8_call := List.mem_cons_of_mem _ aw_301
set_option maxHeartbeats 400000 in
set_option maxRecDepth 100000 in
theorem c_X8_call (l : Launch) (g : GG) (o : Nat) (a : Nat → Nat) (sc : Nat → Nat) (ar : Nat → Nat → Int32) (iv : Int32) (dv : Int32) (hP8 : sc 0 ≤ 8) (hD5 : sc 2 ≤ 5) (hA8 : sc 8 ≤ 8) : Met l yX8_call wsX8_call ({ frames := 4, cells := 0, slots := 0, locals := 96 } : Room) (wr g [.ref o, .int iv, .int dv] (mW g o a sc ar)) (wQi g (mW g o a sc ar) (fun u : Nat × (Nat → Int32) × (Nat → Int32) × (Nat → Int32) => (mW g o a (updN sc 8 u.1) (upA (upA (upA ar 9 u.2.1) 7 u.2.2.1) 28 u.2.2.2))) (fun rr u => rr = (if inPb (sc 0) iv = true ∧ inPb (sc 2) dv = true then mBits (mCallW (ar 1) (sc 0) (ar 7) iv.toNatClampNeg dv.toNatClampNeg (70 + dv.toNatClampNeg)) 8 else -1) ∧ u = (if inPb (sc 0) iv = true ∧ inPb (sc 2) dv = true then (mRemN (sc 8), mRemW (ar 9) (ar 7) (sc 8), mCallW (ar 1) (sc 0) (ar 7) iv.toNatClampNeg dv.toNatClampNeg, mCallW (ar 1) (sc 0) (ar 7) iv.toNatClampNeg dv.toNatClampNeg) else (sc 8, ar 9, ar 7, ar 28)))) 0 0 (cA (mW g o a sc ar)) := by
  refine wr_starti (cc := cX8_call) (maxL := 3) (ty := .int) (by decide) rfl (Nat.le_of_ble_eq_true rfl) (fun p e s m args below meth c Q A C hP hD hS hret ls hl => ?_)
  obtain ⟨hx, hb, hml, hr, hown, hts, hlk, hKK⟩ := id C
  have hK := hKK.1
  have hown : s.vm.findClass RX8 = some m.cls := hown
  have ctx : CallFix p m c cX8_call 3 s args wsX8_call RX8 := ⟨hx, hb, hml, hown, hts⟩
  have hl : lv_has ls 3 [(0, .ref o), (1, .int iv), (2, .int dv)] := hl
  obtain ⟨H, hHe⟩ : ∃ H, H = s.heap := ⟨_, rfl⟩
  obtain ⟨locs, hLe⟩ : ∃ L : List Loc, L = [] := ⟨_, rfl⟩
  have hP : va_P g.1 vwCl (mW g o a sc ar) H := by rw [hHe]; exact hP
  have hS : va_S A s.heap H locs := by rw [hHe, hLe]; exact hS
  suffices hgo : W p l e ({ frames := 4, cells := 0, slots := 0, locals := 96 } : Room) s m args below meth c H locs 0 0 Q (F0 m 0 ls []) by rw [hHe, hLe] at hgo; exact hgo
  clear hHe hLe
  refine lv_aload_n hx hb dX8_call_0 rfl (lv_at hl 0 rfl) ?_
  refine lv_iload_n hx hb dX8_call_1 rfl (lv_at hl 1 rfl) ?_
  refine ro_callV0 (As := [.int iv]) (rest := []) (b := o) ctx hKK hP (c_X8_isPerson l g o a sc ar iv (show (sc 0) ≤ 8 from by omega)) gX8_call_X8_isPerson rfl rfl rfl hdX8_isPerson ⟨Nat.le_of_ble_eq_true rfl, Nat.le_of_ble_eq_true rfl⟩ (ci := 8) (q0 := 0) rfl rfl hl.1 rfl rfl (Nat.le_of_ble_eq_true rfl) dX8_call_2 (fun r_1 hr_1 => ?_)
  have hr_1 : r_1 = bI (inPb ((sc 0)) iv) := hr_1
  subst hr_1
  refine lv_if_eq (tgt := 16) hx hb dX8_call_5 (by decide) (fun c_2 => ?_) (fun c_2 => ?_)
  · replace c_2 := bI_f c_2
    refine lv_iconst (v := (-1)) hx hb dX8_call_16 (by decide) ?_
    exact hret (-1) (sc 8, ar 9, ar 7, ar 28) H locs 17 ls (⟨by simp [c_2], by simp [c_2]⟩) (hP) (hD) hS (rfl) dX8_call_17
  · replace c_2 := bI_t c_2
    obtain ⟨i, hi, rfl⟩ := inPb_nat c_2 (by omega)
    refine lv_aload_n hx hb dX8_call_8 rfl (lv_at hl 0 rfl) ?_
    refine lv_iload_n hx hb dX8_call_9 rfl (lv_at hl 2 rfl) ?_
    refine ro_callV0 (As := [.int dv]) (rest := []) (b := o) ctx hKK hP (c_X8_isDoor l g o a sc ar dv (show (sc 2) ≤ 5 from by omega)) gX8_call_X8_isDoor rfl rfl rfl hdX8_isDoor ⟨Nat.le_of_ble_eq_true rfl, Nat.le_of_ble_eq_true rfl⟩ (ci := 8) (q0 := 0) rfl rfl hl.1 rfl rfl (Nat.le_of_ble_eq_true rfl) dX8_call_10 (fun r_3 hr_3 => ?_)
    have hr_3 : r_3 = bI (inPb ((sc 2)) dv) := hr_3
    subst hr_3
    refine lv_if_ne (tgt := 18) hx hb dX8_call_13 (by decide) (fun c_4 => ?_) (fun c_4 => ?_)
    · replace c_4 := bI_t c_4
      obtain ⟨d, hd, rfl⟩ := inPb_nat c_4 (by omega)
      refine lv_aload_n hx hb dX8_call_18 rfl (lv_at hl 0 rfl) ?_
      refine wr_callVv0 (As := []) (rest := []) (b := o) ctx hKK hP hD hS (c_X8_remembers l g o a sc ar (show (sc 8) ≤ 8 from by omega)) gX8_call_X8_remembers rfl rfl rfl hdX8_remembers ⟨Nat.le_of_ble_eq_true rfl, Nat.le_of_ble_eq_true rfl⟩ (ci := 8) (q0 := 0) rfl rfl hl.1 rfl rfl (Nat.le_of_ble_eq_true rfl) dX8_call_19 (fun u_6 H locs hr_5 hP hD hS => ?_)
      have hP : va_P g.1 vwCl (mW g o a (updN sc 8 (mRemN ((sc 8)))) (upA ar 9 (mRemW ((ar 9)) ((ar 7)) ((sc 8))))) H := hP
      have hD : va_D A (mW g o a (updN sc 8 (mRemN ((sc 8)))) (upA ar 9 (mRemW ((ar 9)) ((ar 7)) ((sc 8))))) := hD
      refine lv_aload_n hx hb dX8_call_22 rfl (lv_at hl 0 rfl) ?_
      refine wr_callVv0 (As := []) (rest := []) (b := o) ctx hKK hP hD hS (c_X8_asItIs l g o a (updN sc 8 (mRemN ((sc 8)))) (upA ar 9 (mRemW ((ar 9)) ((ar 7)) ((sc 8))))) gX8_call_X8_asItIs rfl rfl rfl hdX8_asItIs ⟨Nat.le_of_ble_eq_true rfl, Nat.le_of_ble_eq_true rfl⟩ (ci := 8) (q0 := 0) rfl rfl hl.1 rfl rfl (Nat.le_of_ble_eq_true rfl) dX8_call_23 (fun u_8 H locs hr_7 hP hD hS => ?_)
      have hP : va_P g.1 vwCl (mW g o a (updN sc 8 (mRemN ((sc 8)))) (upA (upA ar 9 (mRemW ((ar 9)) ((ar 7)) ((sc 8)))) 28 (ar 7))) H := hP
      have hD : va_D A (mW g o a (updN sc 8 (mRemN ((sc 8)))) (upA (upA ar 9 (mRemW ((ar 9)) ((ar 7)) ((sc 8)))) 28 (ar 7))) := hD
      refine lv_aload_n hx hb dX8_call_26 rfl (lv_at hl 0 rfl) ?_
      refine lv_iload_n hx hb dX8_call_27 rfl (lv_at hl 1 rfl) ?_
      refine lv_iload_n hx hb dX8_call_28 rfl (lv_at hl 2 rfl) ?_
      refine wr_callVv0 (As := [.int (nI i), .int (nI d)]) (rest := []) (b := o) ctx hKK hP hD hS (c_X8_calls l g o a (updN sc 8 (mRemN ((sc 8)))) (upA (upA ar 9 (mRemW ((ar 9)) ((ar 7)) ((sc 8)))) 28 (ar 7)) i d (show (sc 0) ≤ 8 from by omega) (show i < 8 from by omega) (show d < 5 from by omega)) gX8_call_X8_calls rfl rfl rfl hdX8_calls ⟨Nat.le_of_ble_eq_true rfl, Nat.le_of_ble_eq_true rfl⟩ (ci := 8) (q0 := 0) rfl rfl hl.1 rfl rfl (Nat.le_of_ble_eq_true rfl) dX8_call_29 (fun u_10 H locs hr_9 hP hD hS => ?_)
      have hP : va_P g.1 vwCl (mW g o a (updN sc 8 (mRemN ((sc 8)))) (upA (upA ar 9 (mRemW ((ar 9)) ((ar 7)) ((sc 8)))) 28 (mCallW ((ar 1)) ((sc 0)) ((ar 7)) i d))) H := hP
      have hD : va_D A (mW g o a (updN sc 8 (mRemN ((sc 8)))) (upA (upA ar 9 (mRemW ((ar 9)) ((ar 7)) ((sc 8)))) 28 (mCallW ((ar 1)) ((sc 0)) ((ar 7)) i d))) := hD
      refine lv_aload_n hx hb dX8_call_32 rfl (lv_at hl 0 rfl) ?_
      refine va_get (D := g.1) (cl := vwCl) (ci := 8) (v := .ref (a 7)) (C := RX8) (T := TX8) (N := 29) hx hb hts hX8_call_X8 hown hK hP 0 rfl rfl 7 (by decide) (hts _ kX8_call_f19) (fun _ h9 => h9) rfl dX8_call_33 ?_
      refine lv_iconst (v := nI 0) hx hb dX8_call_36 (by decide) ?_
      refine lv_aload_n hx hb dX8_call_37 rfl (lv_at hl 0 rfl) ?_
      refine va_get (D := g.1) (cl := vwCl) (ci := 8) (v := .ref (a 28)) (C := RX8) (T := TX8) (N := 29) hx hb hts hX8_call_X8 hown hK hP 0 rfl rfl 28 (by decide) (hts _ kX8_call_f49) (fun _ h9 => h9) rfl dX8_call_38 ?_
      refine lv_iconst (v := nI 0) hx hb dX8_call_41 (by decide) ?_
      refine lv_bipush (v := nI 115) hx hb dX8_call_42 (by decide) ?_
      refine wr_callSv (As := [.ref (a 7), .int (nI 0), .ref (a 28), .int (nI 0), .int (nI 115)]) (rest := []) ctx hKK hP hD hS (c_X8_copies_115_115_115w l g (a 7) (a 28) (ar 7) (mCallW ((ar 1)) ((sc 0)) ((ar 7)) i d)) gX8_call_X8_copies rfl rfl rfl hdX8_copies ⟨Nat.le_of_ble_eq_true rfl, Nat.le_of_ble_eq_true rfl⟩ [4, 14] rfl rfl (fun _ _ => rfl) hl.1 rfl rfl (Nat.le_of_ble_eq_true rfl) dX8_call_44 (fun u_12 H locs hr_11 hP hD hS => ?_)
      have hP : va_P g.1 vwCl (mW g o a (updN sc 8 (mRemN ((sc 8)))) (upA (upA (upA ar 9 (mRemW ((ar 9)) ((ar 7)) ((sc 8)))) 7 (mCallW ((ar 1)) ((sc 0)) ((ar 7)) i d)) 28 (mCallW ((ar 1)) ((sc 0)) ((ar 7)) i d))) H := hP
      have hD : va_D A (mW g o a (updN sc 8 (mRemN ((sc 8)))) (upA (upA (upA ar 9 (mRemW ((ar 9)) ((ar 7)) ((sc 8)))) 7 (mCallW ((ar 1)) ((sc 0)) ((ar 7)) i d)) 28 (mCallW ((ar 1)) ((sc 0)) ((ar 7)) i d))) := hD
      refine lv_aload_n hx hb dX8_call_47 rfl (lv_at hl 0 rfl) ?_
      refine va_get (D := g.1) (cl := vwCl) (ci := 8) (v := .ref (a 7)) (C := RX8) (T := TX8) (N := 29) hx hb hts hX8_call_X8 hown hK hP 0 rfl rfl 7 (by decide) (hts _ kX8_call_f19) (fun _ h9 => h9) rfl dX8_call_48 ?_
      refine lv_bipush (v := nI 70) hx hb dX8_call_51 (by decide) ?_
      refine lv_iload_n hx hb dX8_call_53 rfl (lv_at hl 2 rfl) ?_
      refine lv_iadd hx hb dX8_call_54 ?_
      refine lv_is (nI_add 70 d) ?_
      refine ald_i (D := g.1) (cl := vwCl) (f := mCallW ((ar 1)) ((sc 0)) ((ar 7)) i d) (i := 70 + d) (n := 115) hx hb hK hP 4 0 rfl rfl (by omega) (by decide) dX8_call_55 ?_
      refine ro_callS (As := [.int ((mCallW ((ar 1)) ((sc 0)) ((ar 7)) i d) (70 + d))]) (rest := []) ctx hKK hP (c_X8_bits l g ((mCallW ((ar 1)) ((sc 0)) ((ar 7)) i d) (70 + d))) gX8_call_X8_bits rfl rfl rfl hdX8_bits ⟨Nat.le_of_ble_eq_true rfl, Nat.le_of_ble_eq_true rfl⟩ [] rfl hl.1 rfl rfl (Nat.le_of_ble_eq_true rfl) dX8_call_56 (fun r_13 hr_13 => ?_)
      subst hr_13
      exact hret (mBits ((mCallW ((ar 1)) ((sc 0)) ((ar 7)) i d) (70 + d)) 8) (mRemN ((sc 8)), mRemW ((ar 9)) ((ar 7)) ((sc 8)), mCallW ((ar 1)) ((sc 0)) ((ar 7)) i d, mCallW ((ar 1)) ((sc 0)) ((ar 7)) i d) H locs 59 ls (⟨by simp [c_2, c_4, nI_clamp (show i < 2 ^ 31 by omega), nI_clamp (show d < 2 ^ 31 by omega)], by simp [c_2, c_4, nI_clamp (show i < 2 ^ 31 by omega), nI_clamp (show d < 2 ^ 31 by omega)]⟩) (hP) (hD) hS (rfl) dX8_call_59
    · replace c_4 := bI_f c_4
      refine lv_iconst (v := (-1)) hx hb dX8_call_16 (by decide) ?_
      exact hret (-1) (sc 8, ar 9, ar 7, ar 28) H locs 17 ls (⟨by simp [c_2, c_4, nI_clamp (show i < 2 ^ 31 by omega)], by simp [c_2, c_4, nI_clamp (show i < 2 ^ 31 by omega)]⟩) (hP) (hD) hS (rfl) dX8_call_17
theorem kX8_tries_f19 : (Cond.fieldLink RX8 19 "LastCallersWordModel" "st" "[I" : Cond) ∈ wsX8_tries := List.mem_cons_of_mem _ aw_291
theorem hX8_tries_X8 : ∀ w ∈ wsX80, w ∈ wsX8_tries := fun w h => List.mem_cons_of_mem _ (ac_X8 w h)
set_option maxHeartbeats 400000 in
set_option maxRecDepth 100000 in
theorem c_X8_tries (l : Launch) (g : GG) (o : Nat) (a : Nat → Nat) (sc : Nat → Nat) (ar : Nat → Nat → Int32) (iv : Int32) (dv : Int32) (hP8 : sc 0 ≤ 8) (hD5 : sc 2 ≤ 5) (hA8 : sc 8 ≤ 8) : Met l yX8_tries wsX8_tries ({ frames := 2, cells := 0, slots := 0, locals := 46 } : Room) (wr g [.ref o, .int iv, .int dv] (mW g o a sc ar)) (wQi g (mW g o a sc ar) (fun u : Nat × (Nat → Int32) × (Nat → Int32) × (Nat → Int32) => (mW g o a (updN sc 8 u.1) (upA (upA (upA ar 9 u.2.1) 7 u.2.2.1) 28 u.2.2.2))) (fun rr u => rr = (if inPb (sc 0) iv = true ∧ inPb (sc 2) dv = true then (if hasB (mBar (ar 7) (sc 6) dv.toNatClampNeg (sc 0)) iv = true then -2 else if hasB (ar 7 (70 + dv.toNatClampNeg)) iv = true then nI 1 else nI 0) else -1) ∧ u = (if inPb (sc 0) iv = true ∧ inPb (sc 2) dv = true then (if hasB (mBar (ar 7) (sc 6) dv.toNatClampNeg (sc 0)) iv = true then (sc 8, ar 9, ar 7, ar 28) else if hasB (ar 7 (70 + dv.toNatClampNeg)) iv = true then (mRemN (sc 8), mRemW (ar 9) (ar 7) (sc 8), ar 7, ar 28) else (mRemN (sc 8), mRemW (ar 9) (ar 7) (sc 8), upd (ar 7) ((75 + (8 * dv.toNatClampNeg)) + iv.toNatClampNeg) (ar 7 ((75 + (8 * dv.toNatClampNeg)) + iv.toNatClampNeg) + nI 1), ar 28)) else (sc 8, ar 9, ar 7, ar 28)))) 0 0 (cA (mW g o a sc ar)) := by
  refine wr_starti (cc := cX8_tries) (maxL := 3) (ty := .int) (by decide) rfl (Nat.le_of_ble_eq_true rfl) (fun p e s m args below meth c Q A C hP hD hS hret ls hl => ?_)
  obtain ⟨hx, hb, hml, hr, hown, hts, hlk, hKK⟩ := id C
  have hK := hKK.1
  have hown : s.vm.findClass RX8 = some m.cls := hown
  have ctx : CallFix p m c cX8_tries 3 s args wsX8_tries RX8 := ⟨hx, hb, hml, hown, hts⟩
  have hl : lv_has ls 3 [(0, .ref o), (1, .int iv), (2, .int dv)] := hl
  obtain ⟨H, hHe⟩ : ∃ H, H = s.heap := ⟨_, rfl⟩
  obtain ⟨locs, hLe⟩ : ∃ L : List Loc, L = [] := ⟨_, rfl⟩
  have hP : va_P g.1 vwCl (mW g o a sc ar) H := by rw [hHe]; exact hP
  have hS : va_S A s.heap H locs := by rw [hHe, hLe]; exact hS
  suffices hgo : W p l e ({ frames := 2, cells := 0, slots := 0, locals := 46 } : Room) s m args below meth c H locs 0 0 Q (F0 m 0 ls []) by rw [hHe, hLe] at hgo; exact hgo
  clear hHe hLe
  refine lv_aload_n hx hb dX8_tries_0 rfl (lv_at hl 0 rfl) ?_
  refine lv_iload_n hx hb dX8_tries_1 rfl (lv_at hl 1 rfl) ?_
  refine ro_callV0 (As := [.int iv]) (rest := []) (b := o) ctx hKK hP (c_X8_isPerson l g o a sc ar iv (show (sc 0) ≤ 8 from by omega)) gX8_tries_X8_isPerson rfl rfl rfl hdX8_isPerson ⟨Nat.le_of_ble_eq_true rfl, Nat.le_of_ble_eq_true rfl⟩ (ci := 8) (q0 := 0) rfl rfl hl.1 rfl rfl (Nat.le_of_ble_eq_true rfl) dX8_tries_2 (fun r_1 hr_1 => ?_)
  have hr_1 : r_1 = bI (inPb ((sc 0)) iv) := hr_1
  subst hr_1
  refine lv_if_eq (tgt := 16) hx hb dX8_tries_5 (by decide) (fun c_2 => ?_) (fun c_2 => ?_)
  · replace c_2 := bI_f c_2
    refine lv_iconst (v := (-1)) hx hb dX8_tries_16 (by decide) ?_
    exact hret (-1) (sc 8, ar 9, ar 7, ar 28) H locs 17 ls (⟨by simp [c_2], by simp [c_2]⟩) (hP) (hD) hS (rfl) dX8_tries_17
  · replace c_2 := bI_t c_2
    obtain ⟨i, hi, rfl⟩ := inPb_nat c_2 (by omega)
    refine lv_aload_n hx hb dX8_tries_8 rfl (lv_at hl 0 rfl) ?_
    refine lv_iload_n hx hb dX8_tries_9 rfl (lv_at hl 2 rfl) ?_
    refine ro_callV0 (As := [.int dv]) (rest := []) (b := o) ctx hKK hP (c_X8_isDoor l g o a sc ar dv (show (sc 2) ≤ 5 from by omega)) gX8_tries_X8_isDoor rfl rfl rfl hdX8_isDoor ⟨Nat.le_of_ble_eq_true rfl, Nat.le_of_ble_eq_true rfl⟩ (ci := 8) (q0 := 0) rfl rfl hl.1 rfl rfl (Nat.le_of_ble_eq_true rfl) dX8_tries_10 (fun r_3 hr_3 => ?_)
    have hr_3 : r_3 = bI (inPb ((sc 2)) dv) := hr_3
    subst hr_3
    refine lv_if_ne (tgt := 18) hx hb dX8_tries_13 (by decide) (fun c_4 => ?_) (fun c_4 => ?_)
    · replace c_4 := bI_t c_4
      obtain ⟨d, hd, rfl⟩ := inPb_nat c_4 (by omega)
      refine lv_aload_n hx hb dX8_tries_18 rfl (lv_at hl 0 rfl) ?_
      refine lv_iload_n hx hb dX8_tries_19 rfl (lv_at hl 2 rfl) ?_
      refine ro_callV0 (As := [.int (nI d)]) (rest := []) (b := o) ctx hKK hP (c_X8_barredAt l g o a sc ar d (show (sc 0) ≤ 8 from by omega) (show d < 5 from by omega)) gX8_tries_X8_barredAt rfl rfl rfl hdX8_barredAt ⟨Nat.le_of_ble_eq_true rfl, Nat.le_of_ble_eq_true rfl⟩ (ci := 8) (q0 := 0) rfl rfl hl.1 rfl rfl (Nat.le_of_ble_eq_true rfl) dX8_tries_20 (fun r_5 hr_5 => ?_)
      have hr_5 : r_5 = mBar ((ar 7)) ((sc 6)) d ((sc 0)) := hr_5
      subst hr_5
      refine lv_iload_n hx hb dX8_tries_23 rfl (lv_at hl 1 rfl) ?_
      refine ro_callS (As := [.int (mBar ((ar 7)) ((sc 6)) d ((sc 0))), .int (nI i)]) (rest := []) ctx hKK hP (c_X8_has l g (mBar ((ar 7)) ((sc 6)) d ((sc 0))) (nI i)) gX8_tries_X8_has rfl rfl rfl hdX8_has ⟨Nat.le_of_ble_eq_true rfl, Nat.le_of_ble_eq_true rfl⟩ [] rfl hl.1 rfl rfl (Nat.le_of_ble_eq_true rfl) dX8_tries_24 (fun r_6 hr_6 => ?_)
      subst hr_6
      refine lv_if_eq (tgt := 33) hx hb dX8_tries_27 (by decide) (fun c_7 => ?_) (fun c_7 => ?_)
      · replace c_7 := bI_f c_7
        refine lv_aload_n hx hb dX8_tries_33 rfl (lv_at hl 0 rfl) ?_
        refine wr_callVv0 (As := []) (rest := []) (b := o) ctx hKK hP hD hS (c_X8_remembers l g o a sc ar (show (sc 8) ≤ 8 from by omega)) gX8_tries_X8_remembers rfl rfl rfl hdX8_remembers ⟨Nat.le_of_ble_eq_true rfl, Nat.le_of_ble_eq_true rfl⟩ (ci := 8) (q0 := 0) rfl rfl hl.1 rfl rfl (Nat.le_of_ble_eq_true rfl) dX8_tries_34 (fun u_9 H locs hr_8 hP hD hS => ?_)
        have hP : va_P g.1 vwCl (mW g o a (updN sc 8 (mRemN ((sc 8)))) (upA ar 9 (mRemW ((ar 9)) ((ar 7)) ((sc 8))))) H := hP
        have hD : va_D A (mW g o a (updN sc 8 (mRemN ((sc 8)))) (upA ar 9 (mRemW ((ar 9)) ((ar 7)) ((sc 8))))) := hD
        refine lv_aload_n hx hb dX8_tries_37 rfl (lv_at hl 0 rfl) ?_
        refine va_get (D := g.1) (cl := vwCl) (ci := 8) (v := .ref (a 7)) (C := RX8) (T := TX8) (N := 29) hx hb hts hX8_tries_X8 hown hK hP 0 rfl rfl 7 (by decide) (hts _ kX8_tries_f19) (fun _ h9 => h9) rfl dX8_tries_38 ?_
        refine lv_bipush (v := nI 70) hx hb dX8_tries_41 (by decide) ?_
        refine lv_iload_n hx hb dX8_tries_43 rfl (lv_at hl 2 rfl) ?_
        refine lv_iadd hx hb dX8_tries_44 ?_
        refine lv_is (nI_add 70 d) ?_
        refine ald_i (D := g.1) (cl := vwCl) (f := ar 7) (i := 70 + d) (n := 115) hx hb hK hP 4 0 rfl rfl (by omega) (by decide) dX8_tries_45 ?_
        refine lv_iload_n hx hb dX8_tries_46 rfl (lv_at hl 1 rfl) ?_
        refine ro_callS (As := [.int ((ar 7) (70 + d)), .int (nI i)]) (rest := []) ctx hKK hP (c_X8_has l g ((ar 7) (70 + d)) (nI i)) gX8_tries_X8_has rfl rfl rfl hdX8_has ⟨Nat.le_of_ble_eq_true rfl, Nat.le_of_ble_eq_true rfl⟩ [] rfl hl.1 rfl rfl (Nat.le_of_ble_eq_true rfl) dX8_tries_47 (fun r_10 hr_10 => ?_)
        subst hr_10
        refine lv_if_eq (tgt := 55) hx hb dX8_tries_50 (by decide) (fun c_11 => ?_) (fun c_11 => ?_)
        · replace c_11 := bI_f c_11
          refine lv_aload_n hx hb dX8_tries_55 rfl (lv_at hl 0 rfl) ?_
          refine va_get (D := g.1) (cl := vwCl) (ci := 8) (v := .ref (a 7)) (C := RX8) (T := TX8) (N := 29) hx hb hts hX8_tries_X8 hown hK hP 0 rfl rfl 7 (by decide) (hts _ kX8_tries_f19) (fun _ h9 => h9) rfl dX8_tries_56 ?_
          refine lv_bipush (v := nI 75) hx hb dX8_tries_59 (by decide) ?_
          refine lv_bipush (v := nI 8) hx hb dX8_tries_61 (by decide) ?_
          refine lv_iload_n hx hb dX8_tries_63 rfl (lv_at hl 2 rfl) ?_
          refine lv_imul hx hb dX8_tries_64 ?_
          refine lv_is (pk_mul 8 d) ?_
          refine lv_iadd hx hb dX8_tries_65 ?_
          refine lv_is (nI_add 75 (8 * d)) ?_
          refine lv_iload_n hx hb dX8_tries_66 rfl (lv_at hl 1 rfl) ?_
          refine lv_iadd hx hb dX8_tries_67 ?_
          refine lv_is (nI_add (75 + (8 * d)) i) ?_
          refine lv_dup2_11 hx hb dX8_tries_68 rfl rfl ?_
          refine ald_i (D := g.1) (cl := vwCl) (f := ar 7) (i := (75 + (8 * d)) + i) (n := 115) hx hb hK hP 4 0 rfl rfl (by omega) (by decide) dX8_tries_69 ?_
          refine lv_iconst (v := nI 1) hx hb dX8_tries_70 (by decide) ?_
          refine lv_iadd hx hb dX8_tries_71 ?_
          refine ast_i (D := g.1) (cl := vwCl) (f := ar 7) (i := (75 + (8 * d)) + i) (n := 115) (x := ((ar 7) ((75 + (8 * d)) + i)) + (nI 1)) hx hb hK hP hD hS 4 0 rfl rfl (by omega) (by decide) dX8_tries_72 (fun H locs hP hD hS => ?_)
          have hP : va_P g.1 vwCl (mW g o a (updN sc 8 (mRemN ((sc 8)))) (upA (upA ar 9 (mRemW ((ar 9)) ((ar 7)) ((sc 8)))) 7 (upd (ar 7) ((75 + (8 * d)) + i) (((ar 7) ((75 + (8 * d)) + i)) + (nI 1))))) H := hP
          have hD : va_D A (mW g o a (updN sc 8 (mRemN ((sc 8)))) (upA (upA ar 9 (mRemW ((ar 9)) ((ar 7)) ((sc 8)))) 7 (upd (ar 7) ((75 + (8 * d)) + i) (((ar 7) ((75 + (8 * d)) + i)) + (nI 1))))) := hD
          refine lv_iconst (v := nI 0) hx hb dX8_tries_73 (by decide) ?_
          exact hret (nI 0) (mRemN ((sc 8)), mRemW ((ar 9)) ((ar 7)) ((sc 8)), upd (ar 7) ((75 + (8 * d)) + i) (((ar 7) ((75 + (8 * d)) + i)) + (nI 1)), ar 28) H locs 74 ls (⟨by simp [c_2, c_4, c_7, c_11, nI_clamp (show i < 2 ^ 31 by omega), nI_clamp (show d < 2 ^ 31 by omega)], by simp [c_2, c_4, c_7, c_11, nI_clamp (show i < 2 ^ 31 by omega), nI_clamp (show d < 2 ^ 31 by omega)]⟩) (hP) (hD) hS (rfl) dX8_tries_74
        · replace c_11 := bI_t c_11
          refine lv_iconst (v := nI 1) hx hb dX8_tries_53 (by decide) ?_
          exact hret (nI 1) (mRemN ((sc 8)), mRemW ((ar 9)) ((ar 7)) ((sc 8)), ar 7, ar 28) H locs 54 ls (⟨by simp [c_2, c_4, c_7, c_11, nI_clamp (show i < 2 ^ 31 by omega), nI_clamp (show d < 2 ^ 31 by omega)], by simp [c_2, c_4, c_7, c_11, nI_clamp (show i < 2 ^ 31 by omega), nI_clamp (show d < 2 ^ 31 by omega)]⟩) (hP) (hD) hS (rfl) dX8_tries_54
      · replace c_7 := bI_t c_7
        refine lv_bipush (v := (-2)) hx hb dX8_tries_30 (by decide) ?_
        exact hret (-2) (sc 8, ar 9, ar 7, ar 28) H locs 32 ls (⟨by simp [c_2, c_4, c_7, nI_clamp (show i < 2 ^ 31 by omega), nI_clamp (show d < 2 ^ 31 by omega)], by simp [c_2, c_4, c_7, nI_clamp (show i < 2 ^ 31 by omega), nI_clamp (show d < 2 ^ 31 by omega)]⟩) (hP) (hD) hS (rfl) dX8_tries_32
    · replace c_4 := bI_f c_4
      refine lv_iconst (v := (-1)) hx hb dX8_tries_16 (by decide) ?_
      exact hret (-1) (sc 8, ar 9, ar 7, ar 28) H locs 17 ls (⟨by simp [c_2, c_4, nI_clamp (show i < 2 ^ 31 by omega)], by simp [c_2, c_4, nI_clamp (show i < 2 ^ 31 by omega)]⟩) (hP) (hD) hS (rfl) dX8_tries_17
theorem kX8_day_f19 : (Cond.fieldLink RX8 19 "LastCallersWordModel" "st" "[I" : Cond) ∈ wsX8_day := List.mem_cons_of_mem _ aw_291
theorem hX8_day_X8 : ∀ w ∈ wsX80, w ∈ wsX8_day := fun w h => List.mem_cons_of_mem _ (ac_X8 w h)
theorem kX8_day_f49 : (Cond.fieldLink RX8 49 "LastCallersWordModel" "now" "[I" : Cond) ∈ wsX8_day := List.mem_cons_of_mem _ aw_301
set_option maxHeartbeats 400000 in
set_option maxRecDepth 100000 in
theorem c_X8_day (l : Launch) (g : GG) (o : Nat) (a : Nat → Nat) (sc : Nat → Nat) (ar : Nat → Nat → Int32) (hP8 : sc 0 ≤ 8) (hD5 : sc 2 ≤ 5) (hA8 : sc 8 ≤ 8) : Met l yX8_day wsX8_day ({ frames := 4, cells := 0, slots := 0, locals := 94 } : Room) (wr g [.ref o] (mW g o a sc ar)) (wQi g (mW g o a sc ar) (fun u : Nat × (Nat → Int32) × (Nat → Int32) × (Nat → Int32) => (mW g o a (updN sc 8 u.1) (upA (upA (upA ar 9 u.2.1) 7 u.2.2.1) 28 u.2.2.2))) (fun rr u => rr = mGoes (ar 1) (sc 0) (sc 2) (ar 7) 0 ∧ u = (mRemN (sc 8), mRemW (ar 9) (ar 7) (sc 8), mGoes (ar 1) (sc 0) (sc 2) (ar 7), mGoes (ar 1) (sc 0) (sc 2) (ar 7)))) 0 0 (cA (mW g o a sc ar)) := by
  refine wr_starti (cc := cX8_day) (maxL := 1) (ty := .int) (by decide) rfl (Nat.le_of_ble_eq_true rfl) (fun p e s m args below meth c Q A C hP hD hS hret ls hl => ?_)
  obtain ⟨hx, hb, hml, hr, hown, hts, hlk, hKK⟩ := id C
  have hK := hKK.1
  have hown : s.vm.findClass RX8 = some m.cls := hown
  have ctx : CallFix p m c cX8_day 1 s args wsX8_day RX8 := ⟨hx, hb, hml, hown, hts⟩
  have hl : lv_has ls 1 [(0, .ref o)] := hl
  obtain ⟨H, hHe⟩ : ∃ H, H = s.heap := ⟨_, rfl⟩
  obtain ⟨locs, hLe⟩ : ∃ L : List Loc, L = [] := ⟨_, rfl⟩
  have hP : va_P g.1 vwCl (mW g o a sc ar) H := by rw [hHe]; exact hP
  have hS : va_S A s.heap H locs := by rw [hHe, hLe]; exact hS
  suffices hgo : W p l e ({ frames := 4, cells := 0, slots := 0, locals := 94 } : Room) s m args below meth c H locs 0 0 Q (F0 m 0 ls []) by rw [hHe, hLe] at hgo; exact hgo
  clear hHe hLe
  refine lv_aload_n hx hb dX8_day_0 rfl (lv_at hl 0 rfl) ?_
  refine wr_callVv0 (As := []) (rest := []) (b := o) ctx hKK hP hD hS (c_X8_remembers l g o a sc ar (show (sc 8) ≤ 8 from by omega)) gX8_day_X8_remembers rfl rfl rfl hdX8_remembers ⟨Nat.le_of_ble_eq_true rfl, Nat.le_of_ble_eq_true rfl⟩ (ci := 8) (q0 := 0) rfl rfl hl.1 rfl rfl (Nat.le_of_ble_eq_true rfl) dX8_day_1 (fun u_2 H locs hr_1 hP hD hS => ?_)
  have hP : va_P g.1 vwCl (mW g o a (updN sc 8 (mRemN ((sc 8)))) (upA ar 9 (mRemW ((ar 9)) ((ar 7)) ((sc 8))))) H := hP
  have hD : va_D A (mW g o a (updN sc 8 (mRemN ((sc 8)))) (upA ar 9 (mRemW ((ar 9)) ((ar 7)) ((sc 8))))) := hD
  refine lv_aload_n hx hb dX8_day_4 rfl (lv_at hl 0 rfl) ?_
  refine wr_callVv0 (As := []) (rest := []) (b := o) ctx hKK hP hD hS (c_X8_asItIs l g o a (updN sc 8 (mRemN ((sc 8)))) (upA ar 9 (mRemW ((ar 9)) ((ar 7)) ((sc 8))))) gX8_day_X8_asItIs rfl rfl rfl hdX8_asItIs ⟨Nat.le_of_ble_eq_true rfl, Nat.le_of_ble_eq_true rfl⟩ (ci := 8) (q0 := 0) rfl rfl hl.1 rfl rfl (Nat.le_of_ble_eq_true rfl) dX8_day_5 (fun u_4 H locs hr_3 hP hD hS => ?_)
  have hP : va_P g.1 vwCl (mW g o a (updN sc 8 (mRemN ((sc 8)))) (upA (upA ar 9 (mRemW ((ar 9)) ((ar 7)) ((sc 8)))) 28 (ar 7))) H := hP
  have hD : va_D A (mW g o a (updN sc 8 (mRemN ((sc 8)))) (upA (upA ar 9 (mRemW ((ar 9)) ((ar 7)) ((sc 8)))) 28 (ar 7))) := hD
  refine lv_aload_n hx hb dX8_day_8 rfl (lv_at hl 0 rfl) ?_
  refine wr_callVv0 (As := []) (rest := []) (b := o) ctx hKK hP hD hS (c_X8_goes l g o a (updN sc 8 (mRemN ((sc 8)))) (upA (upA ar 9 (mRemW ((ar 9)) ((ar 7)) ((sc 8)))) 28 (ar 7)) (show (sc 0) ≤ 8 from by omega) (show (sc 2) ≤ 5 from by omega)) gX8_day_X8_goes rfl rfl rfl hdX8_goes ⟨Nat.le_of_ble_eq_true rfl, Nat.le_of_ble_eq_true rfl⟩ (ci := 8) (q0 := 0) rfl rfl hl.1 rfl rfl (Nat.le_of_ble_eq_true rfl) dX8_day_9 (fun u_6 H locs hr_5 hP hD hS => ?_)
  have hP : va_P g.1 vwCl (mW g o a (updN sc 8 (mRemN ((sc 8)))) (upA (upA ar 9 (mRemW ((ar 9)) ((ar 7)) ((sc 8)))) 28 (mGoes ((ar 1)) ((sc 0)) ((sc 2)) ((ar 7))))) H := hP
  have hD : va_D A (mW g o a (updN sc 8 (mRemN ((sc 8)))) (upA (upA ar 9 (mRemW ((ar 9)) ((ar 7)) ((sc 8)))) 28 (mGoes ((ar 1)) ((sc 0)) ((sc 2)) ((ar 7))))) := hD
  refine lv_aload_n hx hb dX8_day_12 rfl (lv_at hl 0 rfl) ?_
  refine va_get (D := g.1) (cl := vwCl) (ci := 8) (v := .ref (a 7)) (C := RX8) (T := TX8) (N := 29) hx hb hts hX8_day_X8 hown hK hP 0 rfl rfl 7 (by decide) (hts _ kX8_day_f19) (fun _ h9 => h9) rfl dX8_day_13 ?_
  refine lv_iconst (v := nI 0) hx hb dX8_day_16 (by decide) ?_
  refine lv_aload_n hx hb dX8_day_17 rfl (lv_at hl 0 rfl) ?_
  refine va_get (D := g.1) (cl := vwCl) (ci := 8) (v := .ref (a 28)) (C := RX8) (T := TX8) (N := 29) hx hb hts hX8_day_X8 hown hK hP 0 rfl rfl 28 (by decide) (hts _ kX8_day_f49) (fun _ h9 => h9) rfl dX8_day_18 ?_
  refine lv_iconst (v := nI 0) hx hb dX8_day_21 (by decide) ?_
  refine lv_bipush (v := nI 115) hx hb dX8_day_22 (by decide) ?_
  refine wr_callSv (As := [.ref (a 7), .int (nI 0), .ref (a 28), .int (nI 0), .int (nI 115)]) (rest := []) ctx hKK hP hD hS (c_X8_copies_115_115_115w l g (a 7) (a 28) (ar 7) (mGoes ((ar 1)) ((sc 0)) ((sc 2)) ((ar 7)))) gX8_day_X8_copies rfl rfl rfl hdX8_copies ⟨Nat.le_of_ble_eq_true rfl, Nat.le_of_ble_eq_true rfl⟩ [4, 14] rfl rfl (fun _ _ => rfl) hl.1 rfl rfl (Nat.le_of_ble_eq_true rfl) dX8_day_24 (fun u_8 H locs hr_7 hP hD hS => ?_)
  have hP : va_P g.1 vwCl (mW g o a (updN sc 8 (mRemN ((sc 8)))) (upA (upA (upA ar 9 (mRemW ((ar 9)) ((ar 7)) ((sc 8)))) 7 (mGoes ((ar 1)) ((sc 0)) ((sc 2)) ((ar 7)))) 28 (mGoes ((ar 1)) ((sc 0)) ((sc 2)) ((ar 7))))) H := hP
  have hD : va_D A (mW g o a (updN sc 8 (mRemN ((sc 8)))) (upA (upA (upA ar 9 (mRemW ((ar 9)) ((ar 7)) ((sc 8)))) 7 (mGoes ((ar 1)) ((sc 0)) ((sc 2)) ((ar 7)))) 28 (mGoes ((ar 1)) ((sc 0)) ((sc 2)) ((ar 7))))) := hD
  refine lv_aload_n hx hb dX8_day_27 rfl (lv_at hl 0 rfl) ?_
  refine va_get (D := g.1) (cl := vwCl) (ci := 8) (v := .ref (a 7)) (C := RX8) (T := TX8) (N := 29) hx hb hts hX8_day_X8 hown hK hP 0 rfl rfl 7 (by decide) (hts _ kX8_day_f19) (fun _ h9 => h9) rfl dX8_day_28 ?_
  refine lv_iconst (v := nI 0) hx hb dX8_day_31 (by decide) ?_
  refine ald_i (D := g.1) (cl := vwCl) (f := mGoes ((ar 1)) ((sc 0)) ((sc 2)) ((ar 7))) (i := 0) (n := 115) hx hb hK hP 4 0 rfl rfl (by omega) (by decide) dX8_day_32 ?_
  exact hret ((mGoes ((ar 1)) ((sc 0)) ((sc 2)) ((ar 7))) 0) (mRemN ((sc 8)), mRemW ((ar 9)) ((ar 7)) ((sc 8)), mGoes ((ar 1)) ((sc 0)) ((sc 2)) ((ar 7)), mGoes ((ar 1)) ((sc 0)) ((sc 2)) ((ar 7))) H locs 33 ls (⟨rfl, rfl⟩) (hP) (hD) hS (rfl) dX8_day_33
theorem kX8_alter_f19 : (Cond.fieldLink RX8 19 "LastCallersWordModel" "st" "[I" : Cond) ∈ wsX8_alter := List.mem_cons_of_mem _ aw_291
theorem hX8_alter_X8 : ∀ w ∈ wsX80, w ∈ wsX8_alter := fun w h => List.mem_cons_of_mem _ (ac_X8 w h)
set_option maxHeartbeats 400000 in
set_option maxRecDepth 100000 in
theorem c_X8_alter (l : Launch) (g : GG) (o : Nat) (a : Nat → Nat) (sc : Nat → Nat) (ar : Nat → Nat → Int32) (iv : Int32) (jv : Int32) (vv : Int32) (hP8 : sc 0 ≤ 8) (hA8 : sc 8 ≤ 8) : Met l yX8_alter wsX8_alter ({ frames := 2, cells := 0, slots := 0, locals := 46 } : Room) (wr g [.ref o, .int iv, .int jv, .int vv] (mW g o a sc ar)) (wQi g (mW g o a sc ar) (fun u : Nat × (Nat → Int32) × (Nat → Int32) × (Nat → Int32) => (mW g o a (updN sc 8 u.1) (upA (upA (upA ar 9 u.2.1) 7 u.2.2.1) 28 u.2.2.2))) (fun rr u => rr = (if inPb (sc 0) iv = true ∧ inPb (sc 0) jv = true ∧ inB vv (nI 0) (nI 9) = true then ar 7 ((1 + (8 * iv.toNatClampNeg)) + jv.toNatClampNeg) else -1) ∧ u = (if inPb (sc 0) iv = true ∧ inPb (sc 0) jv = true ∧ inB vv (nI 0) (nI 9) = true then (mRemN (sc 8), mRemW (ar 9) (ar 7) (sc 8), upd (ar 7) ((1 + (8 * iv.toNatClampNeg)) + jv.toNatClampNeg) vv, ar 28) else (sc 8, ar 9, ar 7, ar 28)))) 0 0 (cA (mW g o a sc ar)) := by
  refine wr_starti (cc := cX8_alter) (maxL := 5) (ty := .int) (by decide) rfl (Nat.le_of_ble_eq_true rfl) (fun p e s m args below meth c Q A C hP hD hS hret ls hl => ?_)
  obtain ⟨hx, hb, hml, hr, hown, hts, hlk, hKK⟩ := id C
  have hK := hKK.1
  have hown : s.vm.findClass RX8 = some m.cls := hown
  have ctx : CallFix p m c cX8_alter 5 s args wsX8_alter RX8 := ⟨hx, hb, hml, hown, hts⟩
  have hl : lv_has ls 5 [(0, .ref o), (1, .int iv), (2, .int jv), (3, .int vv)] := hl
  obtain ⟨H, hHe⟩ : ∃ H, H = s.heap := ⟨_, rfl⟩
  obtain ⟨locs, hLe⟩ : ∃ L : List Loc, L = [] := ⟨_, rfl⟩
  have hP : va_P g.1 vwCl (mW g o a sc ar) H := by rw [hHe]; exact hP
  have hS : va_S A s.heap H locs := by rw [hHe, hLe]; exact hS
  suffices hgo : W p l e ({ frames := 2, cells := 0, slots := 0, locals := 46 } : Room) s m args below meth c H locs 0 0 Q (F0 m 0 ls []) by rw [hHe, hLe] at hgo; exact hgo
  clear hHe hLe
  refine lv_aload_n hx hb dX8_alter_0 rfl (lv_at hl 0 rfl) ?_
  refine lv_iload_n hx hb dX8_alter_1 rfl (lv_at hl 1 rfl) ?_
  refine ro_callV0 (As := [.int iv]) (rest := []) (b := o) ctx hKK hP (c_X8_isPerson l g o a sc ar iv (show (sc 0) ≤ 8 from by omega)) gX8_alter_X8_isPerson rfl rfl rfl hdX8_isPerson ⟨Nat.le_of_ble_eq_true rfl, Nat.le_of_ble_eq_true rfl⟩ (ci := 8) (q0 := 0) rfl rfl hl.1 rfl rfl (Nat.le_of_ble_eq_true rfl) dX8_alter_2 (fun r_1 hr_1 => ?_)
  have hr_1 : r_1 = bI (inPb ((sc 0)) iv) := hr_1
  subst hr_1
  refine lv_if_eq (tgt := 26) hx hb dX8_alter_5 (by decide) (fun c_2 => ?_) (fun c_2 => ?_)
  · replace c_2 := bI_f c_2
    refine lv_iconst (v := (-1)) hx hb dX8_alter_26 (by decide) ?_
    exact hret (-1) (sc 8, ar 9, ar 7, ar 28) H locs 27 ls (⟨by simp [c_2], by simp [c_2]⟩) (hP) (hD) hS (rfl) dX8_alter_27
  · replace c_2 := bI_t c_2
    obtain ⟨i, hi, rfl⟩ := inPb_nat c_2 (by omega)
    refine lv_aload_n hx hb dX8_alter_8 rfl (lv_at hl 0 rfl) ?_
    refine lv_iload_n hx hb dX8_alter_9 rfl (lv_at hl 2 rfl) ?_
    refine ro_callV0 (As := [.int jv]) (rest := []) (b := o) ctx hKK hP (c_X8_isPerson l g o a sc ar jv (show (sc 0) ≤ 8 from by omega)) gX8_alter_X8_isPerson rfl rfl rfl hdX8_isPerson ⟨Nat.le_of_ble_eq_true rfl, Nat.le_of_ble_eq_true rfl⟩ (ci := 8) (q0 := 0) rfl rfl hl.1 rfl rfl (Nat.le_of_ble_eq_true rfl) dX8_alter_10 (fun r_3 hr_3 => ?_)
    have hr_3 : r_3 = bI (inPb ((sc 0)) jv) := hr_3
    subst hr_3
    refine lv_if_eq (tgt := 26) hx hb dX8_alter_13 (by decide) (fun c_4 => ?_) (fun c_4 => ?_)
    · replace c_4 := bI_f c_4
      refine lv_iconst (v := (-1)) hx hb dX8_alter_26 (by decide) ?_
      exact hret (-1) (sc 8, ar 9, ar 7, ar 28) H locs 27 ls (⟨by simp [c_2, c_4, nI_clamp (show i < 2 ^ 31 by omega)], by simp [c_2, c_4, nI_clamp (show i < 2 ^ 31 by omega)]⟩) (hP) (hD) hS (rfl) dX8_alter_27
    · replace c_4 := bI_t c_4
      obtain ⟨j, hj, rfl⟩ := inPb_nat c_4 (by omega)
      refine lv_iload_n hx hb dX8_alter_16 rfl (lv_at hl 3 rfl) ?_
      refine lv_iconst (v := nI 0) hx hb dX8_alter_17 (by decide) ?_
      refine lv_bipush (v := nI 9) hx hb dX8_alter_18 (by decide) ?_
      refine ro_callS (As := [.int vv, .int (nI 0), .int (nI 9)]) (rest := []) ctx hKK hP (c_X8_in l g vv (nI 0) (nI 9)) gX8_alter_X8_in rfl rfl rfl hdX8_in ⟨Nat.le_of_ble_eq_true rfl, Nat.le_of_ble_eq_true rfl⟩ [] rfl hl.1 rfl rfl (Nat.le_of_ble_eq_true rfl) dX8_alter_20 (fun r_5 hr_5 => ?_)
      subst hr_5
      refine lv_if_ne (tgt := 28) hx hb dX8_alter_23 (by decide) (fun c_6 => ?_) (fun c_6 => ?_)
      · replace c_6 := bI_t c_6
        refine lv_aload_n hx hb dX8_alter_28 rfl (lv_at hl 0 rfl) ?_
        refine wr_callVv0 (As := []) (rest := []) (b := o) ctx hKK hP hD hS (c_X8_remembers l g o a sc ar (show (sc 8) ≤ 8 from by omega)) gX8_alter_X8_remembers rfl rfl rfl hdX8_remembers ⟨Nat.le_of_ble_eq_true rfl, Nat.le_of_ble_eq_true rfl⟩ (ci := 8) (q0 := 0) rfl rfl hl.1 rfl rfl (Nat.le_of_ble_eq_true rfl) dX8_alter_29 (fun u_8 H locs hr_7 hP hD hS => ?_)
        have hP : va_P g.1 vwCl (mW g o a (updN sc 8 (mRemN ((sc 8)))) (upA ar 9 (mRemW ((ar 9)) ((ar 7)) ((sc 8))))) H := hP
        have hD : va_D A (mW g o a (updN sc 8 (mRemN ((sc 8)))) (upA ar 9 (mRemW ((ar 9)) ((ar 7)) ((sc 8))))) := hD
        refine lv_aload_n hx hb dX8_alter_32 rfl (lv_at hl 0 rfl) ?_
        refine va_get (D := g.1) (cl := vwCl) (ci := 8) (v := .ref (a 7)) (C := RX8) (T := TX8) (N := 29) hx hb hts hX8_alter_X8 hown hK hP 0 rfl rfl 7 (by decide) (hts _ kX8_alter_f19) (fun _ h9 => h9) rfl dX8_alter_33 ?_
        refine lv_iconst (v := nI 1) hx hb dX8_alter_36 (by decide) ?_
        refine lv_bipush (v := nI 8) hx hb dX8_alter_37 (by decide) ?_
        refine lv_iload_n hx hb dX8_alter_39 rfl (lv_at hl 1 rfl) ?_
        refine lv_imul hx hb dX8_alter_40 ?_
        refine lv_is (pk_mul 8 i) ?_
        refine lv_iadd hx hb dX8_alter_41 ?_
        refine lv_is (nI_add 1 (8 * i)) ?_
        refine lv_iload_n hx hb dX8_alter_42 rfl (lv_at hl 2 rfl) ?_
        refine lv_iadd hx hb dX8_alter_43 ?_
        refine lv_is (nI_add (1 + (8 * i)) j) ?_
        refine ald_i (D := g.1) (cl := vwCl) (f := ar 7) (i := (1 + (8 * i)) + j) (n := 115) hx hb hK hP 4 0 rfl rfl (by omega) (by decide) dX8_alter_44 ?_
        refine lv_istore (lv' := [(4, .int ((ar 7) ((1 + (8 * i)) + j))), (0, .ref o), (1, .int (nI i)), (2, .int (nI j)), (3, .int vv)]) hx hb dX8_alter_45 hl (by decide) rfl (fun ls hl => ?_)
        refine lv_aload_n hx hb dX8_alter_47 rfl (lv_at hl 1 rfl) ?_
        refine va_get (D := g.1) (cl := vwCl) (ci := 8) (v := .ref (a 7)) (C := RX8) (T := TX8) (N := 29) hx hb hts hX8_alter_X8 hown hK hP 0 rfl rfl 7 (by decide) (hts _ kX8_alter_f19) (fun _ h9 => h9) rfl dX8_alter_48 ?_
        refine lv_iconst (v := nI 1) hx hb dX8_alter_51 (by decide) ?_
        refine lv_bipush (v := nI 8) hx hb dX8_alter_52 (by decide) ?_
        refine lv_iload_n hx hb dX8_alter_54 rfl (lv_at hl 2 rfl) ?_
        refine lv_imul hx hb dX8_alter_55 ?_
        refine lv_is (pk_mul 8 i) ?_
        refine lv_iadd hx hb dX8_alter_56 ?_
        refine lv_is (nI_add 1 (8 * i)) ?_
        refine lv_iload_n hx hb dX8_alter_57 rfl (lv_at hl 3 rfl) ?_
        refine lv_iadd hx hb dX8_alter_58 ?_
        refine lv_is (nI_add (1 + (8 * i)) j) ?_
        refine lv_iload_n hx hb dX8_alter_59 rfl (lv_at hl 4 rfl) ?_
        refine ast_i (D := g.1) (cl := vwCl) (f := ar 7) (i := (1 + (8 * i)) + j) (n := 115) (x := vv) hx hb hK hP hD hS 4 0 rfl rfl (by omega) (by decide) dX8_alter_60 (fun H locs hP hD hS => ?_)
        have hP : va_P g.1 vwCl (mW g o a (updN sc 8 (mRemN ((sc 8)))) (upA (upA ar 9 (mRemW ((ar 9)) ((ar 7)) ((sc 8)))) 7 (upd (ar 7) ((1 + (8 * i)) + j) vv))) H := hP
        have hD : va_D A (mW g o a (updN sc 8 (mRemN ((sc 8)))) (upA (upA ar 9 (mRemW ((ar 9)) ((ar 7)) ((sc 8)))) 7 (upd (ar 7) ((1 + (8 * i)) + j) vv))) := hD
        refine lv_iload hx hb dX8_alter_61 (lv_at hl 0 rfl) ?_
        exact hret ((ar 7) ((1 + (8 * i)) + j)) (mRemN ((sc 8)), mRemW ((ar 9)) ((ar 7)) ((sc 8)), upd (ar 7) ((1 + (8 * i)) + j) vv, ar 28) H locs 63 ls (⟨by simp [c_2, c_4, c_6, nI_clamp (show i < 2 ^ 31 by omega), nI_clamp (show j < 2 ^ 31 by omega)], by simp [c_2, c_4, c_6, nI_clamp (show i < 2 ^ 31 by omega), nI_clamp (show j < 2 ^ 31 by omega)]⟩) (hP) (hD) hS (rfl) dX8_alter_63
      · replace c_6 := bI_f c_6
        refine lv_iconst (v := (-1)) hx hb dX8_alter_26 (by decide) ?_
        exact hret (-1) (sc 8, ar 9, ar 7, ar 28) H locs 27 ls (⟨by simp [c_2, c_4, c_6, nI_clamp (show i < 2 ^ 31 by omega), nI_clamp (show j < 2 ^ 31 by omega)], by simp [c_2, c_4, c_6, nI_clamp (show i < 2 ^ 31 by omega), nI_clamp (show j < 2 ^ 31 by omega)]⟩) (hP) (hD) hS (rfl) dX8_alter_27
theorem kX8_undo_f152 : (Cond.fieldLink RX8 152 "LastCallersWordModel" "acts" "I" : Cond) ∈ wsX8_undo := List.mem_cons_of_mem _ aw_328
theorem hX8_undo_X8 : ∀ w ∈ wsX80, w ∈ wsX8_undo := fun w h => List.mem_cons_of_mem _ (ac_X8 w h)
theorem kX8_undo_f19 : (Cond.fieldLink RX8 19 "LastCallersWordModel" "st" "[I" : Cond) ∈ wsX8_undo := List.mem_cons_of_mem _ aw_291
theorem kX8_undo_f22 : (Cond.fieldLink RX8 22 "LastCallersWordModel" "was" "[I" : Cond) ∈ wsX8_undo := List.mem_cons_of_mem _ aw_292
set_option maxHeartbeats 400000 in
set_option maxRecDepth 100000 in
theorem c_X8_undo (l : Launch) (g : GG) (o : Nat) (a : Nat → Nat) (sc : Nat → Nat) (ar : Nat → Nat → Int32) (hA8 : sc 8 ≤ 8) : Met l yX8_undo wsX8_undo ({ frames := 1, cells := 0, slots := 0, locals := 25 } : Room) (wr g [.ref o] (mW g o a sc ar)) (wQi g (mW g o a sc ar) (fun u : Nat × (Nat → Int32) => (mW g o a (updN sc 8 u.1) (upA ar 7 u.2))) (fun rr u => rr = (if sc 8 = 0 then -2 else nI (sc 8 - 1)) ∧ u = (if sc 8 = 0 then (0, ar 7) else (sc 8 - 1, cpL (ar 7) (ar 9) 0 (115 * (sc 8 - 1)) 115)))) 0 0 (cA (mW g o a sc ar)) := by
  refine wr_starti (cc := cX8_undo) (maxL := 1) (ty := .int) (by decide) rfl (Nat.le_of_ble_eq_true rfl) (fun p e s m args below meth c Q A C hP hD hS hret ls hl => ?_)
  obtain ⟨hx, hb, hml, hr, hown, hts, hlk, hKK⟩ := id C
  have hK := hKK.1
  have hown : s.vm.findClass RX8 = some m.cls := hown
  have ctx : CallFix p m c cX8_undo 1 s args wsX8_undo RX8 := ⟨hx, hb, hml, hown, hts⟩
  have hl : lv_has ls 1 [(0, .ref o)] := hl
  obtain ⟨H, hHe⟩ : ∃ H, H = s.heap := ⟨_, rfl⟩
  obtain ⟨locs, hLe⟩ : ∃ L : List Loc, L = [] := ⟨_, rfl⟩
  have hP : va_P g.1 vwCl (mW g o a sc ar) H := by rw [hHe]; exact hP
  have hS : va_S A s.heap H locs := by rw [hHe, hLe]; exact hS
  suffices hgo : W p l e ({ frames := 1, cells := 0, slots := 0, locals := 25 } : Room) s m args below meth c H locs 0 0 Q (F0 m 0 ls []) by rw [hHe, hLe] at hgo; exact hgo
  clear hHe hLe
  refine lv_aload_n hx hb dX8_undo_0 rfl (lv_at hl 0 rfl) ?_
  refine va_get (D := g.1) (cl := vwCl) (ci := 8) (v := .int (nI (sc 8))) (C := RX8) (T := TX8) (N := 29) hx hb hts hX8_undo_X8 hown hK hP 0 rfl rfl 8 (by decide) (hts _ kX8_undo_f152) (fun _ h9 => h9) rfl dX8_undo_1 ?_
  refine lv_if_ne (tgt := 10) hx hb dX8_undo_4 (by decide) (fun c_1 => ?_) (fun c_1 => ?_)
  · replace c_1 : ¬ (sc 8) = 0 := fun h => c_1 ((nI_eq (a := sc 8) (b := 0) (by omega) (by omega)).mpr h)
    refine lv_aload_n hx hb dX8_undo_10 rfl (lv_at hl 0 rfl) ?_
    refine lv_dup hx hb dX8_undo_11 rfl ?_
    refine va_get (D := g.1) (cl := vwCl) (ci := 8) (v := .int (nI (sc 8))) (C := RX8) (T := TX8) (N := 29) hx hb hts hX8_undo_X8 hown hK hP 0 rfl rfl 8 (by decide) (hts _ kX8_undo_f152) (fun _ h9 => h9) rfl dX8_undo_12 ?_
    refine lv_iconst (v := nI 1) hx hb dX8_undo_15 (by decide) ?_
    refine lv_isub hx hb dX8_undo_16 ?_
    refine lv_is (pk_sub (a := sc 8) (b := 1) (by omega)) ?_
    refine va_put (D := g.1) (cl := vwCl) (ci := 8) (v := .int (nI ((sc 8) - 1))) (ty := .int) (C := RX8) (T := TX8) (N := 29) hx hb hts hX8_undo_X8 tyX8 tyX8_ok nmX8 hown hK hP hD hS 0 rfl rfl 8 (by decide) (hts _ kX8_undo_f152) (fun _ h9 => h9) rfl (by decide +kernel) (rfl) (rfl) (Nat.le_of_ble_eq_true rfl) dX8_undo_17 (fun H locs hP hD hS => ?_)
    have hP : va_P g.1 vwCl (mW g o a (updN sc 8 ((sc 8) - 1)) ar) H := hP
    have hD : va_D A (mW g o a (updN sc 8 ((sc 8) - 1)) ar) := hD
    refine lv_aload_n hx hb dX8_undo_20 rfl (lv_at hl 0 rfl) ?_
    refine va_get (D := g.1) (cl := vwCl) (ci := 8) (v := .ref (a 7)) (C := RX8) (T := TX8) (N := 29) hx hb hts hX8_undo_X8 hown hK hP 0 rfl rfl 7 (by decide) (hts _ kX8_undo_f19) (fun _ h9 => h9) rfl dX8_undo_21 ?_
    refine lv_iconst (v := nI 0) hx hb dX8_undo_24 (by decide) ?_
    refine lv_aload_n hx hb dX8_undo_25 rfl (lv_at hl 0 rfl) ?_
    refine va_get (D := g.1) (cl := vwCl) (ci := 8) (v := .ref (a 9)) (C := RX8) (T := TX8) (N := 29) hx hb hts hX8_undo_X8 hown hK hP 0 rfl rfl 9 (by decide) (hts _ kX8_undo_f22) (fun _ h9 => h9) rfl dX8_undo_26 ?_
    refine lv_bipush (v := nI 115) hx hb dX8_undo_29 (by decide) ?_
    refine lv_aload_n hx hb dX8_undo_31 rfl (lv_at hl 0 rfl) ?_
    refine va_get (D := g.1) (cl := vwCl) (ci := 8) (v := .int (nI ((sc 8) - 1))) (C := RX8) (T := TX8) (N := 29) hx hb hts hX8_undo_X8 hown hK hP 0 rfl rfl 8 (by decide) (hts _ kX8_undo_f152) (fun _ h9 => h9) rfl dX8_undo_32 ?_
    refine lv_imul hx hb dX8_undo_35 ?_
    refine lv_is (pk_mul 115 ((sc 8) - 1)) ?_
    refine lv_bipush (v := nI 115) hx hb dX8_undo_36 (by decide) ?_
    refine wr_callSv (As := [.ref (a 7), .int (nI 0), .ref (a 9), .int (nI (115 * ((sc 8) - 1))), .int (nI 115)]) (rest := []) ctx hKK hP hD hS (c_X8_copies_115_920_115 l g (a 7) (a 9) (ar 7) (ar 9) 0 (115 * ((sc 8) - 1)) (by omega) (by omega)) gX8_undo_X8_copies rfl rfl rfl hdX8_copies ⟨Nat.le_of_ble_eq_true rfl, Nat.le_of_ble_eq_true rfl⟩ [4, 5] rfl rfl (fun _ _ => rfl) hl.1 rfl rfl (Nat.le_of_ble_eq_true rfl) dX8_undo_38 (fun u_3 H locs hr_2 hP hD hS => ?_)
    have hP : va_P g.1 vwCl (mW g o a (updN sc 8 ((sc 8) - 1)) (upA (upA ar 7 (cpL (ar 7) (ar 9) 0 (115 * ((sc 8) - 1)) 115)) 9 (ar 9))) H := hP
    have hD : va_D A (mW g o a (updN sc 8 ((sc 8) - 1)) (upA (upA ar 7 (cpL (ar 7) (ar 9) 0 (115 * ((sc 8) - 1)) 115)) 9 (ar 9))) := hD
    refine lv_aload_n hx hb dX8_undo_41 rfl (lv_at hl 0 rfl) ?_
    refine va_get (D := g.1) (cl := vwCl) (ci := 8) (v := .int (nI ((sc 8) - 1))) (C := RX8) (T := TX8) (N := 29) hx hb hts hX8_undo_X8 hown hK hP 0 rfl rfl 8 (by decide) (hts _ kX8_undo_f152) (fun _ h9 => h9) rfl dX8_undo_42 ?_
    exact hret (nI ((sc 8) - 1)) ((sc 8) - 1, cpL (ar 7) (ar 9) 0 (115 * ((sc 8) - 1)) 115) H locs 45 ls (⟨by simp [c_1], by simp [c_1]⟩) (hP) (hD) hS (rfl) dX8_undo_45
  · replace c_1 : (sc 8) = 0 := (nI_eq (a := sc 8) (b := 0) (by omega) (by omega)).mp c_1
    refine lv_bipush (v := (-2)) hx hb dX8_undo_7 (by decide) ?_
    exact hret (-2) (sc 8, ar 7) H locs 9 ls (⟨by simp [c_1], by simp [c_1]⟩) (hP) (hD) hS (rfl) dX8_undo_9
set_option maxHeartbeats 400000 in
set_option maxRecDepth 100000 in
theorem c_X8_shutOut (l : Launch) (g : GG) (o : Nat) (a : Nat → Nat) (sc : Nat → Nat) (ar : Nat → Nat → Int32) (hD5 : sc 2 ≤ 5) : Met l yX8_shutOut wsX8_shutOut ({ frames := 3, cells := 0, slots := 0, locals := 64 } : Room) (wr g [.ref o] (mW g o a sc ar)) (wQi g (mW g o a sc ar) (fun u : (Nat → Int32) => (mW g o a sc (upA ar 28 u))) (fun rr u => rr = mSo (ar 7) (ar 3) (sc 2))) 0 0 (cA (mW g o a sc ar)) := by
  refine wr_starti (cc := cX8_shutOut) (maxL := 1) (ty := .int) (by decide) rfl (Nat.le_of_ble_eq_true rfl) (fun p e s m args below meth c Q A C hP hD hS hret ls hl => ?_)
  obtain ⟨hx, hb, hml, hr, hown, hts, hlk, hKK⟩ := id C
  have hK := hKK.1
  have hown : s.vm.findClass RX8 = some m.cls := hown
  have ctx : CallFix p m c cX8_shutOut 1 s args wsX8_shutOut RX8 := ⟨hx, hb, hml, hown, hts⟩
  have hl : lv_has ls 1 [(0, .ref o)] := hl
  obtain ⟨H, hHe⟩ : ∃ H, H = s.heap := ⟨_, rfl⟩
  obtain ⟨locs, hLe⟩ : ∃ L : List Loc, L = [] := ⟨_, rfl⟩
  have hP : va_P g.1 vwCl (mW g o a sc ar) H := by rw [hHe]; exact hP
  have hS : va_S A s.heap H locs := by rw [hHe, hLe]; exact hS
  suffices hgo : W p l e ({ frames := 3, cells := 0, slots := 0, locals := 64 } : Room) s m args below meth c H locs 0 0 Q (F0 m 0 ls []) by rw [hHe, hLe] at hgo; exact hgo
  clear hHe hLe
  refine lv_aload_n hx hb dX8_shutOut_0 rfl (lv_at hl 0 rfl) ?_
  refine wr_callVv0 (As := []) (rest := []) (b := o) ctx hKK hP hD hS (c_X8_asItIs l g o a sc ar) gX8_shutOut_X8_asItIs rfl rfl rfl hdX8_asItIs ⟨Nat.le_of_ble_eq_true rfl, Nat.le_of_ble_eq_true rfl⟩ (ci := 8) (q0 := 0) rfl rfl hl.1 rfl rfl (Nat.le_of_ble_eq_true rfl) dX8_shutOut_1 (fun u_2 H locs hr_1 hP hD hS => ?_)
  have hP : va_P g.1 vwCl (mW g o a sc (upA ar 28 (ar 7))) H := hP
  have hD : va_D A (mW g o a sc (upA ar 28 (ar 7))) := hD
  refine lv_aload_n hx hb dX8_shutOut_4 rfl (lv_at hl 0 rfl) ?_
  refine ro_callV0 (As := []) (rest := []) (b := o) ctx hKK hP (c_X8_shutOutNow l g o a sc (upA ar 28 (ar 7)) (show (sc 2) ≤ 5 from by omega)) gX8_shutOut_X8_shutOutNow rfl rfl rfl hdX8_shutOutNow ⟨Nat.le_of_ble_eq_true rfl, Nat.le_of_ble_eq_true rfl⟩ (ci := 8) (q0 := 0) rfl rfl hl.1 rfl rfl (Nat.le_of_ble_eq_true rfl) dX8_shutOut_5 (fun r_3 hr_3 => ?_)
  have hr_3 : r_3 = mSo ((ar 7)) ((ar 3)) ((sc 2)) := hr_3
  subst hr_3
  exact hret (mSo ((ar 7)) ((ar 3)) ((sc 2))) (ar 7) H locs 8 ls (rfl) (hP) (hD) hS (rfl) dX8_shutOut_8
theorem kX8_knownBehind_f49 : (Cond.fieldLink RX8 49 "LastCallersWordModel" "now" "[I" : Cond) ∈ wsX8_knownBehind := List.mem_cons_of_mem _ aw_301
theorem hX8_knownBehind_X8 : ∀ w ∈ wsX80, w ∈ wsX8_knownBehind := fun w h => List.mem_cons_of_mem _ (ac_X8 w h)
set_option maxHeartbeats 400000 in
set_option maxRecDepth 100000 in
theorem c_X8_knownBehind (l : Launch) (g : GG) (o : Nat) (a : Nat → Nat) (sc : Nat → Nat) (ar : Nat → Nat → Int32) (d : Nat) (n : Nat) (hP8 : sc 0 ≤ 8) (hd : d < 5) (hn : n ≤ 20) : Met l yX8_knownBehind wsX8_knownBehind ({ frames := 3, cells := 0, slots := 0, locals := 73 } : Room) (wr g [.ref o, .int (nI d), .int (nI n)] (mW g o a sc ar)) (wQi g (mW g o a sc ar) (fun u : Unit => (mW g o a sc (upA ar 28 (mKnB (ar 1) (sc 0) d (ar 28) n)))) (fun rr u => rr = mKnB (ar 1) (sc 0) d (ar 28) n (70 + d))) 0 0 (cA (mW g o a sc ar)) := by
  refine wr_starti (cc := cX8_knownBehind) (maxL := 4) (ty := .int) (by decide) rfl (Nat.le_of_ble_eq_true rfl) (fun p e s m args below meth c Q A C hP hD hS hret ls hl => ?_)
  obtain ⟨hx, hb, hml, hr, hown, hts, hlk, hKK⟩ := id C
  have hK := hKK.1
  have hown : s.vm.findClass RX8 = some m.cls := hown
  have ctx : CallFix p m c cX8_knownBehind 4 s args wsX8_knownBehind RX8 := ⟨hx, hb, hml, hown, hts⟩
  have hl : lv_has ls 4 [(0, .ref o), (1, .int (nI d)), (2, .int (nI n))] := hl
  obtain ⟨H, hHe⟩ : ∃ H, H = s.heap := ⟨_, rfl⟩
  obtain ⟨locs, hLe⟩ : ∃ L : List Loc, L = [] := ⟨_, rfl⟩
  have hP : va_P g.1 vwCl (mW g o a sc ar) H := by rw [hHe]; exact hP
  have hS : va_S A s.heap H locs := by rw [hHe, hLe]; exact hS
  suffices hgo : W p l e ({ frames := 3, cells := 0, slots := 0, locals := 73 } : Room) s m args below meth c H locs 0 0 Q (F0 m 0 ls []) by rw [hHe, hLe] at hgo; exact hgo
  clear hHe hLe
  refine lv_iconst (v := nI 0) hx hb dX8_knownBehind_0 (by decide) ?_
  refine lv_istore_n (lv' := [(3, .int (nI 0)), (0, .ref o), (1, .int (nI d)), (2, .int (nI n))]) hx hb dX8_knownBehind_1 rfl hl (by decide) rfl (fun ls hl => ?_)
  have LP2 : ∀ (fu : Nat) (j : Nat) (f : Nat → Int32), n - j < fu → (j ≤ n) → (f = mKnB (ar 1) (sc 0) d (ar 28) j) → ∀ (H : Heap) (locs : List Loc), va_P g.1 vwCl (mW g o a sc (upA ar 28 f)) H → va_D A (mW g o a sc (upA ar 28 f)) → va_S A s.heap H locs → ∀ (ls : Array Slot), lv_has ls 4 [(3, .int (nI j)), (0, .ref o), (1, .int (nI d)), (2, .int (nI n))] → W p l e ({ frames := 3, cells := 0, slots := 0, locals := 73 } : Room) s m args below meth c H locs 0 0 Q (F0 m 2 ls []) := by
    intro fu
    induction fu with
    | zero => intro j f hfu; exact absurd hfu (Nat.not_lt_zero _)
    | succ fu ih2 =>
      intro j f hfu hj ef H locs hP hD hS ls hl
      refine lv_iload_n hx hb dX8_knownBehind_2 rfl (lv_at hl 0 rfl) ?_
      refine lv_iload_n hx hb dX8_knownBehind_3 rfl (lv_at hl 3 rfl) ?_
      refine lv_icmp_ge (tgt := 18) hx hb dX8_knownBehind_4 (by decide) (fun c_1 => ?_) (fun c_1 => ?_)
      · replace c_1 : n ≤ j := (nI_leI (a := n) (b := j) (by omega) (by omega)).mp c_1
        rw [show j = n by omega] at ef
        subst ef
        have hP : va_P g.1 vwCl (mW g o a sc (upA ar 28 (mKnB (ar 1) (sc 0) d (ar 28) n))) H := hP
        have hD : va_D A (mW g o a sc (upA ar 28 (mKnB (ar 1) (sc 0) d (ar 28) n))) := hD
        refine lv_aload_n hx hb dX8_knownBehind_18 rfl (lv_at hl 1 rfl) ?_
        refine va_get (D := g.1) (cl := vwCl) (ci := 8) (v := .ref (a 28)) (C := RX8) (T := TX8) (N := 29) hx hb hts hX8_knownBehind_X8 hown hK hP 0 rfl rfl 28 (by decide) (hts _ kX8_knownBehind_f49) (fun _ h9 => h9) rfl dX8_knownBehind_19 ?_
        refine lv_bipush (v := nI 70) hx hb dX8_knownBehind_22 (by decide) ?_
        refine lv_iload_n hx hb dX8_knownBehind_24 rfl (lv_at hl 2 rfl) ?_
        refine lv_iadd hx hb dX8_knownBehind_25 ?_
        refine lv_is (nI_add 70 d) ?_
        refine ald_i (D := g.1) (cl := vwCl) (f := mKnB (ar 1) (sc 0) d (ar 28) n) (i := 70 + d) (n := 115) hx hb hK hP 14 0 rfl rfl (by omega) (by decide) dX8_knownBehind_26 ?_
        exact hret ((mKnB (ar 1) (sc 0) d (ar 28) n) (70 + d)) () H locs 27 ls (rfl) (hP) (hD) hS (rfl) dX8_knownBehind_27
      · replace c_1 : ¬ n ≤ j := fun h => c_1 ((nI_leI (a := n) (b := j) (by omega) (by omega)).mpr h)
        refine lv_aload_n hx hb dX8_knownBehind_7 rfl (lv_at hl 1 rfl) ?_
        refine lv_iload_n hx hb dX8_knownBehind_8 rfl (lv_at hl 2 rfl) ?_
        refine wr_callVv0 (As := [.int (nI d)]) (rest := []) (b := o) ctx hKK hP hD hS (c_X8_dayAt l g o a sc (upA ar 28 f) d (show (sc 0) ≤ 8 from by omega) (show d < 5 from by omega)) gX8_knownBehind_X8_dayAt rfl rfl rfl hdX8_dayAt ⟨Nat.le_of_ble_eq_true rfl, Nat.le_of_ble_eq_true rfl⟩ (ci := 8) (q0 := 0) rfl rfl hl.1 rfl rfl (Nat.le_of_ble_eq_true rfl) dX8_knownBehind_9 (fun u_3 H locs hr_2 hP hD hS => ?_)
        have hP : va_P g.1 vwCl (mW g o a sc (upA ar 28 (mDayA ((ar 1)) ((sc 0)) d (f)))) H := hP
        have hD : va_D A (mW g o a sc (upA ar 28 (mDayA ((ar 1)) ((sc 0)) d (f)))) := hD
        refine lv_iinc (v := nI (j + 1)) (lv' := [(3, .int (nI (j + 1))), (0, .ref o), (1, .int (nI d)), (2, .int (nI n))]) hx hb dX8_knownBehind_12 hl (k := 0) rfl (iincK j 1) (by decide) rfl (fun ls hl => ?_)
        refine lv_goto (tgt := 2) hx hb dX8_knownBehind_15 (by decide) ?_
        exact ih2 (j + 1) (mDayA ((ar 1)) ((sc 0)) d (f)) (by omega) (by omega) (by rw [mKnB, ← ef]) _ _ hP hD hS ls (lv_sub hl [0, 1, 2, 3] rfl)
  exact LP2 (n + 1) 0 (ar 28) (by omega) (by omega) (rfl) _ _ hP hD hS ls (lv_sub hl [0, 1, 2, 3] rfl)
set_option maxHeartbeats 400000 in
set_option maxRecDepth 100000 in
theorem c_X8_knowsBy (l : Launch) (g : GG) (o : Nat) (a : Nat → Nat) (sc : Nat → Nat) (ar : Nat → Nat → Int32) (dv : Int32) (nv : Int32) (hP8 : sc 0 ≤ 8) (hD5 : sc 2 ≤ 5) : Met l yX8_knowsBy wsX8_knowsBy ({ frames := 4, cells := 0, slots := 0, locals := 96 } : Room) (wr g [.ref o, .int dv, .int nv] (mW g o a sc ar)) (wQi g (mW g o a sc ar) (fun u : (Nat → Int32) => (mW g o a sc (upA ar 28 u))) (fun rr u => rr = (if inPb (sc 2) dv = true ∧ inB nv (nI 0) (nI 20) = true then mKnB (ar 1) (sc 0) dv.toNatClampNeg (ar 7) nv.toNatClampNeg (70 + dv.toNatClampNeg) else -1))) 0 0 (cA (mW g o a sc ar)) := by
  refine wr_starti (cc := cX8_knowsBy) (maxL := 3) (ty := .int) (by decide) rfl (Nat.le_of_ble_eq_true rfl) (fun p e s m args below meth c Q A C hP hD hS hret ls hl => ?_)
  obtain ⟨hx, hb, hml, hr, hown, hts, hlk, hKK⟩ := id C
  have hK := hKK.1
  have hown : s.vm.findClass RX8 = some m.cls := hown
  have ctx : CallFix p m c cX8_knowsBy 3 s args wsX8_knowsBy RX8 := ⟨hx, hb, hml, hown, hts⟩
  have hl : lv_has ls 3 [(0, .ref o), (1, .int dv), (2, .int nv)] := hl
  obtain ⟨H, hHe⟩ : ∃ H, H = s.heap := ⟨_, rfl⟩
  obtain ⟨locs, hLe⟩ : ∃ L : List Loc, L = [] := ⟨_, rfl⟩
  have hP : va_P g.1 vwCl (mW g o a sc ar) H := by rw [hHe]; exact hP
  have hS : va_S A s.heap H locs := by rw [hHe, hLe]; exact hS
  suffices hgo : W p l e ({ frames := 4, cells := 0, slots := 0, locals := 96 } : Room) s m args below meth c H locs 0 0 Q (F0 m 0 ls []) by rw [hHe, hLe] at hgo; exact hgo
  clear hHe hLe
  refine lv_aload_n hx hb dX8_knowsBy_0 rfl (lv_at hl 0 rfl) ?_
  refine lv_iload_n hx hb dX8_knowsBy_1 rfl (lv_at hl 1 rfl) ?_
  refine ro_callV0 (As := [.int dv]) (rest := []) (b := o) ctx hKK hP (c_X8_isDoor l g o a sc ar dv (show (sc 2) ≤ 5 from by omega)) gX8_knowsBy_X8_isDoor rfl rfl rfl hdX8_isDoor ⟨Nat.le_of_ble_eq_true rfl, Nat.le_of_ble_eq_true rfl⟩ (ci := 8) (q0 := 0) rfl rfl hl.1 rfl rfl (Nat.le_of_ble_eq_true rfl) dX8_knowsBy_2 (fun r_1 hr_1 => ?_)
  have hr_1 : r_1 = bI (inPb ((sc 2)) dv) := hr_1
  subst hr_1
  refine lv_if_eq (tgt := 18) hx hb dX8_knowsBy_5 (by decide) (fun c_2 => ?_) (fun c_2 => ?_)
  · replace c_2 := bI_f c_2
    refine lv_iconst (v := (-1)) hx hb dX8_knowsBy_18 (by decide) ?_
    exact hret (-1) (ar 28) H locs 19 ls (by simp [c_2]) (hP) (hD) hS (rfl) dX8_knowsBy_19
  · replace c_2 := bI_t c_2
    obtain ⟨d, hd, rfl⟩ := inPb_nat c_2 (by omega)
    refine lv_iload_n hx hb dX8_knowsBy_8 rfl (lv_at hl 2 rfl) ?_
    refine lv_iconst (v := nI 0) hx hb dX8_knowsBy_9 (by decide) ?_
    refine lv_bipush (v := nI 20) hx hb dX8_knowsBy_10 (by decide) ?_
    refine ro_callS (As := [.int nv, .int (nI 0), .int (nI 20)]) (rest := []) ctx hKK hP (c_X8_in l g nv (nI 0) (nI 20)) gX8_knowsBy_X8_in rfl rfl rfl hdX8_in ⟨Nat.le_of_ble_eq_true rfl, Nat.le_of_ble_eq_true rfl⟩ [] rfl hl.1 rfl rfl (Nat.le_of_ble_eq_true rfl) dX8_knowsBy_12 (fun r_3 hr_3 => ?_)
    subst hr_3
    refine lv_if_ne (tgt := 20) hx hb dX8_knowsBy_15 (by decide) (fun c_4 => ?_) (fun c_4 => ?_)
    · replace c_4 := bI_t c_4
      obtain ⟨n, hn, rfl⟩ := inB_rng (k := 0) (n := 20) c_4 (by decide) (by decide)
      refine lv_aload_n hx hb dX8_knowsBy_20 rfl (lv_at hl 0 rfl) ?_
      refine wr_callVv0 (As := []) (rest := []) (b := o) ctx hKK hP hD hS (c_X8_asItIs l g o a sc ar) gX8_knowsBy_X8_asItIs rfl rfl rfl hdX8_asItIs ⟨Nat.le_of_ble_eq_true rfl, Nat.le_of_ble_eq_true rfl⟩ (ci := 8) (q0 := 0) rfl rfl hl.1 rfl rfl (Nat.le_of_ble_eq_true rfl) dX8_knowsBy_21 (fun u_6 H locs hr_5 hP hD hS => ?_)
      have hP : va_P g.1 vwCl (mW g o a sc (upA ar 28 (ar 7))) H := hP
      have hD : va_D A (mW g o a sc (upA ar 28 (ar 7))) := hD
      refine lv_aload_n hx hb dX8_knowsBy_24 rfl (lv_at hl 0 rfl) ?_
      refine lv_iload_n hx hb dX8_knowsBy_25 rfl (lv_at hl 1 rfl) ?_
      refine lv_iload_n hx hb dX8_knowsBy_26 rfl (lv_at hl 2 rfl) ?_
      refine wr_callVi0 (As := [.int (nI d), .int (nI n)]) (rest := []) (b := o) ctx hKK hP hD hS (c_X8_knownBehind l g o a sc (upA ar 28 (ar 7)) d n (show (sc 0) ≤ 8 from by omega) (show d < 5 from by omega) (show n ≤ 20 from by omega)) gX8_knowsBy_X8_knownBehind rfl rfl rfl hdX8_knownBehind ⟨Nat.le_of_ble_eq_true rfl, Nat.le_of_ble_eq_true rfl⟩ (ci := 8) (q0 := 0) rfl rfl hl.1 rfl rfl (Nat.le_of_ble_eq_true rfl) dX8_knowsBy_27 (fun r_7 u_8 H locs hr_7 hP hD hS => ?_)
      have hP : va_P g.1 vwCl (mW g o a sc (upA ar 28 (mKnB ((ar 1)) ((sc 0)) d ((ar 7)) n))) H := hP
      have hD : va_D A (mW g o a sc (upA ar 28 (mKnB ((ar 1)) ((sc 0)) d ((ar 7)) n))) := hD
      have hr_7 : r_7 = mKnB ((ar 1)) ((sc 0)) d ((ar 7)) n (70 + d) := hr_7
      subst hr_7
      exact hret (mKnB ((ar 1)) ((sc 0)) d ((ar 7)) n (70 + d)) (mKnB ((ar 1)) ((sc 0)) d ((ar 7)) n) H locs 30 ls (by simp [c_2, c_4, nI_clamp (show d < 2 ^ 31 by omega), nI_clamp (show n < 2 ^ 31 by omega)]) (hP) (hD) hS (rfl) dX8_knowsBy_30
    · replace c_4 := bI_f c_4
      refine lv_iconst (v := (-1)) hx hb dX8_knowsBy_18 (by decide) ?_
      exact hret (-1) (ar 28) H locs 19 ls (by simp [c_2, c_4, nI_clamp (show d < 2 ^ 31 by omega)]) (hP) (hD) hS (rfl) dX8_knowsBy_19
theorem kX8_when_f49 : (Cond.fieldLink RX8 49 "LastCallersWordModel" "now" "[I" : Cond) ∈ wsX8_when := List.mem_cons_of_mem _ aw_301
theorem hX8_when_X8 : ∀ w ∈ wsX80, w ∈ wsX8_when := fun w h => List.mem_cons_of_mem _ (ac_X8 w h)
set_option maxHeartbeats 400000 in
set_option maxRecDepth 100000 in
theorem c_X8_when (l : Launch) (g : GG) (o : Nat) (a : Nat → Nat) (sc : Nat → Nat) (ar : Nat → Nat → Int32) (iv : Int32) (dv : Int32) (hP8 : sc 0 ≤ 8) (hD5 : sc 2 ≤ 5) : Met l yX8_when wsX8_when ({ frames := 3, cells := 0, slots := 0, locals := 73 } : Room) (wr g [.ref o, .int iv, .int dv] (mW g o a sc ar)) (wQi g (mW g o a sc ar) (fun u : (Nat → Int32) => (mW g o a sc (upA ar 28 u))) (fun rr u => rr = (if inPb (sc 0) iv = true ∧ inPb (sc 2) dv = true then mWh (ar 1) (sc 0) dv.toNatClampNeg iv 21 0 (ar 7) else -1))) 0 0 (cA (mW g o a sc ar)) := by
  refine wr_starti (cc := cX8_when) (maxL := 4) (ty := .int) (by decide) rfl (Nat.le_of_ble_eq_true rfl) (fun p e s m args below meth c Q A C hP hD hS hret ls hl => ?_)
  obtain ⟨hx, hb, hml, hr, hown, hts, hlk, hKK⟩ := id C
  have hK := hKK.1
  have hown : s.vm.findClass RX8 = some m.cls := hown
  have ctx : CallFix p m c cX8_when 4 s args wsX8_when RX8 := ⟨hx, hb, hml, hown, hts⟩
  have hl : lv_has ls 4 [(0, .ref o), (1, .int iv), (2, .int dv)] := hl
  obtain ⟨H, hHe⟩ : ∃ H, H = s.heap := ⟨_, rfl⟩
  obtain ⟨locs, hLe⟩ : ∃ L : List Loc, L = [] := ⟨_, rfl⟩
  have hP : va_P g.1 vwCl (mW g o a sc ar) H := by rw [hHe]; exact hP
  have hS : va_S A s.heap H locs := by rw [hHe, hLe]; exact hS
  suffices hgo : W p l e ({ frames := 3, cells := 0, slots := 0, locals := 73 } : Room) s m args below meth c H locs 0 0 Q (F0 m 0 ls []) by rw [hHe, hLe] at hgo; exact hgo
  clear hHe hLe
  refine lv_aload_n hx hb dX8_when_0 rfl (lv_at hl 0 rfl) ?_
  refine lv_iload_n hx hb dX8_when_1 rfl (lv_at hl 1 rfl) ?_
  refine ro_callV0 (As := [.int iv]) (rest := []) (b := o) ctx hKK hP (c_X8_isPerson l g o a sc ar iv (show (sc 0) ≤ 8 from by omega)) gX8_when_X8_isPerson rfl rfl rfl hdX8_isPerson ⟨Nat.le_of_ble_eq_true rfl, Nat.le_of_ble_eq_true rfl⟩ (ci := 8) (q0 := 0) rfl rfl hl.1 rfl rfl (Nat.le_of_ble_eq_true rfl) dX8_when_2 (fun r_1 hr_1 => ?_)
  have hr_1 : r_1 = bI (inPb ((sc 0)) iv) := hr_1
  subst hr_1
  refine lv_if_eq (tgt := 16) hx hb dX8_when_5 (by decide) (fun c_2 => ?_) (fun c_2 => ?_)
  · replace c_2 := bI_f c_2
    refine lv_iconst (v := (-1)) hx hb dX8_when_16 (by decide) ?_
    exact hret (-1) (ar 28) H locs 17 ls (by simp [c_2]) (hP) (hD) hS (rfl) dX8_when_17
  · replace c_2 := bI_t c_2
    obtain ⟨i, hi, rfl⟩ := inPb_nat c_2 (by omega)
    refine lv_aload_n hx hb dX8_when_8 rfl (lv_at hl 0 rfl) ?_
    refine lv_iload_n hx hb dX8_when_9 rfl (lv_at hl 2 rfl) ?_
    refine ro_callV0 (As := [.int dv]) (rest := []) (b := o) ctx hKK hP (c_X8_isDoor l g o a sc ar dv (show (sc 2) ≤ 5 from by omega)) gX8_when_X8_isDoor rfl rfl rfl hdX8_isDoor ⟨Nat.le_of_ble_eq_true rfl, Nat.le_of_ble_eq_true rfl⟩ (ci := 8) (q0 := 0) rfl rfl hl.1 rfl rfl (Nat.le_of_ble_eq_true rfl) dX8_when_10 (fun r_3 hr_3 => ?_)
    have hr_3 : r_3 = bI (inPb ((sc 2)) dv) := hr_3
    subst hr_3
    refine lv_if_ne (tgt := 18) hx hb dX8_when_13 (by decide) (fun c_4 => ?_) (fun c_4 => ?_)
    · replace c_4 := bI_t c_4
      obtain ⟨d, hd, rfl⟩ := inPb_nat c_4 (by omega)
      refine lv_aload_n hx hb dX8_when_18 rfl (lv_at hl 0 rfl) ?_
      refine wr_callVv0 (As := []) (rest := []) (b := o) ctx hKK hP hD hS (c_X8_asItIs l g o a sc ar) gX8_when_X8_asItIs rfl rfl rfl hdX8_asItIs ⟨Nat.le_of_ble_eq_true rfl, Nat.le_of_ble_eq_true rfl⟩ (ci := 8) (q0 := 0) rfl rfl hl.1 rfl rfl (Nat.le_of_ble_eq_true rfl) dX8_when_19 (fun u_6 H locs hr_5 hP hD hS => ?_)
      have hP : va_P g.1 vwCl (mW g o a sc (upA ar 28 (ar 7))) H := hP
      have hD : va_D A (mW g o a sc (upA ar 28 (ar 7))) := hD
      refine lv_iconst (v := nI 0) hx hb dX8_when_22 (by decide) ?_
      refine lv_istore_n (lv' := [(3, .int (nI 0)), (0, .ref o), (1, .int (nI i)), (2, .int (nI d))]) hx hb dX8_when_23 rfl hl (by decide) rfl (fun ls hl => ?_)
      have LP24 : ∀ (fu : Nat) (j : Nat) (f : Nat → Int32), 21 - j < fu → (j ≤ 21) → (mWh (ar 1) (sc 0) d (nI i) 21 0 (ar 7) = mWh (ar 1) (sc 0) d (nI i) (21 - j) j f) → ∀ (H : Heap) (locs : List Loc), va_P g.1 vwCl (mW g o a sc (upA ar 28 f)) H → va_D A (mW g o a sc (upA ar 28 f)) → va_S A s.heap H locs → ∀ (ls : Array Slot), lv_has ls 4 [(3, .int (nI j)), (0, .ref o), (1, .int (nI i)), (2, .int (nI d))] → W p l e ({ frames := 3, cells := 0, slots := 0, locals := 73 } : Room) s m args below meth c H locs 0 0 Q (F0 m 24 ls []) := by
        intro fu
        induction fu with
        | zero => intro j f hfu; exact absurd hfu (Nat.not_lt_zero _)
        | succ fu ih24 =>
          intro j f hfu hj ew H locs hP hD hS ls hl
          refine lv_iload_n hx hb dX8_when_24 rfl (lv_at hl 0 rfl) ?_
          refine lv_bipush (v := nI 20) hx hb dX8_when_25 (by decide) ?_
          refine lv_icmp_gt (tgt := 59) hx hb dX8_when_27 (by decide) (fun c_7 => ?_) (fun c_7 => ?_)
          · replace c_7 : 20 < j := (nI_ltI (a := 20) (b := j) (by omega) (by omega)).mp c_7
            refine lv_bipush (v := (-4)) hx hb dX8_when_59 (by decide) ?_
            exact hret (-4) f H locs 61 ls (by rw [if_pos ⟨by assumption, by assumption⟩, nI_clamp (show d < 2 ^ 31 by omega), ew, show 21 - j = 0 by omega, mWh]) (hP) (hD) hS (rfl) dX8_when_61
          · replace c_7 : ¬ 20 < j := fun h => c_7 ((nI_ltI (a := 20) (b := j) (by omega) (by omega)).mpr h)
            refine lv_aload_n hx hb dX8_when_30 rfl (lv_at hl 1 rfl) ?_
            refine va_get (D := g.1) (cl := vwCl) (ci := 8) (v := .ref (a 28)) (C := RX8) (T := TX8) (N := 29) hx hb hts hX8_when_X8 hown hK hP 0 rfl rfl 28 (by decide) (hts _ kX8_when_f49) (fun _ h9 => h9) rfl dX8_when_31 ?_
            refine lv_bipush (v := nI 70) hx hb dX8_when_34 (by decide) ?_
            refine lv_iload_n hx hb dX8_when_36 rfl (lv_at hl 3 rfl) ?_
            refine lv_iadd hx hb dX8_when_37 ?_
            refine lv_is (nI_add 70 d) ?_
            refine ald_i (D := g.1) (cl := vwCl) (f := f) (i := 70 + d) (n := 115) hx hb hK hP 14 0 rfl rfl (by omega) (by decide) dX8_when_38 ?_
            refine lv_iload_n hx hb dX8_when_39 rfl (lv_at hl 2 rfl) ?_
            refine ro_callS (As := [.int (f (70 + d)), .int (nI i)]) (rest := []) ctx hKK hP (c_X8_has l g (f (70 + d)) (nI i)) gX8_when_X8_has rfl rfl rfl hdX8_has ⟨Nat.le_of_ble_eq_true rfl, Nat.le_of_ble_eq_true rfl⟩ [] rfl hl.1 rfl rfl (Nat.le_of_ble_eq_true rfl) dX8_when_40 (fun r_8 hr_8 => ?_)
            subst hr_8
            refine lv_if_eq (tgt := 48) hx hb dX8_when_43 (by decide) (fun c_9 => ?_) (fun c_9 => ?_)
            · replace c_9 := bI_f c_9
              refine lv_aload_n hx hb dX8_when_48 rfl (lv_at hl 1 rfl) ?_
              refine lv_iload_n hx hb dX8_when_49 rfl (lv_at hl 3 rfl) ?_
              refine wr_callVv0 (As := [.int (nI d)]) (rest := []) (b := o) ctx hKK hP hD hS (c_X8_dayAt l g o a sc (upA ar 28 f) d (show (sc 0) ≤ 8 from by omega) (show d < 5 from by omega)) gX8_when_X8_dayAt rfl rfl rfl hdX8_dayAt ⟨Nat.le_of_ble_eq_true rfl, Nat.le_of_ble_eq_true rfl⟩ (ci := 8) (q0 := 0) rfl rfl hl.1 rfl rfl (Nat.le_of_ble_eq_true rfl) dX8_when_50 (fun u_11 H locs hr_10 hP hD hS => ?_)
              have hP : va_P g.1 vwCl (mW g o a sc (upA ar 28 (mDayA ((ar 1)) ((sc 0)) d (f)))) H := hP
              have hD : va_D A (mW g o a sc (upA ar 28 (mDayA ((ar 1)) ((sc 0)) d (f)))) := hD
              refine lv_iinc (v := nI (j + 1)) (lv' := [(3, .int (nI (j + 1))), (0, .ref o), (1, .int (nI i)), (2, .int (nI d))]) hx hb dX8_when_53 hl (k := 0) rfl (iincK j 1) (by decide) rfl (fun ls hl => ?_)
              refine lv_goto (tgt := 24) hx hb dX8_when_56 (by decide) ?_
              exact ih24 (j + 1) (mDayA ((ar 1)) ((sc 0)) d (f)) (by omega) (by omega) (by rw [ew, show 21 - j = 20 - j + 1 by omega, mWh, if_neg (by rw [c_9]; decide), show 21 - (j + 1) = 20 - j by omega]) _ _ hP hD hS ls (lv_sub hl [0, 1, 2, 3] rfl)
            · replace c_9 := bI_t c_9
              refine lv_iload_n hx hb dX8_when_46 rfl (lv_at hl 0 rfl) ?_
              exact hret (nI j) f H locs 47 ls (by rw [if_pos ⟨by assumption, by assumption⟩, nI_clamp (show d < 2 ^ 31 by omega), ew, show 21 - j = 20 - j + 1 by omega, mWh, if_pos c_9]) (hP) (hD) hS (rfl) dX8_when_47
      exact LP24 22 0 (ar 7) (by omega) (by omega) (rfl) _ _ hP hD hS ls (lv_sub hl [0, 1, 2, 3] rfl)
    · replace c_4 := bI_f c_4
      refine lv_iconst (v := (-1)) hx hb dX8_when_16 (by decide) ?_
      exact hret (-1) (ar 28) H locs 17 ls (by simp [c_2, c_4, nI_clamp (show i < 2 ^ 31 by omega)]) (hP) (hD) hS (rfl) dX8_when_17
theorem kX8_letsIn_f82 : (Cond.fieldLink RX8 82 "LastCallersWordModel" "persons" "I" : Cond) ∈ wsX8_letsIn := List.mem_cons_of_mem _ aw_324
theorem hX8_letsIn_X8 : ∀ w ∈ wsX80, w ∈ wsX8_letsIn := fun w h => List.mem_cons_of_mem _ (ac_X8 w h)
set_option maxHeartbeats 400000 in
set_option maxRecDepth 100000 in
theorem c_X8_letsIn (l : Launch) (g : GG) (o : Nat) (a : Nat → Nat) (sc : Nat → Nat) (ar : Nat → Nat → Int32) (hv : Int32) (d : Nat) (n : Nat) (hP8 : sc 0 ≤ 8) (hd : d < 5) (hn : n ≤ 20) : Met l yX8_letsIn wsX8_letsIn ({ frames := 4, cells := 0, slots := 0, locals := 96 } : Room) (wr g [.ref o, .int hv, .int (nI d), .int (nI n)] (mW g o a sc ar)) (wQi g (mW g o a sc ar) (fun u : (Nat → Int32) => (mW g o a sc (upA ar 28 u))) (fun rr u => rr = mLets (ar 1) (sc 0) (ar 7) hv d n (sc 0))) 0 0 (cA (mW g o a sc ar)) := by
  refine wr_starti (cc := cX8_letsIn) (maxL := 6) (ty := .int) (by decide) rfl (Nat.le_of_ble_eq_true rfl) (fun p e s m args below meth c Q A C hP hD hS hret ls hl => ?_)
  obtain ⟨hx, hb, hml, hr, hown, hts, hlk, hKK⟩ := id C
  have hK := hKK.1
  have hown : s.vm.findClass RX8 = some m.cls := hown
  have ctx : CallFix p m c cX8_letsIn 6 s args wsX8_letsIn RX8 := ⟨hx, hb, hml, hown, hts⟩
  have hl : lv_has ls 6 [(0, .ref o), (1, .int hv), (2, .int (nI d)), (3, .int (nI n))] := hl
  obtain ⟨H, hHe⟩ : ∃ H, H = s.heap := ⟨_, rfl⟩
  obtain ⟨locs, hLe⟩ : ∃ L : List Loc, L = [] := ⟨_, rfl⟩
  have hP : va_P g.1 vwCl (mW g o a sc ar) H := by rw [hHe]; exact hP
  have hS : va_S A s.heap H locs := by rw [hHe, hLe]; exact hS
  suffices hgo : W p l e ({ frames := 4, cells := 0, slots := 0, locals := 96 } : Room) s m args below meth c H locs 0 0 Q (F0 m 0 ls []) by rw [hHe, hLe] at hgo; exact hgo
  clear hHe hLe
  refine lv_iconst (v := nI 0) hx hb dX8_letsIn_0 (by decide) ?_
  refine lv_istore (lv' := [(4, .int (nI 0)), (0, .ref o), (1, .int hv), (2, .int (nI d)), (3, .int (nI n))]) hx hb dX8_letsIn_1 hl (by decide) rfl (fun ls hl => ?_)
  refine lv_iconst (v := nI 0) hx hb dX8_letsIn_3 (by decide) ?_
  refine lv_istore (lv' := [(5, .int (nI 0)), (4, .int (nI 0)), (0, .ref o), (1, .int hv), (2, .int (nI d)), (3, .int (nI n))]) hx hb dX8_letsIn_4 hl (by decide) rfl (fun ls hl => ?_)
  have LP6 : ∀ (fu : Nat) (j : Nat) (x4 : Int32) (f : Nat → Int32), sc 0 - j < fu → (j ≤ sc 0) → (x4 = mLets (ar 1) (sc 0) (ar 7) hv d n j) → ∀ (H : Heap) (locs : List Loc), va_P g.1 vwCl (mW g o a sc (upA ar 28 f)) H → va_D A (mW g o a sc (upA ar 28 f)) → va_S A s.heap H locs → ∀ (ls : Array Slot), lv_has ls 6 [(5, .int (nI j)), (4, .int x4), (0, .ref o), (1, .int hv), (2, .int (nI d)), (3, .int (nI n))] → W p l e ({ frames := 4, cells := 0, slots := 0, locals := 96 } : Room) s m args below meth c H locs 0 0 Q (F0 m 6 ls []) := by
    intro fu
    induction fu with
    | zero => intro j x4 f hfu; exact absurd hfu (Nat.not_lt_zero _)
    | succ fu ih6 =>
      intro j x4 f hfu hj e4 H locs hP hD hS ls hl
      refine lv_iload hx hb dX8_letsIn_6 (lv_at hl 0 rfl) ?_
      refine lv_aload_n hx hb dX8_letsIn_8 rfl (lv_at hl 2 rfl) ?_
      refine va_get (D := g.1) (cl := vwCl) (ci := 8) (v := .int (nI (sc 0))) (C := RX8) (T := TX8) (N := 29) hx hb hts hX8_letsIn_X8 hown hK hP 0 rfl rfl 0 (by decide) (hts _ kX8_letsIn_f82) (fun _ h9 => h9) rfl dX8_letsIn_9 ?_
      refine lv_icmp_ge (tgt := 58) hx hb dX8_letsIn_12 (by decide) (fun c_1 => ?_) (fun c_1 => ?_)
      · replace c_1 : (sc 0) ≤ j := (nI_leI (a := sc 0) (b := j) (by omega) (by omega)).mp c_1
        refine lv_iload hx hb dX8_letsIn_58 (lv_at hl 1 rfl) ?_
        exact hret x4 f H locs 60 ls (by rw [e4, show j = sc 0 by omega]) (hP) (hD) hS (rfl) dX8_letsIn_60
      · replace c_1 : ¬ (sc 0) ≤ j := fun h => c_1 ((nI_leI (a := sc 0) (b := j) (by omega) (by omega)).mpr h)
        refine lv_aload_n hx hb dX8_letsIn_15 rfl (lv_at hl 2 rfl) ?_
        refine wr_callVv0 (As := []) (rest := []) (b := o) ctx hKK hP hD hS (c_X8_asItIs l g o a sc (upA ar 28 f)) gX8_letsIn_X8_asItIs rfl rfl rfl hdX8_asItIs ⟨Nat.le_of_ble_eq_true rfl, Nat.le_of_ble_eq_true rfl⟩ (ci := 8) (q0 := 0) rfl rfl hl.1 rfl rfl (Nat.le_of_ble_eq_true rfl) dX8_letsIn_16 (fun u_3 H locs hr_2 hP hD hS => ?_)
        have hP : va_P g.1 vwCl (mW g o a sc (upA ar 28 (ar 7))) H := hP
        have hD : va_D A (mW g o a sc (upA ar 28 (ar 7))) := hD
        refine lv_aload_n hx hb dX8_letsIn_19 rfl (lv_at hl 2 rfl) ?_
        refine lv_iload hx hb dX8_letsIn_20 (lv_at hl 0 rfl) ?_
        refine lv_iload_n hx hb dX8_letsIn_22 rfl (lv_at hl 4 rfl) ?_
        refine wr_callVv0 (As := [.int (nI j), .int (nI d)]) (rest := []) (b := o) ctx hKK hP hD hS (c_X8_calls l g o a sc (upA ar 28 (ar 7)) j d (show (sc 0) ≤ 8 from by omega) (show j < 8 from by omega) (show d < 5 from by omega)) gX8_letsIn_X8_calls rfl rfl rfl hdX8_calls ⟨Nat.le_of_ble_eq_true rfl, Nat.le_of_ble_eq_true rfl⟩ (ci := 8) (q0 := 0) rfl rfl hl.1 rfl rfl (Nat.le_of_ble_eq_true rfl) dX8_letsIn_23 (fun u_5 H locs hr_4 hP hD hS => ?_)
        have hP : va_P g.1 vwCl (mW g o a sc (upA ar 28 (mCallW ((ar 1)) ((sc 0)) ((ar 7)) j d))) H := hP
        have hD : va_D A (mW g o a sc (upA ar 28 (mCallW ((ar 1)) ((sc 0)) ((ar 7)) j d))) := hD
        refine lv_iload hx hb dX8_letsIn_26 (lv_at hl 1 rfl) ?_
        refine lv_aload_n hx hb dX8_letsIn_28 rfl (lv_at hl 2 rfl) ?_
        refine lv_iload_n hx hb dX8_letsIn_29 rfl (lv_at hl 4 rfl) ?_
        refine lv_iload_n hx hb dX8_letsIn_30 rfl (lv_at hl 5 rfl) ?_
        refine wr_callVi0 (As := [.int (nI d), .int (nI n)]) (rest := [.int x4]) (b := o) ctx hKK hP hD hS (c_X8_knownBehind l g o a sc (upA ar 28 (mCallW ((ar 1)) ((sc 0)) ((ar 7)) j d)) d n (show (sc 0) ≤ 8 from by omega) (show d < 5 from by omega) (show n ≤ 20 from by omega)) gX8_letsIn_X8_knownBehind rfl rfl rfl hdX8_knownBehind ⟨Nat.le_of_ble_eq_true rfl, Nat.le_of_ble_eq_true rfl⟩ (ci := 8) (q0 := 0) rfl rfl hl.1 rfl rfl (Nat.le_of_ble_eq_true rfl) dX8_letsIn_31 (fun r_6 u_7 H locs hr_6 hP hD hS => ?_)
        have hP : va_P g.1 vwCl (mW g o a sc (upA ar 28 (mKnB ((ar 1)) ((sc 0)) d ((mCallW ((ar 1)) ((sc 0)) ((ar 7)) j d)) n))) H := hP
        have hD : va_D A (mW g o a sc (upA ar 28 (mKnB ((ar 1)) ((sc 0)) d ((mCallW ((ar 1)) ((sc 0)) ((ar 7)) j d)) n))) := hD
        have hr_6 : r_6 = mKnB ((ar 1)) ((sc 0)) d ((mCallW ((ar 1)) ((sc 0)) ((ar 7)) j d)) n (70 + d) := hr_6
        subst hr_6
        refine lv_iload_n hx hb dX8_letsIn_34 rfl (lv_at hl 3 rfl) ?_
        refine ro_callS (As := [.int (mKnB ((ar 1)) ((sc 0)) d ((mCallW ((ar 1)) ((sc 0)) ((ar 7)) j d)) n (70 + d)), .int hv]) (rest := [.int x4]) ctx hKK hP (c_X8_has l g (mKnB ((ar 1)) ((sc 0)) d ((mCallW ((ar 1)) ((sc 0)) ((ar 7)) j d)) n (70 + d)) hv) gX8_letsIn_X8_has rfl rfl rfl hdX8_has ⟨Nat.le_of_ble_eq_true rfl, Nat.le_of_ble_eq_true rfl⟩ [] rfl hl.1 rfl rfl (Nat.le_of_ble_eq_true rfl) dX8_letsIn_35 (fun r_8 hr_8 => ?_)
        subst hr_8
        refine lv_if_eq (tgt := 48) hx hb dX8_letsIn_38 (by decide) (fun c_9 => ?_) (fun c_9 => ?_)
        · replace c_9 := bI_f c_9
          refine lv_iconst (v := nI 0) hx hb dX8_letsIn_48 (by decide) ?_
          refine lv_ior hx hb dX8_letsIn_49 ?_
          refine lv_istore (lv' := [(4, .int (x4 ||| (nI 0))), (5, .int (nI j)), (0, .ref o), (1, .int hv), (2, .int (nI d)), (3, .int (nI n))]) hx hb dX8_letsIn_50 hl (by decide) rfl (fun ls hl => ?_)
          refine lv_iinc (v := nI (j + 1)) (lv' := [(5, .int (nI (j + 1))), (4, .int (x4 ||| (nI 0))), (0, .ref o), (1, .int hv), (2, .int (nI d)), (3, .int (nI n))]) hx hb dX8_letsIn_52 hl (k := 1) rfl (iincK j 1) (by decide) rfl (fun ls hl => ?_)
          refine lv_goto (tgt := 6) hx hb dX8_letsIn_55 (by decide) ?_
          exact ih6 (j + 1) (x4 ||| (nI 0)) (mKnB ((ar 1)) ((sc 0)) d ((mCallW ((ar 1)) ((sc 0)) ((ar 7)) j d)) n) (by omega) (by omega) (by rw [mLets, ← e4]; simp [c_1, c_9]) _ _ hP hD hS ls (lv_sub hl [0, 1, 2, 3, 4, 5] rfl)
        · replace c_9 := bI_t c_9
          refine lv_iconst (v := nI 1) hx hb dX8_letsIn_41 (by decide) ?_
          refine lv_iload hx hb dX8_letsIn_42 (lv_at hl 0 rfl) ?_
          refine lv_ishl hx hb dX8_letsIn_44 ?_
          refine lv_goto (tgt := 49) hx hb dX8_letsIn_45 (by decide) ?_
          refine lv_ior hx hb dX8_letsIn_49 ?_
          refine lv_istore (lv' := [(4, .int (x4 ||| ((nI 1) <<< ((nI j) &&& 31)))), (5, .int (nI j)), (0, .ref o), (1, .int hv), (2, .int (nI d)), (3, .int (nI n))]) hx hb dX8_letsIn_50 hl (by decide) rfl (fun ls hl => ?_)
          refine lv_iinc (v := nI (j + 1)) (lv' := [(5, .int (nI (j + 1))), (4, .int (x4 ||| ((nI 1) <<< ((nI j) &&& 31)))), (0, .ref o), (1, .int hv), (2, .int (nI d)), (3, .int (nI n))]) hx hb dX8_letsIn_52 hl (k := 1) rfl (iincK j 1) (by decide) rfl (fun ls hl => ?_)
          refine lv_goto (tgt := 6) hx hb dX8_letsIn_55 (by decide) ?_
          exact ih6 (j + 1) (x4 ||| ((nI 1) <<< ((nI j) &&& 31))) (mKnB ((ar 1)) ((sc 0)) d ((mCallW ((ar 1)) ((sc 0)) ((ar 7)) j d)) n) (by omega) (by omega) (by rw [mLets, ← e4]; simp [c_1, c_9]) _ _ hP hD hS ls (lv_sub hl [0, 1, 2, 3, 4, 5] rfl)
  exact LP6 (sc 0 + 1) 0 (nI 0) (ar 28) (by omega) (by omega) (rfl) _ _ hP hD hS ls (lv_sub hl [0, 1, 2, 3, 4, 5] rfl)
theorem kX8_lets_f13 : (Cond.fieldLink RX8 13 "LastCallersWordModel" "hosts" "[I" : Cond) ∈ wsX8_lets := List.mem_cons_of_mem _ aw_289
theorem hX8_lets_X8 : ∀ w ∈ wsX80, w ∈ wsX8_lets := fun w h => List.mem_cons_of_mem _ (ac_X8 w h)
set_option maxHeartbeats 400000 in
set_option maxRecDepth 100000 in
theorem c_X8_lets (l : Launch) (g : GG) (o : Nat) (a : Nat → Nat) (sc : Nat → Nat) (ar : Nat → Nat → Int32) (dv : Int32) (nv : Int32) (hP8 : sc 0 ≤ 8) (hD5 : sc 2 ≤ 5) : Met l yX8_lets wsX8_lets ({ frames := 5, cells := 0, slots := 0, locals := 121 } : Room) (wr g [.ref o, .int dv, .int nv] (mW g o a sc ar)) (wQi g (mW g o a sc ar) (fun u : (Nat → Int32) => (mW g o a sc (upA ar 28 u))) (fun rr u => rr = (if inPb (sc 2) dv = true ∧ inB nv (nI 0) (nI 5) = true then mLets (ar 1) (sc 0) (ar 7) (ar 3 dv.toNatClampNeg) dv.toNatClampNeg nv.toNatClampNeg (sc 0) else -1))) 0 0 (cA (mW g o a sc ar)) := by
  refine wr_starti (cc := cX8_lets) (maxL := 3) (ty := .int) (by decide) rfl (Nat.le_of_ble_eq_true rfl) (fun p e s m args below meth c Q A C hP hD hS hret ls hl => ?_)
  obtain ⟨hx, hb, hml, hr, hown, hts, hlk, hKK⟩ := id C
  have hK := hKK.1
  have hown : s.vm.findClass RX8 = some m.cls := hown
  have ctx : CallFix p m c cX8_lets 3 s args wsX8_lets RX8 := ⟨hx, hb, hml, hown, hts⟩
  have hl : lv_has ls 3 [(0, .ref o), (1, .int dv), (2, .int nv)] := hl
  obtain ⟨H, hHe⟩ : ∃ H, H = s.heap := ⟨_, rfl⟩
  obtain ⟨locs, hLe⟩ : ∃ L : List Loc, L = [] := ⟨_, rfl⟩
  have hP : va_P g.1 vwCl (mW g o a sc ar) H := by rw [hHe]; exact hP
  have hS : va_S A s.heap H locs := by rw [hHe, hLe]; exact hS
  suffices hgo : W p l e ({ frames := 5, cells := 0, slots := 0, locals := 121 } : Room) s m args below meth c H locs 0 0 Q (F0 m 0 ls []) by rw [hHe, hLe] at hgo; exact hgo
  clear hHe hLe
  refine lv_aload_n hx hb dX8_lets_0 rfl (lv_at hl 0 rfl) ?_
  refine lv_iload_n hx hb dX8_lets_1 rfl (lv_at hl 1 rfl) ?_
  refine ro_callV0 (As := [.int dv]) (rest := []) (b := o) ctx hKK hP (c_X8_isDoor l g o a sc ar dv (show (sc 2) ≤ 5 from by omega)) gX8_lets_X8_isDoor rfl rfl rfl hdX8_isDoor ⟨Nat.le_of_ble_eq_true rfl, Nat.le_of_ble_eq_true rfl⟩ (ci := 8) (q0 := 0) rfl rfl hl.1 rfl rfl (Nat.le_of_ble_eq_true rfl) dX8_lets_2 (fun r_1 hr_1 => ?_)
  have hr_1 : r_1 = bI (inPb ((sc 2)) dv) := hr_1
  subst hr_1
  refine lv_if_eq (tgt := 32) hx hb dX8_lets_5 (by decide) (fun c_2 => ?_) (fun c_2 => ?_)
  · replace c_2 := bI_f c_2
    refine lv_iconst (v := (-1)) hx hb dX8_lets_32 (by decide) ?_
    exact hret (-1) (ar 28) H locs 33 ls (by simp [c_2]) (hP) (hD) hS (rfl) dX8_lets_33
  · replace c_2 := bI_t c_2
    obtain ⟨d, hd, rfl⟩ := inPb_nat c_2 (by omega)
    refine lv_iload_n hx hb dX8_lets_8 rfl (lv_at hl 2 rfl) ?_
    refine lv_iconst (v := nI 0) hx hb dX8_lets_9 (by decide) ?_
    refine lv_iconst (v := nI 5) hx hb dX8_lets_10 (by decide) ?_
    refine ro_callS (As := [.int nv, .int (nI 0), .int (nI 5)]) (rest := []) ctx hKK hP (c_X8_in l g nv (nI 0) (nI 5)) gX8_lets_X8_in rfl rfl rfl hdX8_in ⟨Nat.le_of_ble_eq_true rfl, Nat.le_of_ble_eq_true rfl⟩ [] rfl hl.1 rfl rfl (Nat.le_of_ble_eq_true rfl) dX8_lets_11 (fun r_3 hr_3 => ?_)
    subst hr_3
    refine lv_if_eq (tgt := 32) hx hb dX8_lets_14 (by decide) (fun c_4 => ?_) (fun c_4 => ?_)
    · replace c_4 := bI_f c_4
      refine lv_iconst (v := (-1)) hx hb dX8_lets_32 (by decide) ?_
      exact hret (-1) (ar 28) H locs 33 ls (by simp [c_2, c_4, nI_clamp (show d < 2 ^ 31 by omega)]) (hP) (hD) hS (rfl) dX8_lets_33
    · replace c_4 := bI_t c_4
      obtain ⟨n, hn, rfl⟩ := inB_rng (k := 0) (n := 5) c_4 (by decide) (by decide)
      refine lv_aload_n hx hb dX8_lets_17 rfl (lv_at hl 0 rfl) ?_
      refine lv_aload_n hx hb dX8_lets_18 rfl (lv_at hl 0 rfl) ?_
      refine va_get (D := g.1) (cl := vwCl) (ci := 8) (v := .ref (a 3)) (C := RX8) (T := TX8) (N := 29) hx hb hts hX8_lets_X8 hown hK hP 0 rfl rfl 3 (by decide) (hts _ kX8_lets_f13) (fun _ h9 => h9) rfl dX8_lets_19 ?_
      refine lv_iload_n hx hb dX8_lets_22 rfl (lv_at hl 1 rfl) ?_
      refine ald_i (D := g.1) (cl := vwCl) (f := ar 3) (i := d) (n := 5) hx hb hK hP 2 0 rfl rfl (by omega) (by decide) dX8_lets_23 ?_
      refine lv_iload_n hx hb dX8_lets_24 rfl (lv_at hl 1 rfl) ?_
      refine lv_iload_n hx hb dX8_lets_25 rfl (lv_at hl 2 rfl) ?_
      refine wr_callVi0 (As := [.int ((ar 3) d), .int (nI d), .int (nI n)]) (rest := []) (b := o) ctx hKK hP hD hS (c_X8_letsIn l g o a sc ar ((ar 3) d) d n (show (sc 0) ≤ 8 from by omega) (show d < 5 from by omega) (show n ≤ 20 from by omega)) gX8_lets_X8_letsIn rfl rfl rfl hdX8_letsIn ⟨Nat.le_of_ble_eq_true rfl, Nat.le_of_ble_eq_true rfl⟩ (ci := 8) (q0 := 0) rfl rfl hl.1 rfl rfl (Nat.le_of_ble_eq_true rfl) dX8_lets_26 (fun r_5 u_6 H locs hr_5 hP hD hS => ?_)
      have hP : va_P g.1 vwCl (mW g o a sc (upA ar 28 u_6)) H := hP
      have hD : va_D A (mW g o a sc (upA ar 28 u_6)) := hD
      have hr_5 : r_5 = mLets ((ar 1)) ((sc 0)) ((ar 7)) ((ar 3) d) d n ((sc 0)) := hr_5
      subst hr_5
      refine lv_goto (tgt := 33) hx hb dX8_lets_29 (by decide) ?_
      exact hret (mLets ((ar 1)) ((sc 0)) ((ar 7)) ((ar 3) d) d n ((sc 0))) u_6 H locs 33 ls (by simp [c_2, c_4, nI_clamp (show d < 2 ^ 31 by omega), nI_clamp (show n < 2 ^ 31 by omega)]) (hP) (hD) hS (rfl) dX8_lets_33
theorem kX8_keeps_f82 : (Cond.fieldLink RX8 82 "LastCallersWordModel" "persons" "I" : Cond) ∈ wsX8_keeps := List.mem_cons_of_mem _ aw_324
theorem hX8_keeps_X8 : ∀ w ∈ wsX80, w ∈ wsX8_keeps := fun w h => List.mem_cons_of_mem _ (ac_X8 w h)
set_option maxHeartbeats 400000 in
set_option maxRecDepth 100000 in
theorem c_X8_keeps (l : Launch) (g : GG) (o : Nat) (a : Nat → Nat) (sc : Nat → Nat) (ar : Nat → Nat → Int32) (iv : Int32) (dv : Int32) (nv : Int32) (hP8 : sc 0 ≤ 8) (hD5 : sc 2 ≤ 5) : Met l yX8_keeps wsX8_keeps ({ frames := 5, cells := 0, slots := 0, locals := 121 } : Room) (wr g [.ref o, .int iv, .int dv, .int nv] (mW g o a sc ar)) (wQi g (mW g o a sc ar) (fun u : (Nat → Int32) => (mW g o a sc (upA ar 28 u))) (fun rr u => rr = (if inPb (sc 0) iv = true ∧ inPb (sc 2) dv = true ∧ inB nv (nI 0) (nI 5) = true then ((nI 1 <<< (nI (sc 0) &&& 31)) - nI 1) &&& (mLets (ar 1) (sc 0) (ar 7) iv dv.toNatClampNeg nv.toNatClampNeg (sc 0) ^^^ (-1)) else -1))) 0 0 (cA (mW g o a sc ar)) := by
  refine wr_starti (cc := cX8_keeps) (maxL := 4) (ty := .int) (by decide) rfl (Nat.le_of_ble_eq_true rfl) (fun p e s m args below meth c Q A C hP hD hS hret ls hl => ?_)
  obtain ⟨hx, hb, hml, hr, hown, hts, hlk, hKK⟩ := id C
  have hK := hKK.1
  have hown : s.vm.findClass RX8 = some m.cls := hown
  have ctx : CallFix p m c cX8_keeps 4 s args wsX8_keeps RX8 := ⟨hx, hb, hml, hown, hts⟩
  have hl : lv_has ls 4 [(0, .ref o), (1, .int iv), (2, .int dv), (3, .int nv)] := hl
  obtain ⟨H, hHe⟩ : ∃ H, H = s.heap := ⟨_, rfl⟩
  obtain ⟨locs, hLe⟩ : ∃ L : List Loc, L = [] := ⟨_, rfl⟩
  have hP : va_P g.1 vwCl (mW g o a sc ar) H := by rw [hHe]; exact hP
  have hS : va_S A s.heap H locs := by rw [hHe, hLe]; exact hS
  suffices hgo : W p l e ({ frames := 5, cells := 0, slots := 0, locals := 121 } : Room) s m args below meth c H locs 0 0 Q (F0 m 0 ls []) by rw [hHe, hLe] at hgo; exact hgo
  clear hHe hLe
  refine lv_aload_n hx hb dX8_keeps_0 rfl (lv_at hl 0 rfl) ?_
  refine lv_iload_n hx hb dX8_keeps_1 rfl (lv_at hl 1 rfl) ?_
  refine ro_callV0 (As := [.int iv]) (rest := []) (b := o) ctx hKK hP (c_X8_isPerson l g o a sc ar iv (show (sc 0) ≤ 8 from by omega)) gX8_keeps_X8_isPerson rfl rfl rfl hdX8_isPerson ⟨Nat.le_of_ble_eq_true rfl, Nat.le_of_ble_eq_true rfl⟩ (ci := 8) (q0 := 0) rfl rfl hl.1 rfl rfl (Nat.le_of_ble_eq_true rfl) dX8_keeps_2 (fun r_1 hr_1 => ?_)
  have hr_1 : r_1 = bI (inPb ((sc 0)) iv) := hr_1
  subst hr_1
  refine lv_if_eq (tgt := 25) hx hb dX8_keeps_5 (by decide) (fun c_2 => ?_) (fun c_2 => ?_)
  · replace c_2 := bI_f c_2
    refine lv_iconst (v := (-1)) hx hb dX8_keeps_25 (by decide) ?_
    exact hret (-1) (ar 28) H locs 26 ls (by simp [c_2]) (hP) (hD) hS (rfl) dX8_keeps_26
  · replace c_2 := bI_t c_2
    obtain ⟨i, hi, rfl⟩ := inPb_nat c_2 (by omega)
    refine lv_aload_n hx hb dX8_keeps_8 rfl (lv_at hl 0 rfl) ?_
    refine lv_iload_n hx hb dX8_keeps_9 rfl (lv_at hl 2 rfl) ?_
    refine ro_callV0 (As := [.int dv]) (rest := []) (b := o) ctx hKK hP (c_X8_isDoor l g o a sc ar dv (show (sc 2) ≤ 5 from by omega)) gX8_keeps_X8_isDoor rfl rfl rfl hdX8_isDoor ⟨Nat.le_of_ble_eq_true rfl, Nat.le_of_ble_eq_true rfl⟩ (ci := 8) (q0 := 0) rfl rfl hl.1 rfl rfl (Nat.le_of_ble_eq_true rfl) dX8_keeps_10 (fun r_3 hr_3 => ?_)
    have hr_3 : r_3 = bI (inPb ((sc 2)) dv) := hr_3
    subst hr_3
    refine lv_if_eq (tgt := 25) hx hb dX8_keeps_13 (by decide) (fun c_4 => ?_) (fun c_4 => ?_)
    · replace c_4 := bI_f c_4
      refine lv_iconst (v := (-1)) hx hb dX8_keeps_25 (by decide) ?_
      exact hret (-1) (ar 28) H locs 26 ls (by simp [c_2, c_4, nI_clamp (show i < 2 ^ 31 by omega)]) (hP) (hD) hS (rfl) dX8_keeps_26
    · replace c_4 := bI_t c_4
      obtain ⟨d, hd, rfl⟩ := inPb_nat c_4 (by omega)
      refine lv_iload_n hx hb dX8_keeps_16 rfl (lv_at hl 3 rfl) ?_
      refine lv_iconst (v := nI 0) hx hb dX8_keeps_17 (by decide) ?_
      refine lv_iconst (v := nI 5) hx hb dX8_keeps_18 (by decide) ?_
      refine ro_callS (As := [.int nv, .int (nI 0), .int (nI 5)]) (rest := []) ctx hKK hP (c_X8_in l g nv (nI 0) (nI 5)) gX8_keeps_X8_in rfl rfl rfl hdX8_in ⟨Nat.le_of_ble_eq_true rfl, Nat.le_of_ble_eq_true rfl⟩ [] rfl hl.1 rfl rfl (Nat.le_of_ble_eq_true rfl) dX8_keeps_19 (fun r_5 hr_5 => ?_)
      subst hr_5
      refine lv_if_ne (tgt := 27) hx hb dX8_keeps_22 (by decide) (fun c_6 => ?_) (fun c_6 => ?_)
      · replace c_6 := bI_t c_6
        obtain ⟨n, hn, rfl⟩ := inB_rng (k := 0) (n := 5) c_6 (by decide) (by decide)
        refine lv_iconst (v := nI 1) hx hb dX8_keeps_27 (by decide) ?_
        refine lv_aload_n hx hb dX8_keeps_28 rfl (lv_at hl 0 rfl) ?_
        refine va_get (D := g.1) (cl := vwCl) (ci := 8) (v := .int (nI (sc 0))) (C := RX8) (T := TX8) (N := 29) hx hb hts hX8_keeps_X8 hown hK hP 0 rfl rfl 0 (by decide) (hts _ kX8_keeps_f82) (fun _ h9 => h9) rfl dX8_keeps_29 ?_
        refine lv_ishl hx hb dX8_keeps_32 ?_
        refine lv_iconst (v := nI 1) hx hb dX8_keeps_33 (by decide) ?_
        refine lv_isub hx hb dX8_keeps_34 ?_
        refine lv_aload_n hx hb dX8_keeps_35 rfl (lv_at hl 0 rfl) ?_
        refine lv_iload_n hx hb dX8_keeps_36 rfl (lv_at hl 1 rfl) ?_
        refine lv_iload_n hx hb dX8_keeps_37 rfl (lv_at hl 2 rfl) ?_
        refine lv_iload_n hx hb dX8_keeps_38 rfl (lv_at hl 3 rfl) ?_
        refine wr_callVi0 (As := [.int (nI i), .int (nI d), .int (nI n)]) (rest := [.int (((nI 1) <<< ((nI (sc 0)) &&& 31)) - (nI 1))]) (b := o) ctx hKK hP hD hS (c_X8_letsIn l g o a sc ar (nI i) d n (show (sc 0) ≤ 8 from by omega) (show d < 5 from by omega) (show n ≤ 20 from by omega)) gX8_keeps_X8_letsIn rfl rfl rfl hdX8_letsIn ⟨Nat.le_of_ble_eq_true rfl, Nat.le_of_ble_eq_true rfl⟩ (ci := 8) (q0 := 0) rfl rfl hl.1 rfl rfl (Nat.le_of_ble_eq_true rfl) dX8_keeps_39 (fun r_7 u_8 H locs hr_7 hP hD hS => ?_)
        have hP : va_P g.1 vwCl (mW g o a sc (upA ar 28 u_8)) H := hP
        have hD : va_D A (mW g o a sc (upA ar 28 u_8)) := hD
        have hr_7 : r_7 = mLets ((ar 1)) ((sc 0)) ((ar 7)) (nI i) d n ((sc 0)) := hr_7
        subst hr_7
        refine lv_iconst (v := (-1)) hx hb dX8_keeps_42 (by decide) ?_
        refine lv_ixor hx hb dX8_keeps_43 ?_
        refine lv_iand hx hb dX8_keeps_44 ?_
        exact hret ((((nI 1) <<< ((nI (sc 0)) &&& 31)) - (nI 1)) &&& ((mLets ((ar 1)) ((sc 0)) ((ar 7)) (nI i) d n ((sc 0))) ^^^ (-1))) u_8 H locs 45 ls (by simp [c_2, c_4, c_6, nI_clamp (show i < 2 ^ 31 by omega), nI_clamp (show d < 2 ^ 31 by omega), nI_clamp (show n < 2 ^ 31 by omega)]) (hP) (hD) hS (rfl) dX8_keeps_45
      · replace c_6 := bI_f c_6
        refine lv_iconst (v := (-1)) hx hb dX8_keeps_25 (by decide) ?_
        exact hret (-1) (ar 28) H locs 26 ls (by simp [c_2, c_4, c_6, nI_clamp (show i < 2 ^ 31 by omega), nI_clamp (show d < 2 ^ 31 by omega)]) (hP) (hD) hS (rfl) dX8_keeps_26
