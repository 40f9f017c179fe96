
def mDe (nw : Nat → Int32) (i : Nat) (sm ls : Int32) : Nat → Int32
  | 0 => -4
  | j + 1 => if ¬ j = i ∧ hasB sm (nI j) = true ∧ ¬ nw ((1 + (8 * i)) + j) < ls ∧ (mDe nw i sm ls j < 0 ∨ ¬ nw ((1 + (8 * i)) + j) ≤ nw ((1 + (8 * i)) + (mDe nw i sm ls j).toNatClampNeg)) then nI j else mDe nw i sm ls j
theorem mDe_rng (nw : Nat → Int32) (i : Nat) (sm ls : Int32) : ∀ j, mDe nw i sm ls j = -4 ∨ ∃ k, k < j ∧ mDe nw i sm ls j = nI k
  | 0 => Or.inl rfl
  | j + 1 => by
    rw [mDe]
    split
    · exact Or.inr ⟨j, Nat.lt_succ_self j, rfl⟩
    · rcases mDe_rng nw i sm ls j with h | ⟨k, hk, h⟩
      · exact Or.inl h
      · exact Or.inr ⟨k, Nat.lt_succ_of_lt hk, h⟩
theorem mDe_nat {nw : Nat → Int32} {i : Nat} {sm ls x : Int32} {j : Nat} (e : x = mDe nw i sm ls j) (h : ¬ x < 0) : ∃ k, k < j ∧ x = nI k := by
  rcases mDe_rng nw i sm ls j with q | ⟨k, hk, q⟩
  · exact absurd (by rw [e, q]; decide) h
  · exact ⟨k, hk, by rw [e, q]⟩
def mBit (x : Int32) : Int32 := if x < 0 then nI 0 else nI 1 <<< (x &&& 31)
def mTl (nw : Nat → Int32) (P i : Nat) (ls : Int32) : Nat → Int32
  | 0 => nI 1 <<< (nI i &&& 31)
  | k + 1 => mTl nw P i ls k ||| mBit (mDe nw i (mTl nw P i ls k ^^^ (-1)) ls P)
def mMany (kd : Int32) : Nat := if kd = 0 then 2 else if kd = nI 1 then 3 else if kd = nI 2 then 0 else 8
def mLeast (kd : Int32) : Int32 := if kd = nI 3 then nI 8 else nI 1
def mTell (kd nw : Nat → Int32) (P i : Nat) : Int32 := mTl nw P i (mLeast (kd i)) (mMany (kd i))
def mCallW (kd : Nat → Int32) (P : Nat) (nw : Nat → Int32) (i d : Nat) : Nat → Int32 := upd (upd nw (65 + d) (nI i)) (70 + d) (mTell kd (upd nw (65 + d) (nI i)) P i)
def mDayV (kd nw : Nat → Int32) (P : Nat) (kn : Int32) : Nat → Int32
  | 0 => kn
  | i + 1 => if kd i = nI 1 ∧ hasB kn (nI i) = true then mDayV kd nw P kn i ||| mBit (mDe nw i (kn ^^^ (-1)) (nI 1) P) else mDayV kd nw P kn i
def mDayA (kd : Nat → Int32) (P d : Nat) (nw : Nat → Int32) : Nat → Int32 := upd nw (70 + d) (mDayV kd nw P (nw (70 + d)) P)
def mGoL (kd : Nat → Int32) (P : Nat) (nw : Nat → Int32) : Nat → Nat → Int32
  | 0 => nw
  | d + 1 => mDayA kd P d (mGoL kd P nw d)
def mZr (f : Nat → Int32) : Nat → Nat → Int32
  | 0 => f
  | j + 1 => upd (mZr f j) (75 + j) (nI 0)
def mGoes (kd : Nat → Int32) (P D : Nat) (nw : Nat → Int32) : Nat → Int32 := mZr (mGoL kd P (upd nw 0 (nw 0 + nI 1)) D) 40
def mShut (nw hs : Nat → Int32) (d : Nat) : Bool := !hasB (nw (70 + d)) (hs d)
def mSo (nw hs : Nat → Int32) : Nat → Int32
  | 0 => nI 0
  | d + 1 => mSo nw hs d ||| (if mShut nw hs d = true then nI 1 <<< (nI d &&& 31) else nI 0)
theorem kX8_likingOf_f49 : (Cond.fieldLink RX8 49 "LastCallersWordModel" "now" "[I" : Cond) ∈ wsX8_likingOf := List.mem_cons_of_mem _ aw_301
theorem hX8_likingOf_X8 : ∀ w ∈ wsX80, w ∈ wsX8_likingOf := fun w h => List.mem_cons_of_mem _ (ac_X8 w h)
set_option maxHeartbeats 400000 in
set_option maxRecDepth 100000 in
theorem c_X8_likingOf (l : Launch) (g : GG) (o : Nat) (a : Nat → Nat) (sc : Nat → Nat) (ar : Nat → Nat → Int32) (i : Nat) (j : Nat) (hi : i < 8) (hj : j < 8) : Met l yX8_likingOf wsX8_likingOf ({ frames := 0, cells := 0, slots := 0, locals := 0 } : Room) (ro g [.ref o, .int (nI i), .int (nI j)] (mW g o a sc ar)) (vp_Si (fun rr => rr = ar 28 ((1 + (8 * i)) + j))) 0 0 (fun _ => False) := by
  refine ro_start (cc := cX8_likingOf) (maxL := 3) (ty := .int) (by decide) rfl (Nat.le_of_ble_eq_true rfl) (fun p e s m args below meth c Q C hP hret ls hl => ?_)
  obtain ⟨hx, hb, hml, hr, hown, hts, hlk, hKK⟩ := id C
  have hK := hKK.1
  have hown : s.vm.findClass RX8 = some m.cls := hown
  have ctx : CallFix p m c cX8_likingOf 3 s args wsX8_likingOf RX8 := ⟨hx, hb, hml, hown, hts⟩
  have hl : lv_has ls 3 [(0, .ref o), (1, .int (nI i)), (2, .int (nI j))] := hl
  refine lv_aload_n hx hb dX8_likingOf_0 rfl (lv_at hl 0 rfl) ?_
  refine va_get (D := g.1) (cl := vwCl) (ci := 8) (v := .ref (a 28)) (C := RX8) (T := TX8) (N := 29) hx hb hts hX8_likingOf_X8 hown hK hP 0 rfl rfl 28 (by decide) (hts _ kX8_likingOf_f49) (fun _ h9 => h9) rfl dX8_likingOf_1 ?_
  refine lv_iconst (v := nI 1) hx hb dX8_likingOf_4 (by decide) ?_
  refine lv_bipush (v := nI 8) hx hb dX8_likingOf_5 (by decide) ?_
  refine lv_iload_n hx hb dX8_likingOf_7 rfl (lv_at hl 1 rfl) ?_
  refine lv_imul hx hb dX8_likingOf_8 ?_
  refine lv_is (pk_mul 8 i) ?_
  refine lv_iadd hx hb dX8_likingOf_9 ?_
  refine lv_is (nI_add 1 (8 * i)) ?_
  refine lv_iload_n hx hb dX8_likingOf_10 rfl (lv_at hl 2 rfl) ?_
  refine lv_iadd hx hb dX8_likingOf_11 ?_
  refine lv_is (nI_add (1 + (8 * i)) j) ?_
  refine ald_i (D := g.1) (cl := vwCl) (f := ar 28) (i := (1 + (8 * i)) + j) (n := 115) hx hb hK hP 14 0 rfl rfl (by omega) (by decide) dX8_likingOf_12 ?_
  exact hret ((ar 28) ((1 + (8 * i)) + j)) 13 ls (rfl) (rfl) dX8_likingOf_13
theorem kX8_dearest_f82 : (Cond.fieldLink RX8 82 "LastCallersWordModel" "persons" "I" : Cond) ∈ wsX8_dearest := List.mem_cons_of_mem _ aw_324
theorem hX8_dearest_X8 : ∀ w ∈ wsX80, w ∈ wsX8_dearest := fun w h => List.mem_cons_of_mem _ (ac_X8 w h)
set_option maxHeartbeats 400000 in
set_option maxRecDepth 100000 in
theorem c_X8_dearest (l : Launch) (g : GG) (o : Nat) (a : Nat → Nat) (sc : Nat → Nat) (ar : Nat → Nat → Int32) (i : Nat) (sm : Int32) (ls_ : Int32) (hP8 : sc 0 ≤ 8) (hi : i < 8) : Met l yX8_dearest wsX8_dearest ({ frames := 1, cells := 0, slots := 0, locals := 22 } : Room) (ro g [.ref o, .int (nI i), .int sm, .int ls_] (mW g o a sc ar)) (vp_Si (fun rr => rr = mDe (ar 28) i sm ls_ (sc 0))) 0 0 (fun _ => False) := by
  refine ro_start (cc := cX8_dearest) (maxL := 7) (ty := .int) (by decide) rfl (Nat.le_of_ble_eq_true rfl) (fun p e s m args below meth c Q C hP hret ls hl => ?_)
  obtain ⟨hx, hb, hml, hr, hown, hts, hlk, hKK⟩ := id C
  have hK := hKK.1
  have hown : s.vm.findClass RX8 = some m.cls := hown
  have ctx : CallFix p m c cX8_dearest 7 s args wsX8_dearest RX8 := ⟨hx, hb, hml, hown, hts⟩
  have hl : lv_has ls 7 [(0, .ref o), (1, .int (nI i)), (2, .int sm), (3, .int ls_)] := hl
  refine lv_bipush (v := (-4)) hx hb dX8_dearest_0 (by decide) ?_
  refine lv_istore (lv' := [(4, .int (-4)), (0, .ref o), (1, .int (nI i)), (2, .int sm), (3, .int ls_)]) hx hb dX8_dearest_2 hl (by decide) rfl (fun ls hl => ?_)
  refine lv_iconst (v := nI 0) hx hb dX8_dearest_4 (by decide) ?_
  refine lv_istore (lv' := [(5, .int (nI 0)), (4, .int (-4)), (0, .ref o), (1, .int (nI i)), (2, .int sm), (3, .int ls_)]) hx hb dX8_dearest_5 hl (by decide) rfl (fun ls hl => ?_)
  have LP7 : ∀ (fu : Nat) (j : Nat) (x4 : Int32), sc 0 - j < fu → (j ≤ sc 0) → (x4 = mDe (ar 28) i sm ls_ j) → ∀ (ls : Array Slot), lv_has ls 7 [(5, .int (nI j)), (4, .int x4), (0, .ref o), (1, .int (nI i)), (2, .int sm), (3, .int ls_)] → W p l e ({ frames := 1, cells := 0, slots := 0, locals := 22 } : Room) s m args below meth c s.heap [] 0 0 Q (F0 m 7 ls []) := by
    intro fu
    induction fu with
    | zero => intro j x4 hfu; exact absurd hfu (Nat.not_lt_zero _)
    | succ fu ih7 =>
      intro j x4 hfu hj e4 ls hl
      refine lv_iload hx hb dX8_dearest_7 (lv_at hl 0 rfl) ?_
      refine lv_aload_n hx hb dX8_dearest_9 rfl (lv_at hl 2 rfl) ?_
      refine va_get (D := g.1) (cl := vwCl) (ci := 8) (v := .int (nI (sc 0))) (C := RX8) (T := TX8) (N := 29) hx hb hts hX8_dearest_X8 hown hK hP 0 rfl rfl 0 (by decide) (hts _ kX8_dearest_f82) (fun _ h9 => h9) rfl dX8_dearest_10 ?_
      refine lv_icmp_ge (tgt := 91) hx hb dX8_dearest_13 (by decide) (fun c_1 => ?_) (fun c_1 => ?_)
      · replace c_1 : (sc 0) ≤ j := (nI_leI (a := sc 0) (b := j) (by omega) (by omega)).mp c_1
        refine lv_iload hx hb dX8_dearest_91 (lv_at hl 1 rfl) ?_
        exact hret x4 93 ls (by rw [e4, show j = sc 0 by omega]) (rfl) dX8_dearest_93
      · replace c_1 : ¬ (sc 0) ≤ j := fun h => c_1 ((nI_leI (a := sc 0) (b := j) (by omega) (by omega)).mpr h)
        refine lv_iload hx hb dX8_dearest_16 (lv_at hl 0 rfl) ?_
        refine lv_iload_n hx hb dX8_dearest_18 rfl (lv_at hl 3 rfl) ?_
        refine lv_icmp_eq (tgt := 46) hx hb dX8_dearest_19 (by decide) (fun c_2 => ?_) (fun c_2 => ?_)
        · replace c_2 : j = i := (nI_eq (a := j) (b := i) (by omega) (by omega)).mp c_2
          refine lv_iconst (v := nI 0) hx hb dX8_dearest_46 (by decide) ?_
          refine lv_istore (lv' := [(6, .int (nI 0)), (5, .int (nI j)), (4, .int x4), (0, .ref o), (1, .int (nI i)), (2, .int sm), (3, .int ls_)]) hx hb dX8_dearest_47 hl (by decide) rfl (fun ls hl => ?_)
          refine lv_iload hx hb dX8_dearest_49 (lv_at hl 0 rfl) ?_
          refine lv_if_eq (tgt := 81) hx hb dX8_dearest_51 (by decide) (fun c_3 => ?_) (fun c_3 => absurd c_3 (by decide))
          refine lv_iload hx hb dX8_dearest_81 (lv_at hl 2 rfl) ?_
          refine lv_istore (lv' := [(4, .int x4), (6, .int (nI 0)), (5, .int (nI j)), (0, .ref o), (1, .int (nI i)), (2, .int sm), (3, .int ls_)]) hx hb dX8_dearest_83 hl (by decide) rfl (fun ls hl => ?_)
          refine lv_iinc (v := nI (j + 1)) (lv' := [(5, .int (nI (j + 1))), (4, .int x4), (6, .int (nI 0)), (0, .ref o), (1, .int (nI i)), (2, .int sm), (3, .int ls_)]) hx hb dX8_dearest_85 hl (k := 2) rfl (iincK j 1) (by decide) rfl (fun ls hl => ?_)
          refine lv_goto (tgt := 7) hx hb dX8_dearest_88 (by decide) ?_
          exact ih7 (j + 1) x4 (by omega) (by omega) (by rw [mDe, ← e4]; simp [c_1, c_2]) ls (lv_sub hl [0, 1, 3, 4, 5, 6] rfl)
        · replace c_2 : ¬ j = i := fun h => c_2 ((nI_eq (a := j) (b := i) (by omega) (by omega)).mpr h)
          refine lv_iload_n hx hb dX8_dearest_22 rfl (lv_at hl 4 rfl) ?_
          refine lv_iload hx hb dX8_dearest_23 (lv_at hl 0 rfl) ?_
          refine ro_callS (As := [.int sm, .int (nI j)]) (rest := []) ctx hKK hP (c_X8_has l g sm (nI j)) gX8_dearest_X8_has rfl rfl rfl hdX8_has ⟨Nat.le_of_ble_eq_true rfl, Nat.le_of_ble_eq_true rfl⟩ [] rfl hl.1 rfl rfl (Nat.le_of_ble_eq_true rfl) dX8_dearest_25 (fun r_4 hr_4 => ?_)
          subst hr_4
          refine lv_if_eq (tgt := 46) hx hb dX8_dearest_28 (by decide) (fun c_5 => ?_) (fun c_5 => ?_)
          · replace c_5 := bI_f c_5
            refine lv_iconst (v := nI 0) hx hb dX8_dearest_46 (by decide) ?_
            refine lv_istore (lv' := [(6, .int (nI 0)), (5, .int (nI j)), (4, .int x4), (0, .ref o), (1, .int (nI i)), (2, .int sm), (3, .int ls_)]) hx hb dX8_dearest_47 hl (by decide) rfl (fun ls hl => ?_)
            refine lv_iload hx hb dX8_dearest_49 (lv_at hl 0 rfl) ?_
            refine lv_if_eq (tgt := 81) hx hb dX8_dearest_51 (by decide) (fun c_6 => ?_) (fun c_6 => absurd c_6 (by decide))
            refine lv_iload hx hb dX8_dearest_81 (lv_at hl 2 rfl) ?_
            refine lv_istore (lv' := [(4, .int x4), (6, .int (nI 0)), (5, .int (nI j)), (0, .ref o), (1, .int (nI i)), (2, .int sm), (3, .int ls_)]) hx hb dX8_dearest_83 hl (by decide) rfl (fun ls hl => ?_)
            refine lv_iinc (v := nI (j + 1)) (lv' := [(5, .int (nI (j + 1))), (4, .int x4), (6, .int (nI 0)), (0, .ref o), (1, .int (nI i)), (2, .int sm), (3, .int ls_)]) hx hb dX8_dearest_85 hl (k := 2) rfl (iincK j 1) (by decide) rfl (fun ls hl => ?_)
            refine lv_goto (tgt := 7) hx hb dX8_dearest_88 (by decide) ?_
            exact ih7 (j + 1) x4 (by omega) (by omega) (by rw [mDe, ← e4]; simp [c_1, c_2, c_5]) ls (lv_sub hl [0, 1, 3, 4, 5, 6] rfl)
          · replace c_5 := bI_t c_5
            refine lv_aload_n hx hb dX8_dearest_31 rfl (lv_at hl 2 rfl) ?_
            refine lv_iload_n hx hb dX8_dearest_32 rfl (lv_at hl 3 rfl) ?_
            refine lv_iload hx hb dX8_dearest_33 (lv_at hl 0 rfl) ?_
            refine ro_callV0 (As := [.int (nI i), .int (nI j)]) (rest := []) (b := o) ctx hKK hP (c_X8_likingOf l g o a sc ar i j (show i < 8 from by omega) (show j < 8 from by omega)) gX8_dearest_X8_likingOf rfl rfl rfl hdX8_likingOf ⟨Nat.le_of_ble_eq_true rfl, Nat.le_of_ble_eq_true rfl⟩ (ci := 8) (q0 := 0) rfl rfl hl.1 rfl rfl (Nat.le_of_ble_eq_true rfl) dX8_dearest_35 (fun r_7 hr_7 => ?_)
            have hr_7 : r_7 = (ar 28) ((1 + (8 * i)) + j) := hr_7
            subst hr_7
            refine lv_iload_n hx hb dX8_dearest_38 rfl (lv_at hl 5 rfl) ?_
            refine lv_icmp_lt (tgt := 46) hx hb dX8_dearest_39 (by decide) (fun c_8 => ?_) (fun c_8 => ?_)
            · refine lv_iconst (v := nI 0) hx hb dX8_dearest_46 (by decide) ?_
              refine lv_istore (lv' := [(6, .int (nI 0)), (5, .int (nI j)), (4, .int x4), (0, .ref o), (1, .int (nI i)), (2, .int sm), (3, .int ls_)]) hx hb dX8_dearest_47 hl (by decide) rfl (fun ls hl => ?_)
              refine lv_iload hx hb dX8_dearest_49 (lv_at hl 0 rfl) ?_
              refine lv_if_eq (tgt := 81) hx hb dX8_dearest_51 (by decide) (fun c_9 => ?_) (fun c_9 => absurd c_9 (by decide))
              refine lv_iload hx hb dX8_dearest_81 (lv_at hl 2 rfl) ?_
              refine lv_istore (lv' := [(4, .int x4), (6, .int (nI 0)), (5, .int (nI j)), (0, .ref o), (1, .int (nI i)), (2, .int sm), (3, .int ls_)]) hx hb dX8_dearest_83 hl (by decide) rfl (fun ls hl => ?_)
              refine lv_iinc (v := nI (j + 1)) (lv' := [(5, .int (nI (j + 1))), (4, .int x4), (6, .int (nI 0)), (0, .ref o), (1, .int (nI i)), (2, .int sm), (3, .int ls_)]) hx hb dX8_dearest_85 hl (k := 2) rfl (iincK j 1) (by decide) rfl (fun ls hl => ?_)
              refine lv_goto (tgt := 7) hx hb dX8_dearest_88 (by decide) ?_
              exact ih7 (j + 1) x4 (by omega) (by omega) (by rw [mDe, ← e4]; simp [c_1, c_2, c_5, c_8]) ls (lv_sub hl [0, 1, 3, 4, 5, 6] rfl)
            · refine lv_iconst (v := nI 1) hx hb dX8_dearest_42 (by decide) ?_
              refine lv_goto (tgt := 47) hx hb dX8_dearest_43 (by decide) ?_
              refine lv_istore (lv' := [(6, .int (nI 1)), (5, .int (nI j)), (4, .int x4), (0, .ref o), (1, .int (nI i)), (2, .int sm), (3, .int ls_)]) hx hb dX8_dearest_47 hl (by decide) rfl (fun ls hl => ?_)
              refine lv_iload hx hb dX8_dearest_49 (lv_at hl 0 rfl) ?_
              refine lv_if_eq (tgt := 81) hx hb dX8_dearest_51 (by decide) (fun c_10 => absurd c_10 (by decide)) (fun c_10 => ?_)
              refine lv_iload hx hb dX8_dearest_54 (lv_at hl 2 rfl) ?_
              refine lv_if_lt (tgt := 76) hx hb dX8_dearest_56 (by decide) (fun c_11 => ?_) (fun c_11 => ?_)
              · refine lv_iload hx hb dX8_dearest_76 (lv_at hl 1 rfl) ?_
                refine lv_goto (tgt := 83) hx hb dX8_dearest_78 (by decide) ?_
                refine lv_istore (lv' := [(4, .int (nI j)), (6, .int (nI 1)), (5, .int (nI j)), (0, .ref o), (1, .int (nI i)), (2, .int sm), (3, .int ls_)]) hx hb dX8_dearest_83 hl (by decide) rfl (fun ls hl => ?_)
                refine lv_iinc (v := nI (j + 1)) (lv' := [(5, .int (nI (j + 1))), (4, .int (nI j)), (6, .int (nI 1)), (0, .ref o), (1, .int (nI i)), (2, .int sm), (3, .int ls_)]) hx hb dX8_dearest_85 hl (k := 2) rfl (iincK j 1) (by decide) rfl (fun ls hl => ?_)
                refine lv_goto (tgt := 7) hx hb dX8_dearest_88 (by decide) ?_
                exact ih7 (j + 1) (nI j) (by omega) (by omega) (by rw [mDe, ← e4]; simp [c_1, c_2, c_5, c_8, c_11]) ls (lv_sub hl [0, 1, 3, 4, 5, 6] rfl)
              · obtain ⟨k4, hk4, rfl⟩ := mDe_nat e4 c_11
                refine lv_aload_n hx hb dX8_dearest_59 rfl (lv_at hl 3 rfl) ?_
                refine lv_iload_n hx hb dX8_dearest_60 rfl (lv_at hl 4 rfl) ?_
                refine lv_iload hx hb dX8_dearest_61 (lv_at hl 1 rfl) ?_
                refine ro_callV0 (As := [.int (nI i), .int (nI j)]) (rest := []) (b := o) ctx hKK hP (c_X8_likingOf l g o a sc ar i j (show i < 8 from by omega) (show j < 8 from by omega)) gX8_dearest_X8_likingOf rfl rfl rfl hdX8_likingOf ⟨Nat.le_of_ble_eq_true rfl, Nat.le_of_ble_eq_true rfl⟩ (ci := 8) (q0 := 0) rfl rfl hl.1 rfl rfl (Nat.le_of_ble_eq_true rfl) dX8_dearest_63 (fun r_12 hr_12 => ?_)
                have hr_12 : r_12 = (ar 28) ((1 + (8 * i)) + j) := hr_12
                subst hr_12
                refine lv_aload_n hx hb dX8_dearest_66 rfl (lv_at hl 3 rfl) ?_
                refine lv_iload_n hx hb dX8_dearest_67 rfl (lv_at hl 4 rfl) ?_
                refine lv_iload hx hb dX8_dearest_68 (lv_at hl 2 rfl) ?_
                refine ro_callV0 (As := [.int (nI i), .int (nI k4)]) (rest := [.int ((ar 28) ((1 + (8 * i)) + j))]) (b := o) ctx hKK hP (c_X8_likingOf l g o a sc ar i k4 (show i < 8 from by omega) (show k4 < 8 from by omega)) gX8_dearest_X8_likingOf rfl rfl rfl hdX8_likingOf ⟨Nat.le_of_ble_eq_true rfl, Nat.le_of_ble_eq_true rfl⟩ (ci := 8) (q0 := 0) rfl rfl hl.1 rfl rfl (Nat.le_of_ble_eq_true rfl) dX8_dearest_70 (fun r_13 hr_13 => ?_)
                have hr_13 : r_13 = (ar 28) ((1 + (8 * i)) + k4) := hr_13
                subst hr_13
                refine lv_icmp_le (tgt := 81) hx hb dX8_dearest_73 (by decide) (fun c_14 => ?_) (fun c_14 => ?_)
                · refine lv_iload hx hb dX8_dearest_81 (lv_at hl 2 rfl) ?_
                  refine lv_istore (lv' := [(4, .int (nI k4)), (6, .int (nI 1)), (5, .int (nI j)), (0, .ref o), (1, .int (nI i)), (2, .int sm), (3, .int ls_)]) hx hb dX8_dearest_83 hl (by decide) rfl (fun ls hl => ?_)
                  refine lv_iinc (v := nI (j + 1)) (lv' := [(5, .int (nI (j + 1))), (4, .int (nI k4)), (6, .int (nI 1)), (0, .ref o), (1, .int (nI i)), (2, .int sm), (3, .int ls_)]) hx hb dX8_dearest_85 hl (k := 2) rfl (iincK j 1) (by decide) rfl (fun ls hl => ?_)
                  refine lv_goto (tgt := 7) hx hb dX8_dearest_88 (by decide) ?_
                  exact ih7 (j + 1) (nI k4) (by omega) (by omega) (by rw [mDe, ← e4]; simp [c_1, c_2, c_5, c_8, c_11, c_14, nI_clamp (show k4 < 2 ^ 31 by omega)]) ls (lv_sub hl [0, 1, 3, 4, 5, 6] rfl)
                · refine lv_iload hx hb dX8_dearest_76 (lv_at hl 1 rfl) ?_
                  refine lv_goto (tgt := 83) hx hb dX8_dearest_78 (by decide) ?_
                  refine lv_istore (lv' := [(4, .int (nI j)), (6, .int (nI 1)), (5, .int (nI j)), (0, .ref o), (1, .int (nI i)), (2, .int sm), (3, .int ls_)]) hx hb dX8_dearest_83 hl (by decide) rfl (fun ls hl => ?_)
                  refine lv_iinc (v := nI (j + 1)) (lv' := [(5, .int (nI (j + 1))), (4, .int (nI j)), (6, .int (nI 1)), (0, .ref o), (1, .int (nI i)), (2, .int sm), (3, .int ls_)]) hx hb dX8_dearest_85 hl (k := 2) rfl (iincK j 1) (by decide) rfl (fun ls hl => ?_)
                  refine lv_goto (tgt := 7) hx hb dX8_dearest_88 (by decide) ?_
                  exact ih7 (j + 1) (nI j) (by omega) (by omega) (by rw [mDe, ← e4]; simp [c_1, c_2, c_5, c_8, c_11, c_14, nI_clamp (show k4 < 2 ^ 31 by omega)]) ls (lv_sub hl [0, 1, 3, 4, 5, 6] rfl)
  exact LP7 (sc 0 + 1) 0 (-4) (by omega) (by omega) (rfl) ls (lv_sub hl [0, 1, 2, 3, 4, 5] rfl)
theorem kX8_tellsTo_f7 : (Cond.fieldLink RX8 7 "LastCallersWordModel" "kinds" "[I" : Cond) ∈ wsX8_tellsTo := List.mem_cons_of_mem _ aw_288
theorem hX8_tellsTo_X8 : ∀ w ∈ wsX80, w ∈ wsX8_tellsTo := fun w h => List.mem_cons_of_mem _ (ac_X8 w h)
set_option maxHeartbeats 400000 in
set_option maxRecDepth 100000 in
theorem c_X8_tellsTo (l : Launch) (g : GG) (o : Nat) (a : Nat → Nat) (sc : Nat → Nat) (ar : Nat → Nat → Int32) (i : Nat) (hP8 : sc 0 ≤ 8) (hi : i < 8) : Met l yX8_tellsTo wsX8_tellsTo ({ frames := 2, cells := 0, slots := 0, locals := 48 } : Room) (ro g [.ref o, .int (nI i)] (mW g o a sc ar)) (vp_Si (fun rr => rr = mTell (ar 1) (ar 28) (sc 0) i)) 0 0 (fun _ => False) := by
  refine ro_start (cc := cX8_tellsTo) (maxL := 7) (ty := .int) (by decide) rfl (Nat.le_of_ble_eq_true rfl) (fun p e s m args below meth c Q C hP hret ls hl => ?_)
  obtain ⟨hx, hb, hml, hr, hown, hts, hlk, hKK⟩ := id C
  have hK := hKK.1
  have hown : s.vm.findClass RX8 = some m.cls := hown
  have ctx : CallFix p m c cX8_tellsTo 7 s args wsX8_tellsTo RX8 := ⟨hx, hb, hml, hown, hts⟩
  have hl : lv_has ls 7 [(0, .ref o), (1, .int (nI i))] := hl
  have JP43 : ∀ (mny : Nat), (mny ≤ 8) → (mny = mMany (ar 1 i)) → ∀ (ls : Array Slot), lv_has ls 7 [(0, .ref o), (1, .int (nI i))] → W p l e ({ frames := 2, cells := 0, slots := 0, locals := 48 } : Room) s m args below meth c s.heap [] 0 0 Q (F0 m 43 ls [.int (nI mny)]) := by
    intro mny hm em ls hl
    have JP60 : ∀ (lst_ : Int32), (lst_ = mLeast (ar 1 i)) → ∀ (ls : Array Slot), lv_has ls 7 [(0, .ref o), (1, .int (nI i)), (2, .int (nI mny))] → W p l e ({ frames := 2, cells := 0, slots := 0, locals := 48 } : Room) s m args below meth c s.heap [] 0 0 Q (F0 m 60 ls [.int lst_]) := by
      intro lst_ el ls hl
      refine lv_istore_n (lv' := [(3, .int lst_), (0, .ref o), (1, .int (nI i)), (2, .int (nI mny))]) hx hb dX8_tellsTo_60 rfl hl (by decide) rfl (fun ls hl => ?_)
      refine lv_iconst (v := nI 1) hx hb dX8_tellsTo_61 (by decide) ?_
      refine lv_iload_n hx hb dX8_tellsTo_62 rfl (lv_at hl 2 rfl) ?_
      refine lv_ishl hx hb dX8_tellsTo_63 ?_
      refine lv_istore (lv' := [(4, .int ((nI 1) <<< ((nI i) &&& 31))), (3, .int lst_), (0, .ref o), (1, .int (nI i)), (2, .int (nI mny))]) hx hb dX8_tellsTo_64 hl (by decide) rfl (fun ls hl => ?_)
      refine lv_iconst (v := nI 0) hx hb dX8_tellsTo_66 (by decide) ?_
      refine lv_istore (lv' := [(5, .int (nI 0)), (4, .int ((nI 1) <<< ((nI i) &&& 31))), (3, .int lst_), (0, .ref o), (1, .int (nI i)), (2, .int (nI mny))]) hx hb dX8_tellsTo_67 hl (by decide) rfl (fun ls hl => ?_)
      have LP69 : ∀ (fu : Nat) (j : Nat) (x4 : Int32), mny - j < fu → (j ≤ mny) → (x4 = mTl (ar 28) (sc 0) i lst_ j) → ∀ (ls : Array Slot), lv_has ls 7 [(5, .int (nI j)), (4, .int x4), (3, .int lst_), (0, .ref o), (1, .int (nI i)), (2, .int (nI mny))] → W p l e ({ frames := 2, cells := 0, slots := 0, locals := 48 } : Room) s m args below meth c s.heap [] 0 0 Q (F0 m 69 ls []) := by
        intro fu
        induction fu with
        | zero => intro j x4 hfu; exact absurd hfu (Nat.not_lt_zero _)
        | succ fu ih69 =>
          intro j x4 hfu hj e4 ls hl
          refine lv_iload hx hb dX8_tellsTo_69 (lv_at hl 0 rfl) ?_
          refine lv_iload_n hx hb dX8_tellsTo_71 rfl (lv_at hl 5 rfl) ?_
          refine lv_icmp_ge (tgt := 111) hx hb dX8_tellsTo_72 (by decide) (fun c_1 => ?_) (fun c_1 => ?_)
          · replace c_1 : mny ≤ j := (nI_leI (a := mny) (b := j) (by omega) (by omega)).mp c_1
            refine lv_iload hx hb dX8_tellsTo_111 (lv_at hl 1 rfl) ?_
            exact hret x4 113 ls (by rw [mTell, ← em, ← el, e4, show j = mny by omega]) (rfl) dX8_tellsTo_113
          · replace c_1 : ¬ mny ≤ j := fun h => c_1 ((nI_leI (a := mny) (b := j) (by omega) (by omega)).mpr h)
            refine lv_aload_n hx hb dX8_tellsTo_75 rfl (lv_at hl 3 rfl) ?_
            refine lv_iload_n hx hb dX8_tellsTo_76 rfl (lv_at hl 4 rfl) ?_
            refine lv_iload hx hb dX8_tellsTo_77 (lv_at hl 1 rfl) ?_
            refine lv_iconst (v := (-1)) hx hb dX8_tellsTo_79 (by decide) ?_
            refine lv_ixor hx hb dX8_tellsTo_80 ?_
            refine lv_iload_n hx hb dX8_tellsTo_81 rfl (lv_at hl 2 rfl) ?_
            refine ro_callV0 (As := [.int (nI i), .int (x4 ^^^ (-1)), .int lst_]) (rest := []) (b := o) ctx hKK hP (c_X8_dearest l g o a sc ar i (x4 ^^^ (-1)) lst_ (show (sc 0) ≤ 8 from by omega) (show i < 8 from by omega)) gX8_tellsTo_X8_dearest rfl rfl rfl hdX8_dearest ⟨Nat.le_of_ble_eq_true rfl, Nat.le_of_ble_eq_true rfl⟩ (ci := 8) (q0 := 0) rfl rfl hl.1 rfl rfl (Nat.le_of_ble_eq_true rfl) dX8_tellsTo_82 (fun r_2 hr_2 => ?_)
            have hr_2 : r_2 = mDe ((ar 28)) i (x4 ^^^ (-1)) lst_ ((sc 0)) := hr_2
            subst hr_2
            refine lv_istore (lv' := [(6, .int (mDe ((ar 28)) i (x4 ^^^ (-1)) lst_ ((sc 0)))), (5, .int (nI j)), (4, .int x4), (3, .int lst_), (0, .ref o), (1, .int (nI i)), (2, .int (nI mny))]) hx hb dX8_tellsTo_85 hl (by decide) rfl (fun ls hl => ?_)
            refine lv_iload hx hb dX8_tellsTo_87 (lv_at hl 2 rfl) ?_
            refine lv_iload hx hb dX8_tellsTo_89 (lv_at hl 0 rfl) ?_
            refine lv_if_ge (tgt := 98) hx hb dX8_tellsTo_91 (by decide) (fun c_3 => ?_) (fun c_3 => ?_)
            · refine lv_iconst (v := nI 1) hx hb dX8_tellsTo_98 (by decide) ?_
              refine lv_iload hx hb dX8_tellsTo_99 (lv_at hl 0 rfl) ?_
              refine lv_ishl hx hb dX8_tellsTo_101 ?_
              refine lv_ior hx hb dX8_tellsTo_102 ?_
              refine lv_istore (lv' := [(4, .int (x4 ||| ((nI 1) <<< ((mDe ((ar 28)) i (x4 ^^^ (-1)) lst_ ((sc 0))) &&& 31)))), (6, .int (mDe ((ar 28)) i (x4 ^^^ (-1)) lst_ ((sc 0)))), (5, .int (nI j)), (3, .int lst_), (0, .ref o), (1, .int (nI i)), (2, .int (nI mny))]) hx hb dX8_tellsTo_103 hl (by decide) rfl (fun ls hl => ?_)
              refine lv_iinc (v := nI (j + 1)) (lv' := [(5, .int (nI (j + 1))), (4, .int (x4 ||| ((nI 1) <<< ((mDe ((ar 28)) i (x4 ^^^ (-1)) lst_ ((sc 0))) &&& 31)))), (6, .int (mDe ((ar 28)) i (x4 ^^^ (-1)) lst_ ((sc 0)))), (3, .int lst_), (0, .ref o), (1, .int (nI i)), (2, .int (nI mny))]) hx hb dX8_tellsTo_105 hl (k := 2) rfl (iincK j 1) (by decide) rfl (fun ls hl => ?_)
              refine lv_goto (tgt := 69) hx hb dX8_tellsTo_108 (by decide) ?_
              exact ih69 (j + 1) (x4 ||| ((nI 1) <<< ((mDe ((ar 28)) i (x4 ^^^ (-1)) lst_ ((sc 0))) &&& 31))) (by omega) (by omega) (by rw [mTl, ← e4, mBit, if_neg (Int32.not_lt.mpr c_3)]) ls (lv_sub hl [0, 1, 3, 4, 5, 6] rfl)
            · refine lv_iconst (v := nI 0) hx hb dX8_tellsTo_94 (by decide) ?_
              refine lv_goto (tgt := 102) hx hb dX8_tellsTo_95 (by decide) ?_
              refine lv_ior hx hb dX8_tellsTo_102 ?_
              refine lv_istore (lv' := [(4, .int (x4 ||| (nI 0))), (6, .int (mDe ((ar 28)) i (x4 ^^^ (-1)) lst_ ((sc 0)))), (5, .int (nI j)), (3, .int lst_), (0, .ref o), (1, .int (nI i)), (2, .int (nI mny))]) hx hb dX8_tellsTo_103 hl (by decide) rfl (fun ls hl => ?_)
              refine lv_iinc (v := nI (j + 1)) (lv' := [(5, .int (nI (j + 1))), (4, .int (x4 ||| (nI 0))), (6, .int (mDe ((ar 28)) i (x4 ^^^ (-1)) lst_ ((sc 0)))), (3, .int lst_), (0, .ref o), (1, .int (nI i)), (2, .int (nI mny))]) hx hb dX8_tellsTo_105 hl (k := 2) rfl (iincK j 1) (by decide) rfl (fun ls hl => ?_)
              refine lv_goto (tgt := 69) hx hb dX8_tellsTo_108 (by decide) ?_
              exact ih69 (j + 1) (x4 ||| (nI 0)) (by omega) (by omega) (by rw [mTl, ← e4, mBit, if_pos (Int32.not_le.mp c_3)]) ls (lv_sub hl [0, 1, 3, 4, 5, 6] rfl)
      exact LP69 (mny + 1) 0 ((nI 1) <<< ((nI i) &&& 31)) (by omega) (by omega) (rfl) ls (lv_sub hl [0, 1, 2, 3, 4, 5] rfl)
    refine lv_istore_n (lv' := [(2, .int (nI mny)), (0, .ref o), (1, .int (nI i))]) hx hb dX8_tellsTo_43 rfl hl (by decide) rfl (fun ls hl => ?_)
    refine lv_aload_n hx hb dX8_tellsTo_44 rfl (lv_at hl 1 rfl) ?_
    refine va_get (D := g.1) (cl := vwCl) (ci := 8) (v := .ref (a 1)) (C := RX8) (T := TX8) (N := 29) hx hb hts hX8_tellsTo_X8 hown hK hP 0 rfl rfl 1 (by decide) (hts _ kX8_tellsTo_f7) (fun _ h9 => h9) rfl dX8_tellsTo_45 ?_
    refine lv_iload_n hx hb dX8_tellsTo_48 rfl (lv_at hl 2 rfl) ?_
    refine ald_i (D := g.1) (cl := vwCl) (f := ar 1) (i := i) (n := 8) hx hb hK hP 1 0 rfl rfl (by omega) (by decide) dX8_tellsTo_49 ?_
    refine lv_iconst (v := nI 3) hx hb dX8_tellsTo_50 (by decide) ?_
    refine lv_icmp_ne (tgt := 59) hx hb dX8_tellsTo_51 (by decide) (fun c_4 => ?_) (fun c_4 => ?_)
    · refine lv_iconst (v := nI 1) hx hb dX8_tellsTo_59 (by decide) ?_
      exact JP60 (nI 1) (by simp (decide := true) [mLeast, c_4]) ls (lv_sub hl [1, 2, 0] rfl)
    · refine lv_bipush (v := nI 8) hx hb dX8_tellsTo_54 (by decide) ?_
      refine lv_goto (tgt := 60) hx hb dX8_tellsTo_56 (by decide) ?_
      exact JP60 (nI 8) (by simp (decide := true) [mLeast, c_4]) ls (lv_sub hl [1, 2, 0] rfl)
  refine lv_aload_n hx hb dX8_tellsTo_0 rfl (lv_at hl 0 rfl) ?_
  refine va_get (D := g.1) (cl := vwCl) (ci := 8) (v := .ref (a 1)) (C := RX8) (T := TX8) (N := 29) hx hb hts hX8_tellsTo_X8 hown hK hP 0 rfl rfl 1 (by decide) (hts _ kX8_tellsTo_f7) (fun _ h9 => h9) rfl dX8_tellsTo_1 ?_
  refine lv_iload_n hx hb dX8_tellsTo_4 rfl (lv_at hl 1 rfl) ?_
  refine ald_i (D := g.1) (cl := vwCl) (f := ar 1) (i := i) (n := 8) hx hb hK hP 1 0 rfl rfl (by omega) (by decide) dX8_tellsTo_5 ?_
  refine lv_if_ne (tgt := 13) hx hb dX8_tellsTo_6 (by decide) (fun c_5 => ?_) (fun c_5 => ?_)
  · refine lv_aload_n hx hb dX8_tellsTo_13 rfl (lv_at hl 0 rfl) ?_
    refine va_get (D := g.1) (cl := vwCl) (ci := 8) (v := .ref (a 1)) (C := RX8) (T := TX8) (N := 29) hx hb hts hX8_tellsTo_X8 hown hK hP 0 rfl rfl 1 (by decide) (hts _ kX8_tellsTo_f7) (fun _ h9 => h9) rfl dX8_tellsTo_14 ?_
    refine lv_iload_n hx hb dX8_tellsTo_17 rfl (lv_at hl 1 rfl) ?_
    refine ald_i (D := g.1) (cl := vwCl) (f := ar 1) (i := i) (n := 8) hx hb hK hP 1 0 rfl rfl (by omega) (by decide) dX8_tellsTo_18 ?_
    refine lv_iconst (v := nI 1) hx hb dX8_tellsTo_19 (by decide) ?_
    refine lv_icmp_ne (tgt := 27) hx hb dX8_tellsTo_20 (by decide) (fun c_6 => ?_) (fun c_6 => ?_)
    · refine lv_aload_n hx hb dX8_tellsTo_27 rfl (lv_at hl 0 rfl) ?_
      refine va_get (D := g.1) (cl := vwCl) (ci := 8) (v := .ref (a 1)) (C := RX8) (T := TX8) (N := 29) hx hb hts hX8_tellsTo_X8 hown hK hP 0 rfl rfl 1 (by decide) (hts _ kX8_tellsTo_f7) (fun _ h9 => h9) rfl dX8_tellsTo_28 ?_
      refine lv_iload_n hx hb dX8_tellsTo_31 rfl (lv_at hl 1 rfl) ?_
      refine ald_i (D := g.1) (cl := vwCl) (f := ar 1) (i := i) (n := 8) hx hb hK hP 1 0 rfl rfl (by omega) (by decide) dX8_tellsTo_32 ?_
      refine lv_iconst (v := nI 2) hx hb dX8_tellsTo_33 (by decide) ?_
      refine lv_icmp_ne (tgt := 41) hx hb dX8_tellsTo_34 (by decide) (fun c_7 => ?_) (fun c_7 => ?_)
      · refine lv_bipush (v := nI 8) hx hb dX8_tellsTo_41 (by decide) ?_
        exact JP43 8 (by decide) (by simp (decide := true) [mMany, c_5, c_6, c_7]) ls (lv_sub hl [0, 1] rfl)
      · refine lv_iconst (v := nI 0) hx hb dX8_tellsTo_37 (by decide) ?_
        refine lv_goto (tgt := 43) hx hb dX8_tellsTo_38 (by decide) ?_
        exact JP43 0 (by decide) (by simp (decide := true) [mMany, c_5, c_6, c_7]) ls (lv_sub hl [0, 1] rfl)
    · refine lv_iconst (v := nI 3) hx hb dX8_tellsTo_23 (by decide) ?_
      refine lv_goto (tgt := 43) hx hb dX8_tellsTo_24 (by decide) ?_
      exact JP43 3 (by decide) (by simp (decide := true) [mMany, c_5, c_6]) ls (lv_sub hl [0, 1] rfl)
  · refine lv_iconst (v := nI 2) hx hb dX8_tellsTo_9 (by decide) ?_
    refine lv_goto (tgt := 43) hx hb dX8_tellsTo_10 (by decide) ?_
    exact JP43 2 (by decide) (by simp (decide := true) [mMany, c_5]) ls (lv_sub hl [0, 1] rfl)
theorem kX8_calls_f49 : (Cond.fieldLink RX8 49 "LastCallersWordModel" "now" "[I" : Cond) ∈ wsX8_calls := List.mem_cons_of_mem _ aw_301
theorem hX8_calls_X8 : ∀ w ∈ wsX80, w ∈ wsX8_calls := fun w h => List.mem_cons_of_mem _ (ac_X8 w h)
set_option maxHeartbeats 400000 in
set_option maxRecDepth 100000 in
theorem c_X8_calls (l : Launch) (g : GG) (o : Nat) (a : Nat → Nat) (sc : Nat → Nat) (ar : Nat → Nat → Int32) (i : Nat) (d : Nat) (hP8 : sc 0 ≤ 8) (hi : i < 8) (hd : d < 5) : Met l yX8_calls wsX8_calls ({ frames := 3, cells := 0, slots := 0, locals := 74 } : Room) (wr g [.ref o, .int (nI i), .int (nI d)] (mW g o a sc ar)) (wQv g (mW g o a sc ar) (fun u : Unit => (mW g o a sc (upA ar 28 (mCallW (ar 1) (sc 0) (ar 28) i d)))) (fun u => True)) 0 0 (cA (mW g o a sc ar)) := by
  refine wr_startv (cc := cX8_calls) (maxL := 3) (by decide) rfl (Nat.le_of_ble_eq_true rfl) (fun p e s m args below meth c Q A C hP hD hS hret ls hl => ?_)
  obtain ⟨hx, hb, hml, hr, hown, hts, hlk, hKK⟩ := id C
  have hK := hKK.1
  have hown : s.vm.findClass RX8 = some m.cls := hown
  have ctx : CallFix p m c cX8_calls 3 s args wsX8_calls RX8 := ⟨hx, hb, hml, hown, hts⟩
  have hl : lv_has ls 3 [(0, .ref o), (1, .int (nI i)), (2, .int (nI d))] := hl
  obtain ⟨H, hHe⟩ : ∃ H, H = s.heap := ⟨_, rfl⟩
  obtain ⟨locs, hLe⟩ : ∃ L : List Loc, L = [] := ⟨_, rfl⟩
  have hP : va_P g.1 vwCl (mW g o a sc ar) H := by rw [hHe]; exact hP
  have hS : va_S A s.heap H locs := by rw [hHe, hLe]; exact hS
  suffices hgo : W p l e ({ frames := 3, cells := 0, slots := 0, locals := 74 } : Room) s m args below meth c H locs 0 0 Q (F0 m 0 ls []) by rw [hHe, hLe] at hgo; exact hgo
  clear hHe hLe
  refine lv_aload_n hx hb dX8_calls_0 rfl (lv_at hl 0 rfl) ?_
  refine va_get (D := g.1) (cl := vwCl) (ci := 8) (v := .ref (a 28)) (C := RX8) (T := TX8) (N := 29) hx hb hts hX8_calls_X8 hown hK hP 0 rfl rfl 28 (by decide) (hts _ kX8_calls_f49) (fun _ h9 => h9) rfl dX8_calls_1 ?_
  refine lv_bipush (v := nI 65) hx hb dX8_calls_4 (by decide) ?_
  refine lv_iload_n hx hb dX8_calls_6 rfl (lv_at hl 2 rfl) ?_
  refine lv_iadd hx hb dX8_calls_7 ?_
  refine lv_is (nI_add 65 d) ?_
  refine lv_iload_n hx hb dX8_calls_8 rfl (lv_at hl 1 rfl) ?_
  refine ast_i (D := g.1) (cl := vwCl) (f := ar 28) (i := 65 + d) (n := 115) (x := nI i) hx hb hK hP hD hS 14 0 rfl rfl (by omega) (by decide) dX8_calls_9 (fun H locs hP hD hS => ?_)
  have hP : va_P g.1 vwCl (mW g o a sc (upA ar 28 (upd (ar 28) (65 + d) (nI i)))) H := hP
  have hD : va_D A (mW g o a sc (upA ar 28 (upd (ar 28) (65 + d) (nI i)))) := hD
  refine lv_aload_n hx hb dX8_calls_10 rfl (lv_at hl 0 rfl) ?_
  refine va_get (D := g.1) (cl := vwCl) (ci := 8) (v := .ref (a 28)) (C := RX8) (T := TX8) (N := 29) hx hb hts hX8_calls_X8 hown hK hP 0 rfl rfl 28 (by decide) (hts _ kX8_calls_f49) (fun _ h9 => h9) rfl dX8_calls_11 ?_
  refine lv_bipush (v := nI 70) hx hb dX8_calls_14 (by decide) ?_
  refine lv_iload_n hx hb dX8_calls_16 rfl (lv_at hl 2 rfl) ?_
  refine lv_iadd hx hb dX8_calls_17 ?_
  refine lv_is (nI_add 70 d) ?_
  refine lv_aload_n hx hb dX8_calls_18 rfl (lv_at hl 0 rfl) ?_
  refine lv_iload_n hx hb dX8_calls_19 rfl (lv_at hl 1 rfl) ?_
  refine ro_callV0 (As := [.int (nI i)]) (rest := [.int (nI (70 + d)), .ref (a 28)]) (b := o) ctx hKK hP (c_X8_tellsTo l g o a sc (upA ar 28 (upd (ar 28) (65 + d) (nI i))) i (show (sc 0) ≤ 8 from by omega) (show i < 8 from by omega)) gX8_calls_X8_tellsTo rfl rfl rfl hdX8_tellsTo ⟨Nat.le_of_ble_eq_true rfl, Nat.le_of_ble_eq_true rfl⟩ (ci := 8) (q0 := 0) rfl rfl hl.1 rfl rfl (Nat.le_of_ble_eq_true rfl) dX8_calls_20 (fun r_1 hr_1 => ?_)
  have hr_1 : r_1 = mTell ((ar 1)) ((upd (ar 28) (65 + d) (nI i))) ((sc 0)) i := hr_1
  subst hr_1
  refine ast_i (D := g.1) (cl := vwCl) (f := upd (ar 28) (65 + d) (nI i)) (i := 70 + d) (n := 115) (x := mTell ((ar 1)) ((upd (ar 28) (65 + d) (nI i))) ((sc 0)) i) hx hb hK hP hD hS 14 0 rfl rfl (by omega) (by decide) dX8_calls_23 (fun H locs hP hD hS => ?_)
  have hP : va_P g.1 vwCl (mW g o a sc (upA ar 28 (upd (upd (ar 28) (65 + d) (nI i)) (70 + d) (mTell ((ar 1)) ((upd (ar 28) (65 + d) (nI i))) ((sc 0)) i)))) H := hP
  have hD : va_D A (mW g o a sc (upA ar 28 (upd (upd (ar 28) (65 + d) (nI i)) (70 + d) (mTell ((ar 1)) ((upd (ar 28) (65 + d) (nI i))) ((sc 0)) i)))) := hD
  exact hret () H locs 24 ls (trivial) (hP) (hD) hS dX8_calls_24
theorem kX8_dayAt_f49 : (Cond.fieldLink RX8 49 "LastCallersWordModel" "now" "[I" : Cond) ∈ wsX8_dayAt := List.mem_cons_of_mem _ aw_301
theorem hX8_dayAt_X8 : ∀ w ∈ wsX80, w ∈ wsX8_dayAt := fun w h => List.mem_cons_of_mem _ (ac_X8 w h)
theorem kX8_dayAt_f82 : (Cond.fieldLink RX8 82 "LastCallersWordModel" "persons" "I" : Cond) ∈ wsX8_dayAt := List.mem_cons_of_mem _ aw_324
theorem kX8_dayAt_f7 : (Cond.fieldLink RX8 7 "LastCallersWordModel" "kinds" "[I" : Cond) ∈ wsX8_dayAt := List.mem_cons_of_mem _ aw_288
set_option maxHeartbeats 400000 in
set_option maxRecDepth 100000 in
theorem c_X8_dayAt (l : Launch) (g : GG) (o : Nat) (a : Nat → Nat) (sc : Nat → Nat) (ar : Nat → Nat → Int32) (d : Nat) (hP8 : sc 0 ≤ 8) (hd : d < 5) : Met l yX8_dayAt wsX8_dayAt ({ frames := 2, cells := 0, slots := 0, locals := 48 } : Room) (wr g [.ref o, .int (nI d)] (mW g o a sc ar)) (wQv g (mW g o a sc ar) (fun u : Unit => (mW g o a sc (upA ar 28 (mDayA (ar 1) (sc 0) d (ar 28))))) (fun u => True)) 0 0 (cA (mW g o a sc ar)) := by
  refine wr_startv (cc := cX8_dayAt) (maxL := 6) (by decide) rfl (Nat.le_of_ble_eq_true rfl) (fun p e s m args below meth c Q A C hP hD hS hret ls hl => ?_)
  obtain ⟨hx, hb, hml, hr, hown, hts, hlk, hKK⟩ := id C
  have hK := hKK.1
  have hown : s.vm.findClass RX8 = some m.cls := hown
  have ctx : CallFix p m c cX8_dayAt 6 s args wsX8_dayAt RX8 := ⟨hx, hb, hml, hown, hts⟩
  have hl : lv_has ls 6 [(0, .ref o), (1, .int (nI d))] := hl
  obtain ⟨H, hHe⟩ : ∃ H, H = s.heap := ⟨_, rfl⟩
  obtain ⟨locs, hLe⟩ : ∃ L : List Loc, L = [] := ⟨_, rfl⟩
  have hP : va_P g.1 vwCl (mW g o a sc ar) H := by rw [hHe]; exact hP
  have hS : va_S A s.heap H locs := by rw [hHe, hLe]; exact hS
  suffices hgo : W p l e ({ frames := 2, cells := 0, slots := 0, locals := 48 } : Room) s m args below meth c H locs 0 0 Q (F0 m 0 ls []) by rw [hHe, hLe] at hgo; exact hgo
  clear hHe hLe
  refine lv_aload_n hx hb dX8_dayAt_0 rfl (lv_at hl 0 rfl) ?_
  refine va_get (D := g.1) (cl := vwCl) (ci := 8) (v := .ref (a 28)) (C := RX8) (T := TX8) (N := 29) hx hb hts hX8_dayAt_X8 hown hK hP 0 rfl rfl 28 (by decide) (hts _ kX8_dayAt_f49) (fun _ h9 => h9) rfl dX8_dayAt_1 ?_
  refine lv_bipush (v := nI 70) hx hb dX8_dayAt_4 (by decide) ?_
  refine lv_iload_n hx hb dX8_dayAt_6 rfl (lv_at hl 1 rfl) ?_
  refine lv_iadd hx hb dX8_dayAt_7 ?_
  refine lv_is (nI_add 70 d) ?_
  refine ald_i (D := g.1) (cl := vwCl) (f := ar 28) (i := 70 + d) (n := 115) hx hb hK hP 14 0 rfl rfl (by omega) (by decide) dX8_dayAt_8 ?_
  refine lv_istore_n (lv' := [(2, .int ((ar 28) (70 + d))), (0, .ref o), (1, .int (nI d))]) hx hb dX8_dayAt_9 rfl hl (by decide) rfl (fun ls hl => ?_)
  refine lv_iload_n hx hb dX8_dayAt_10 rfl (lv_at hl 0 rfl) ?_
  refine lv_istore_n (lv' := [(3, .int ((ar 28) (70 + d))), (2, .int ((ar 28) (70 + d))), (0, .ref o), (1, .int (nI d))]) hx hb dX8_dayAt_11 rfl hl (by decide) rfl (fun ls hl => ?_)
  refine lv_iconst (v := nI 0) hx hb dX8_dayAt_12 (by decide) ?_
  refine lv_istore (lv' := [(4, .int (nI 0)), (3, .int ((ar 28) (70 + d))), (2, .int ((ar 28) (70 + d))), (0, .ref o), (1, .int (nI d))]) hx hb dX8_dayAt_13 hl (by decide) rfl (fun ls hl => ?_)
  have LP15 : ∀ (fu : Nat) (j : Nat) (x3 : Int32), sc 0 - j < fu → (j ≤ sc 0) → (x3 = mDayV (ar 1) (ar 28) (sc 0) (ar 28 (70 + d)) j) → ∀ (H : Heap) (locs : List Loc), va_P g.1 vwCl (mW g o a sc ar) H → va_D A (mW g o a sc ar) → va_S A s.heap H locs → ∀ (ls : Array Slot), lv_has ls 6 [(4, .int (nI j)), (3, .int x3), (2, .int ((ar 28) (70 + d))), (0, .ref o), (1, .int (nI d))] → W p l e ({ frames := 2, cells := 0, slots := 0, locals := 48 } : Room) s m args below meth c H locs 0 0 Q (F0 m 15 ls []) := by
    intro fu
    induction fu with
    | zero => intro j x3 hfu; exact absurd hfu (Nat.not_lt_zero _)
    | succ fu ih15 =>
      intro j x3 hfu hj e3 H locs hP hD hS ls hl
      refine lv_iload hx hb dX8_dayAt_15 (lv_at hl 0 rfl) ?_
      refine lv_aload_n hx hb dX8_dayAt_17 rfl (lv_at hl 3 rfl) ?_
      refine va_get (D := g.1) (cl := vwCl) (ci := 8) (v := .int (nI (sc 0))) (C := RX8) (T := TX8) (N := 29) hx hb hts hX8_dayAt_X8 hown hK hP 0 rfl rfl 0 (by decide) (hts _ kX8_dayAt_f82) (fun _ h9 => h9) rfl dX8_dayAt_18 ?_
      refine lv_icmp_ge (tgt := 78) hx hb dX8_dayAt_21 (by decide) (fun c_1 => ?_) (fun c_1 => ?_)
      · replace c_1 : (sc 0) ≤ j := (nI_leI (a := sc 0) (b := j) (by omega) (by omega)).mp c_1
        rw [show j = sc 0 by omega] at e3
        subst e3
        refine lv_aload_n hx hb dX8_dayAt_78 rfl (lv_at hl 3 rfl) ?_
        refine va_get (D := g.1) (cl := vwCl) (ci := 8) (v := .ref (a 28)) (C := RX8) (T := TX8) (N := 29) hx hb hts hX8_dayAt_X8 hown hK hP 0 rfl rfl 28 (by decide) (hts _ kX8_dayAt_f49) (fun _ h9 => h9) rfl dX8_dayAt_79 ?_
        refine lv_bipush (v := nI 70) hx hb dX8_dayAt_82 (by decide) ?_
        refine lv_iload_n hx hb dX8_dayAt_84 rfl (lv_at hl 4 rfl) ?_
        refine lv_iadd hx hb dX8_dayAt_85 ?_
        refine lv_is (nI_add 70 d) ?_
        refine lv_iload_n hx hb dX8_dayAt_86 rfl (lv_at hl 1 rfl) ?_
        refine ast_i (D := g.1) (cl := vwCl) (f := ar 28) (i := 70 + d) (n := 115) (x := (mDayV (ar 1) (ar 28) (sc 0) (ar 28 (70 + d)) (sc 0))) hx hb hK hP hD hS 14 0 rfl rfl (by omega) (by decide) dX8_dayAt_87 (fun H locs hP hD hS => ?_)
        have hP : va_P g.1 vwCl (mW g o a sc (upA ar 28 (upd (ar 28) (70 + d) (mDayV (ar 1) (ar 28) (sc 0) (ar 28 (70 + d)) (sc 0))))) H := hP
        have hD : va_D A (mW g o a sc (upA ar 28 (upd (ar 28) (70 + d) (mDayV (ar 1) (ar 28) (sc 0) (ar 28 (70 + d)) (sc 0))))) := hD
        exact hret () H locs 88 ls (trivial) (hP) (hD) hS dX8_dayAt_88
      · replace c_1 : ¬ (sc 0) ≤ j := fun h => c_1 ((nI_leI (a := sc 0) (b := j) (by omega) (by omega)).mpr h)
        refine lv_aload_n hx hb dX8_dayAt_24 rfl (lv_at hl 3 rfl) ?_
        refine va_get (D := g.1) (cl := vwCl) (ci := 8) (v := .ref (a 1)) (C := RX8) (T := TX8) (N := 29) hx hb hts hX8_dayAt_X8 hown hK hP 0 rfl rfl 1 (by decide) (hts _ kX8_dayAt_f7) (fun _ h9 => h9) rfl dX8_dayAt_25 ?_
        refine lv_iload hx hb dX8_dayAt_28 (lv_at hl 0 rfl) ?_
        refine ald_i (D := g.1) (cl := vwCl) (f := ar 1) (i := j) (n := 8) hx hb hK hP 1 0 rfl rfl (by omega) (by decide) dX8_dayAt_30 ?_
        refine lv_iconst (v := nI 1) hx hb dX8_dayAt_31 (by decide) ?_
        refine lv_icmp_ne (tgt := 72) hx hb dX8_dayAt_32 (by decide) (fun c_2 => ?_) (fun c_2 => ?_)
        · refine lv_iinc (v := nI (j + 1)) (lv' := [(4, .int (nI (j + 1))), (3, .int x3), (2, .int ((ar 28) (70 + d))), (0, .ref o), (1, .int (nI d))]) hx hb dX8_dayAt_72 hl (k := 0) rfl (iincK j 1) (by decide) rfl (fun ls hl => ?_)
          refine lv_goto (tgt := 15) hx hb dX8_dayAt_75 (by decide) ?_
          exact ih15 (j + 1) x3 (by omega) (by omega) (by rw [mDayV, ← e3]; simp [c_1, c_2]) _ _ hP hD hS ls (lv_sub hl [0, 1, 2, 3, 4] rfl)
        · refine lv_iload_n hx hb dX8_dayAt_35 rfl (lv_at hl 2 rfl) ?_
          refine lv_iload hx hb dX8_dayAt_36 (lv_at hl 0 rfl) ?_
          refine ro_callS (As := [.int ((ar 28) (70 + d)), .int (nI j)]) (rest := []) ctx hKK hP (c_X8_has l g ((ar 28) (70 + d)) (nI j)) gX8_dayAt_X8_has rfl rfl rfl hdX8_has ⟨Nat.le_of_ble_eq_true rfl, Nat.le_of_ble_eq_true rfl⟩ [] rfl hl.1 rfl rfl (Nat.le_of_ble_eq_true rfl) dX8_dayAt_38 (fun r_3 hr_3 => ?_)
          subst hr_3
          refine lv_if_eq (tgt := 72) hx hb dX8_dayAt_41 (by decide) (fun c_4 => ?_) (fun c_4 => ?_)
          · replace c_4 := bI_f c_4
            refine lv_iinc (v := nI (j + 1)) (lv' := [(4, .int (nI (j + 1))), (3, .int x3), (2, .int ((ar 28) (70 + d))), (0, .ref o), (1, .int (nI d))]) hx hb dX8_dayAt_72 hl (k := 0) rfl (iincK j 1) (by decide) rfl (fun ls hl => ?_)
            refine lv_goto (tgt := 15) hx hb dX8_dayAt_75 (by decide) ?_
            exact ih15 (j + 1) x3 (by omega) (by omega) (by rw [mDayV, ← e3]; simp [c_1, c_2, c_4]) _ _ hP hD hS ls (lv_sub hl [0, 1, 2, 3, 4] rfl)
          · replace c_4 := bI_t c_4
            refine lv_aload_n hx hb dX8_dayAt_44 rfl (lv_at hl 3 rfl) ?_
            refine lv_iload hx hb dX8_dayAt_45 (lv_at hl 0 rfl) ?_
            refine lv_iload_n hx hb dX8_dayAt_47 rfl (lv_at hl 2 rfl) ?_
            refine lv_iconst (v := (-1)) hx hb dX8_dayAt_48 (by decide) ?_
            refine lv_ixor hx hb dX8_dayAt_49 ?_
            refine lv_iconst (v := nI 1) hx hb dX8_dayAt_50 (by decide) ?_
            refine ro_callV0 (As := [.int (nI j), .int (((ar 28) (70 + d)) ^^^ (-1)), .int (nI 1)]) (rest := []) (b := o) ctx hKK hP (c_X8_dearest l g o a sc ar j (((ar 28) (70 + d)) ^^^ (-1)) (nI 1) (show (sc 0) ≤ 8 from by omega) (show j < 8 from by omega)) gX8_dayAt_X8_dearest rfl rfl rfl hdX8_dearest ⟨Nat.le_of_ble_eq_true rfl, Nat.le_of_ble_eq_true rfl⟩ (ci := 8) (q0 := 0) rfl rfl hl.1 rfl rfl (Nat.le_of_ble_eq_true rfl) dX8_dayAt_51 (fun r_5 hr_5 => ?_)
            have hr_5 : r_5 = mDe ((ar 28)) j (((ar 28) (70 + d)) ^^^ (-1)) (nI 1) ((sc 0)) := hr_5
            subst hr_5
            refine lv_istore (lv' := [(5, .int (mDe ((ar 28)) j (((ar 28) (70 + d)) ^^^ (-1)) (nI 1) ((sc 0)))), (4, .int (nI j)), (3, .int x3), (2, .int ((ar 28) (70 + d))), (0, .ref o), (1, .int (nI d))]) hx hb dX8_dayAt_54 hl (by decide) rfl (fun ls hl => ?_)
            refine lv_iload_n hx hb dX8_dayAt_56 rfl (lv_at hl 2 rfl) ?_
            refine lv_iload hx hb dX8_dayAt_57 (lv_at hl 0 rfl) ?_
            refine lv_if_ge (tgt := 66) hx hb dX8_dayAt_59 (by decide) (fun c_6 => ?_) (fun c_6 => ?_)
            · refine lv_iconst (v := nI 1) hx hb dX8_dayAt_66 (by decide) ?_
              refine lv_iload hx hb dX8_dayAt_67 (lv_at hl 0 rfl) ?_
              refine lv_ishl hx hb dX8_dayAt_69 ?_
              refine lv_ior hx hb dX8_dayAt_70 ?_
              refine lv_istore_n (lv' := [(3, .int (x3 ||| ((nI 1) <<< ((mDe ((ar 28)) j (((ar 28) (70 + d)) ^^^ (-1)) (nI 1) ((sc 0))) &&& 31)))), (5, .int (mDe ((ar 28)) j (((ar 28) (70 + d)) ^^^ (-1)) (nI 1) ((sc 0)))), (4, .int (nI j)), (2, .int ((ar 28) (70 + d))), (0, .ref o), (1, .int (nI d))]) hx hb dX8_dayAt_71 rfl hl (by decide) rfl (fun ls hl => ?_)
              refine lv_iinc (v := nI (j + 1)) (lv' := [(4, .int (nI (j + 1))), (3, .int (x3 ||| ((nI 1) <<< ((mDe ((ar 28)) j (((ar 28) (70 + d)) ^^^ (-1)) (nI 1) ((sc 0))) &&& 31)))), (5, .int (mDe ((ar 28)) j (((ar 28) (70 + d)) ^^^ (-1)) (nI 1) ((sc 0)))), (2, .int ((ar 28) (70 + d))), (0, .ref o), (1, .int (nI d))]) hx hb dX8_dayAt_72 hl (k := 2) rfl (iincK j 1) (by decide) rfl (fun ls hl => ?_)
              refine lv_goto (tgt := 15) hx hb dX8_dayAt_75 (by decide) ?_
              exact ih15 (j + 1) (x3 ||| ((nI 1) <<< ((mDe ((ar 28)) j (((ar 28) (70 + d)) ^^^ (-1)) (nI 1) ((sc 0))) &&& 31))) (by omega) (by omega) (by rw [mDayV, ← e3, if_pos ⟨c_2, c_4⟩, mBit, if_neg (Int32.not_lt.mpr c_6)]) _ _ hP hD hS ls (lv_sub hl [0, 1, 3, 4, 5] rfl)
            · refine lv_iconst (v := nI 0) hx hb dX8_dayAt_62 (by decide) ?_
              refine lv_goto (tgt := 70) hx hb dX8_dayAt_63 (by decide) ?_
              refine lv_ior hx hb dX8_dayAt_70 ?_
              refine lv_istore_n (lv' := [(3, .int (x3 ||| (nI 0))), (5, .int (mDe ((ar 28)) j (((ar 28) (70 + d)) ^^^ (-1)) (nI 1) ((sc 0)))), (4, .int (nI j)), (2, .int ((ar 28) (70 + d))), (0, .ref o), (1, .int (nI d))]) hx hb dX8_dayAt_71 rfl hl (by decide) rfl (fun ls hl => ?_)
              refine lv_iinc (v := nI (j + 1)) (lv' := [(4, .int (nI (j + 1))), (3, .int (x3 ||| (nI 0))), (5, .int (mDe ((ar 28)) j (((ar 28) (70 + d)) ^^^ (-1)) (nI 1) ((sc 0)))), (2, .int ((ar 28) (70 + d))), (0, .ref o), (1, .int (nI d))]) hx hb dX8_dayAt_72 hl (k := 2) rfl (iincK j 1) (by decide) rfl (fun ls hl => ?_)
              refine lv_goto (tgt := 15) hx hb dX8_dayAt_75 (by decide) ?_
              exact ih15 (j + 1) (x3 ||| (nI 0)) (by omega) (by omega) (by rw [mDayV, ← e3, if_pos ⟨c_2, c_4⟩, mBit, if_pos (Int32.not_le.mp c_6)]) _ _ hP hD hS ls (lv_sub hl [0, 1, 3, 4, 5] rfl)
  exact LP15 (sc 0 + 1) 0 ((ar 28) (70 + d)) (by omega) (by omega) (rfl) _ _ hP hD hS ls (lv_sub hl [0, 1, 2, 3, 4] rfl)
theorem kX8_goes_f49 : (Cond.fieldLink RX8 49 "LastCallersWordModel" "now" "[I" : Cond) ∈ wsX8_goes := List.mem_cons_of_mem _ aw_301
theorem hX8_goes_X8 : ∀ w ∈ wsX80, w ∈ wsX8_goes := fun w h => List.mem_cons_of_mem _ (ac_X8 w h)
theorem kX8_goes_f89 : (Cond.fieldLink RX8 89 "LastCallersWordModel" "doors" "I" : Cond) ∈ wsX8_goes := List.mem_cons_of_mem _ aw_325
set_option maxHeartbeats 400000 in
set_option maxRecDepth 100000 in
theorem c_X8_goes (l : Launch) (g : GG) (o : Nat) (a : Nat → Nat) (sc : Nat → Nat) (ar : Nat → Nat → Int32) (hP8 : sc 0 ≤ 8) (hD5 : sc 2 ≤ 5) : Met l yX8_goes wsX8_goes ({ frames := 3, cells := 0, slots := 0, locals := 73 } : Room) (wr g [.ref o] (mW g o a sc ar)) (wQv g (mW g o a sc ar) (fun u : Unit => (mW g o a sc (upA ar 28 (mGoes (ar 1) (sc 0) (sc 2) (ar 28))))) (fun u => True)) 0 0 (cA (mW g o a sc ar)) := by
  refine wr_startv (cc := cX8_goes) (maxL := 2) (by decide) rfl (Nat.le_of_ble_eq_true rfl) (fun p e s m args below meth c Q A C hP hD hS hret ls hl => ?_)
  obtain ⟨hx, hb, hml, hr, hown, hts, hlk, hKK⟩ := id C
  have hK := hKK.1
  have hown : s.vm.findClass RX8 = some m.cls := hown
  have ctx : CallFix p m c cX8_goes 2 s args wsX8_goes RX8 := ⟨hx, hb, hml, hown, hts⟩
  have hl : lv_has ls 2 [(0, .ref o)] := hl
  obtain ⟨H, hHe⟩ : ∃ H, H = s.heap := ⟨_, rfl⟩
  obtain ⟨locs, hLe⟩ : ∃ L : List Loc, L = [] := ⟨_, rfl⟩
  have hP : va_P g.1 vwCl (mW g o a sc ar) H := by rw [hHe]; exact hP
  have hS : va_S A s.heap H locs := by rw [hHe, hLe]; exact hS
  suffices hgo : W p l e ({ frames := 3, cells := 0, slots := 0, locals := 73 } : Room) s m args below meth c H locs 0 0 Q (F0 m 0 ls []) by rw [hHe, hLe] at hgo; exact hgo
  clear hHe hLe
  refine lv_aload_n hx hb dX8_goes_0 rfl (lv_at hl 0 rfl) ?_
  refine va_get (D := g.1) (cl := vwCl) (ci := 8) (v := .ref (a 28)) (C := RX8) (T := TX8) (N := 29) hx hb hts hX8_goes_X8 hown hK hP 0 rfl rfl 28 (by decide) (hts _ kX8_goes_f49) (fun _ h9 => h9) rfl dX8_goes_1 ?_
  refine lv_iconst (v := nI 0) hx hb dX8_goes_4 (by decide) ?_
  refine lv_dup2_11 hx hb dX8_goes_5 rfl rfl ?_
  refine ald_i (D := g.1) (cl := vwCl) (f := ar 28) (i := 0) (n := 115) hx hb hK hP 14 0 rfl rfl (by omega) (by decide) dX8_goes_6 ?_
  refine lv_iconst (v := nI 1) hx hb dX8_goes_7 (by decide) ?_
  refine lv_iadd hx hb dX8_goes_8 ?_
  refine ast_i (D := g.1) (cl := vwCl) (f := ar 28) (i := 0) (n := 115) (x := ((ar 28) 0) + (nI 1)) hx hb hK hP hD hS 14 0 rfl rfl (by omega) (by decide) dX8_goes_9 (fun H locs hP hD hS => ?_)
  have hP : va_P g.1 vwCl (mW g o a sc (upA ar 28 (upd (ar 28) 0 (((ar 28) 0) + (nI 1))))) H := hP
  have hD : va_D A (mW g o a sc (upA ar 28 (upd (ar 28) 0 (((ar 28) 0) + (nI 1))))) := hD
  refine lv_iconst (v := nI 0) hx hb dX8_goes_10 (by decide) ?_
  refine lv_istore_n (lv' := [(1, .int (nI 0)), (0, .ref o)]) hx hb dX8_goes_11 rfl hl (by decide) rfl (fun ls hl => ?_)
  have LP12 : ∀ (fu : Nat) (j : Nat) (f : Nat → Int32), sc 2 - j < fu → (j ≤ sc 2) → (f = mGoL (ar 1) (sc 0) (upd (ar 28) 0 (ar 28 0 + nI 1)) j) → ∀ (H : Heap) (locs : List Loc), va_P g.1 vwCl (mW g o a sc (upA ar 28 f)) H → va_D A (mW g o a sc (upA ar 28 f)) → va_S A s.heap H locs → ∀ (ls : Array Slot), lv_has ls 2 [(1, .int (nI j)), (0, .ref o)] → W p l e ({ frames := 3, cells := 0, slots := 0, locals := 73 } : Room) s m args below meth c H locs 0 0 Q (F0 m 12 ls []) := by
    intro fu
    induction fu with
    | zero => intro j f hfu; exact absurd hfu (Nat.not_lt_zero _)
    | succ fu ih12 =>
      intro j f hfu hj ef H locs hP hD hS ls hl
      refine lv_iload_n hx hb dX8_goes_12 rfl (lv_at hl 0 rfl) ?_
      refine lv_aload_n hx hb dX8_goes_13 rfl (lv_at hl 1 rfl) ?_
      refine va_get (D := g.1) (cl := vwCl) (ci := 8) (v := .int (nI (sc 2))) (C := RX8) (T := TX8) (N := 29) hx hb hts hX8_goes_X8 hown hK hP 0 rfl rfl 2 (by decide) (hts _ kX8_goes_f89) (fun _ h9 => h9) rfl dX8_goes_14 ?_
      refine lv_icmp_ge (tgt := 31) hx hb dX8_goes_17 (by decide) (fun c_1 => ?_) (fun c_1 => ?_)
      · replace c_1 : (sc 2) ≤ j := (nI_leI (a := sc 2) (b := j) (by omega) (by omega)).mp c_1
        refine lv_bipush (v := nI 75) hx hb dX8_goes_31 (by decide) ?_
        refine lv_istore_n (lv' := [(1, .int (nI 75)), (0, .ref o)]) hx hb dX8_goes_33 rfl hl (by decide) rfl (fun ls hl => ?_)
        have LP34 : ∀ (fu : Nat) (k : Nat) (h : Nat → Int32), 115 - k < fu → (75 ≤ k ∧ k ≤ 115) → (h = mZr f (k - 75)) → ∀ (H : Heap) (locs : List Loc), va_P g.1 vwCl (mW g o a sc (upA ar 28 h)) H → va_D A (mW g o a sc (upA ar 28 h)) → va_S A s.heap H locs → ∀ (ls : Array Slot), lv_has ls 2 [(1, .int (nI k)), (0, .ref o)] → W p l e ({ frames := 3, cells := 0, slots := 0, locals := 73 } : Room) s m args below meth c H locs 0 0 Q (F0 m 34 ls []) := by
          intro fu
          induction fu with
          | zero => intro k h hfu; exact absurd hfu (Nat.not_lt_zero _)
          | succ fu ih34 =>
            intro k h hfu hk eh H locs hP hD hS ls hl
            refine lv_iload_n hx hb dX8_goes_34 rfl (lv_at hl 0 rfl) ?_
            refine lv_bipush (v := nI 115) hx hb dX8_goes_35 (by decide) ?_
            refine lv_icmp_ge (tgt := 53) hx hb dX8_goes_37 (by decide) (fun c_2 => ?_) (fun c_2 => ?_)
            · replace c_2 : 115 ≤ k := (nI_leI (a := 115) (b := k) (by omega) (by omega)).mp c_2
              exact hret () H locs 53 ls (trivial) (by rw [show mGoes (ar 1) (sc 0) (sc 2) (ar 28) = h by rw [eh, ef, mGoes, show k - 75 = 40 by omega, show j = sc 2 by omega]]; exact hP) (by rw [show mGoes (ar 1) (sc 0) (sc 2) (ar 28) = h by rw [eh, ef, mGoes, show k - 75 = 40 by omega, show j = sc 2 by omega]]; exact hD) hS dX8_goes_53
            · replace c_2 : ¬ 115 ≤ k := fun h => c_2 ((nI_leI (a := 115) (b := k) (by omega) (by omega)).mpr h)
              refine lv_aload_n hx hb dX8_goes_40 rfl (lv_at hl 1 rfl) ?_
              refine va_get (D := g.1) (cl := vwCl) (ci := 8) (v := .ref (a 28)) (C := RX8) (T := TX8) (N := 29) hx hb hts hX8_goes_X8 hown hK hP 0 rfl rfl 28 (by decide) (hts _ kX8_goes_f49) (fun _ h9 => h9) rfl dX8_goes_41 ?_
              refine lv_iload_n hx hb dX8_goes_44 rfl (lv_at hl 0 rfl) ?_
              refine lv_iconst (v := nI 0) hx hb dX8_goes_45 (by decide) ?_
              refine ast_i (D := g.1) (cl := vwCl) (f := h) (i := k) (n := 115) (x := nI 0) hx hb hK hP hD hS 14 0 rfl rfl (by omega) (by decide) dX8_goes_46 (fun H locs hP hD hS => ?_)
              have hP : va_P g.1 vwCl (mW g o a sc (upA ar 28 (upd h k (nI 0)))) H := hP
              have hD : va_D A (mW g o a sc (upA ar 28 (upd h k (nI 0)))) := hD
              refine lv_iinc (v := nI (k + 1)) (lv' := [(1, .int (nI (k + 1))), (0, .ref o)]) hx hb dX8_goes_47 hl (k := 0) rfl (iincK k 1) (by decide) rfl (fun ls hl => ?_)
              refine lv_goto (tgt := 34) hx hb dX8_goes_50 (by decide) ?_
              exact ih34 (k + 1) (upd h k (nI 0)) (by omega) (by omega) (by rw [show k + 1 - 75 = (k - 75) + 1 by omega, mZr, ← eh, show 75 + (k - 75) = k by omega]) _ _ hP hD hS ls (lv_sub hl [0, 1] rfl)
        exact LP34 116 75 f (by omega) (by omega) (rfl) _ _ hP hD hS ls (lv_sub hl [0, 1] rfl)
      · replace c_1 : ¬ (sc 2) ≤ j := fun h => c_1 ((nI_leI (a := sc 2) (b := j) (by omega) (by omega)).mpr h)
        refine lv_aload_n hx hb dX8_goes_20 rfl (lv_at hl 1 rfl) ?_
        refine lv_iload_n hx hb dX8_goes_21 rfl (lv_at hl 0 rfl) ?_
        refine wr_callVv0 (As := [.int (nI j)]) (rest := []) (b := o) ctx hKK hP hD hS (c_X8_dayAt l g o a sc (upA ar 28 f) j (show (sc 0) ≤ 8 from by omega) (show j < 5 from by omega)) gX8_goes_X8_dayAt rfl rfl rfl hdX8_dayAt ⟨Nat.le_of_ble_eq_true rfl, Nat.le_of_ble_eq_true rfl⟩ (ci := 8) (q0 := 0) rfl rfl hl.1 rfl rfl (Nat.le_of_ble_eq_true rfl) dX8_goes_22 (fun u_4 H locs hr_3 hP hD hS => ?_)
        have hP : va_P g.1 vwCl (mW g o a sc (upA ar 28 (mDayA ((ar 1)) ((sc 0)) j (f)))) H := hP
        have hD : va_D A (mW g o a sc (upA ar 28 (mDayA ((ar 1)) ((sc 0)) j (f)))) := hD
        refine lv_iinc (v := nI (j + 1)) (lv' := [(1, .int (nI (j + 1))), (0, .ref o)]) hx hb dX8_goes_25 hl (k := 0) rfl (iincK j 1) (by decide) rfl (fun ls hl => ?_)
        refine lv_goto (tgt := 12) hx hb dX8_goes_28 (by decide) ?_
        exact ih12 (j + 1) (mDayA ((ar 1)) ((sc 0)) j (f)) (by omega) (by omega) (by rw [mGoL, ← ef]) _ _ hP hD hS ls (lv_sub hl [0, 1] rfl)
  exact LP12 (sc 2 + 1) 0 (upd (ar 28) 0 (((ar 28) 0) + (nI 1))) (by omega) (by omega) (rfl) _ _ hP hD hS ls (lv_sub hl [0, 1] rfl)
theorem kX8_isShutOut_f49 : (Cond.fieldLink RX8 49 "LastCallersWordModel" "now" "[I" : Cond) ∈ wsX8_isShutOut := List.mem_cons_of_mem _ aw_301
theorem hX8_isShutOut_X8 : ∀ w ∈ wsX80, w ∈ wsX8_isShutOut := fun w h => List.mem_cons_of_mem _ (ac_X8 w h)
theorem kX8_isShutOut_f13 : (Cond.fieldLink RX8 13 "LastCallersWordModel" "hosts" "[I" : Cond) ∈ wsX8_isShutOut := List.mem_cons_of_mem _ aw_289
set_option maxHeartbeats 400000 in
set_option maxRecDepth 100000 in
theorem c_X8_isShutOut (l : Launch) (g : GG) (o : Nat) (a : Nat → Nat) (sc : Nat → Nat) (ar : Nat → Nat → Int32) (d : Nat) (hd : d < 5) : Met l yX8_isShutOut wsX8_isShutOut ({ frames := 1, cells := 0, slots := 0, locals := 21 } : Room) (ro g [.ref o, .int (nI d)] (mW g o a sc ar)) (vp_Si (fun rr => rr = bI (mShut (ar 28) (ar 3) d))) 0 0 (fun _ => False) := by
  refine ro_start (cc := cX8_isShutOut) (maxL := 2) (ty := .boolean) (by decide) rfl (Nat.le_of_ble_eq_true rfl) (fun p e s m args below meth c Q C hP hret ls hl => ?_)
  obtain ⟨hx, hb, hml, hr, hown, hts, hlk, hKK⟩ := id C
  have hK := hKK.1
  have hown : s.vm.findClass RX8 = some m.cls := hown
  have ctx : CallFix p m c cX8_isShutOut 2 s args wsX8_isShutOut RX8 := ⟨hx, hb, hml, hown, hts⟩
  have hl : lv_has ls 2 [(0, .ref o), (1, .int (nI d))] := hl
  refine lv_aload_n hx hb dX8_isShutOut_0 rfl (lv_at hl 0 rfl) ?_
  refine va_get (D := g.1) (cl := vwCl) (ci := 8) (v := .ref (a 28)) (C := RX8) (T := TX8) (N := 29) hx hb hts hX8_isShutOut_X8 hown hK hP 0 rfl rfl 28 (by decide) (hts _ kX8_isShutOut_f49) (fun _ h9 => h9) rfl dX8_isShutOut_1 ?_
  refine lv_bipush (v := nI 70) hx hb dX8_isShutOut_4 (by decide) ?_
  refine lv_iload_n hx hb dX8_isShutOut_6 rfl (lv_at hl 1 rfl) ?_
  refine lv_iadd hx hb dX8_isShutOut_7 ?_
  refine lv_is (nI_add 70 d) ?_
  refine ald_i (D := g.1) (cl := vwCl) (f := ar 28) (i := 70 + d) (n := 115) hx hb hK hP 14 0 rfl rfl (by omega) (by decide) dX8_isShutOut_8 ?_
  refine lv_aload_n hx hb dX8_isShutOut_9 rfl (lv_at hl 0 rfl) ?_
  refine va_get (D := g.1) (cl := vwCl) (ci := 8) (v := .ref (a 3)) (C := RX8) (T := TX8) (N := 29) hx hb hts hX8_isShutOut_X8 hown hK hP 0 rfl rfl 3 (by decide) (hts _ kX8_isShutOut_f13) (fun _ h9 => h9) rfl dX8_isShutOut_10 ?_
  refine lv_iload_n hx hb dX8_isShutOut_13 rfl (lv_at hl 1 rfl) ?_
  refine ald_i (D := g.1) (cl := vwCl) (f := ar 3) (i := d) (n := 5) hx hb hK hP 2 0 rfl rfl (by omega) (by decide) dX8_isShutOut_14 ?_
  refine ro_callS (As := [.int ((ar 28) (70 + d)), .int ((ar 3) d)]) (rest := []) ctx hKK hP (c_X8_has l g ((ar 28) (70 + d)) ((ar 3) d)) gX8_isShutOut_X8_has rfl rfl rfl hdX8_has ⟨Nat.le_of_ble_eq_true rfl, Nat.le_of_ble_eq_true rfl⟩ [] rfl hl.1 rfl rfl (Nat.le_of_ble_eq_true rfl) dX8_isShutOut_15 (fun r_1 hr_1 => ?_)
  subst hr_1
  refine lv_if_ne (tgt := 25) hx hb dX8_isShutOut_18 (by decide) (fun c_2 => ?_) (fun c_2 => ?_)
  · replace c_2 := bI_t c_2
    refine lv_iconst (v := nI 0) hx hb dX8_isShutOut_25 (by decide) ?_
    exact hret (nI 0) 26 ls (by simp [mShut, bI, c_2]) (rfl) dX8_isShutOut_26
  · replace c_2 := bI_f c_2
    refine lv_iconst (v := nI 1) hx hb dX8_isShutOut_21 (by decide) ?_
    refine lv_goto (tgt := 26) hx hb dX8_isShutOut_22 (by decide) ?_
    exact hret (nI 1) 26 ls (by simp [mShut, bI, c_2]) (rfl) dX8_isShutOut_26
theorem kX8_shutOutNow_f89 : (Cond.fieldLink RX8 89 "LastCallersWordModel" "doors" "I" : Cond) ∈ wsX8_shutOutNow := List.mem_cons_of_mem _ aw_325
theorem hX8_shutOutNow_X8 : ∀ w ∈ wsX80, w ∈ wsX8_shutOutNow := fun w h => List.mem_cons_of_mem _ (ac_X8 w h)
set_option maxHeartbeats 400000 in
set_option maxRecDepth 100000 in
theorem c_X8_shutOutNow (l : Launch) (g : GG) (o : Nat) (a : Nat → Nat) (sc : Nat → Nat) (ar : Nat → Nat → Int32) (hD5 : sc 2 ≤ 5) : Met l yX8_shutOutNow wsX8_shutOutNow ({ frames := 2, cells := 0, slots := 0, locals := 42 } : Room) (ro g [.ref o] (mW g o a sc ar)) (vp_Si (fun rr => rr = mSo (ar 28) (ar 3) (sc 2))) 0 0 (fun _ => False) := by
  refine ro_start (cc := cX8_shutOutNow) (maxL := 3) (ty := .int) (by decide) rfl (Nat.le_of_ble_eq_true rfl) (fun p e s m args below meth c Q C hP hret ls hl => ?_)
  obtain ⟨hx, hb, hml, hr, hown, hts, hlk, hKK⟩ := id C
  have hK := hKK.1
  have hown : s.vm.findClass RX8 = some m.cls := hown
  have ctx : CallFix p m c cX8_shutOutNow 3 s args wsX8_shutOutNow RX8 := ⟨hx, hb, hml, hown, hts⟩
  have hl : lv_has ls 3 [(0, .ref o)] := hl
  refine lv_iconst (v := nI 0) hx hb dX8_shutOutNow_0 (by decide) ?_
  refine lv_istore_n (lv' := [(1, .int (nI 0)), (0, .ref o)]) hx hb dX8_shutOutNow_1 rfl hl (by decide) rfl (fun ls hl => ?_)
  refine lv_iconst (v := nI 0) hx hb dX8_shutOutNow_2 (by decide) ?_
  refine lv_istore_n (lv' := [(2, .int (nI 0)), (1, .int (nI 0)), (0, .ref o)]) hx hb dX8_shutOutNow_3 rfl hl (by decide) rfl (fun ls hl => ?_)
  have LP4 : ∀ (fu : Nat) (j : Nat) (x1 : Int32), sc 2 - j < fu → (j ≤ sc 2) → (x1 = mSo (ar 28) (ar 3) j) → ∀ (ls : Array Slot), lv_has ls 3 [(2, .int (nI j)), (1, .int x1), (0, .ref o)] → W p l e ({ frames := 2, cells := 0, slots := 0, locals := 42 } : Room) s m args below meth c s.heap [] 0 0 Q (F0 m 4 ls []) := by
    intro fu
    induction fu with
    | zero => intro j x1 hfu; exact absurd hfu (Nat.not_lt_zero _)
    | succ fu ih4 =>
      intro j x1 hfu hj e1 ls hl
      refine lv_iload_n hx hb dX8_shutOutNow_4 rfl (lv_at hl 0 rfl) ?_
      refine lv_aload_n hx hb dX8_shutOutNow_5 rfl (lv_at hl 2 rfl) ?_
      refine va_get (D := g.1) (cl := vwCl) (ci := 8) (v := .int (nI (sc 2))) (C := RX8) (T := TX8) (N := 29) hx hb hts hX8_shutOutNow_X8 hown hK hP 0 rfl rfl 2 (by decide) (hts _ kX8_shutOutNow_f89) (fun _ h9 => h9) rfl dX8_shutOutNow_6 ?_
      refine lv_icmp_ge (tgt := 36) hx hb dX8_shutOutNow_9 (by decide) (fun c_1 => ?_) (fun c_1 => ?_)
      · replace c_1 : (sc 2) ≤ j := (nI_leI (a := sc 2) (b := j) (by omega) (by omega)).mp c_1
        refine lv_iload_n hx hb dX8_shutOutNow_36 rfl (lv_at hl 1 rfl) ?_
        exact hret x1 37 ls (by rw [e1, show j = sc 2 by omega]) (rfl) dX8_shutOutNow_37
      · replace c_1 : ¬ (sc 2) ≤ j := fun h => c_1 ((nI_leI (a := sc 2) (b := j) (by omega) (by omega)).mpr h)
        refine lv_iload_n hx hb dX8_shutOutNow_12 rfl (lv_at hl 1 rfl) ?_
        refine lv_aload_n hx hb dX8_shutOutNow_13 rfl (lv_at hl 2 rfl) ?_
        refine lv_iload_n hx hb dX8_shutOutNow_14 rfl (lv_at hl 0 rfl) ?_
        refine ro_callV0 (As := [.int (nI j)]) (rest := [.int x1]) (b := o) ctx hKK hP (c_X8_isShutOut l g o a sc ar j (show j < 5 from by omega)) gX8_shutOutNow_X8_isShutOut rfl rfl rfl hdX8_isShutOut ⟨Nat.le_of_ble_eq_true rfl, Nat.le_of_ble_eq_true rfl⟩ (ci := 8) (q0 := 0) rfl rfl hl.1 rfl rfl (Nat.le_of_ble_eq_true rfl) dX8_shutOutNow_15 (fun r_2 hr_2 => ?_)
        have hr_2 : r_2 = bI (mShut ((ar 28)) ((ar 3)) j) := hr_2
        subst hr_2
        refine lv_if_eq (tgt := 27) hx hb dX8_shutOutNow_18 (by decide) (fun c_3 => ?_) (fun c_3 => ?_)
        · replace c_3 := bI_f c_3
          refine lv_iconst (v := nI 0) hx hb dX8_shutOutNow_27 (by decide) ?_
          refine lv_ior hx hb dX8_shutOutNow_28 ?_
          refine lv_istore_n (lv' := [(1, .int (x1 ||| (nI 0))), (2, .int (nI j)), (0, .ref o)]) hx hb dX8_shutOutNow_29 rfl hl (by decide) rfl (fun ls hl => ?_)
          refine lv_iinc (v := nI (j + 1)) (lv' := [(2, .int (nI (j + 1))), (1, .int (x1 ||| (nI 0))), (0, .ref o)]) hx hb dX8_shutOutNow_30 hl (k := 1) rfl (iincK j 1) (by decide) rfl (fun ls hl => ?_)
          refine lv_goto (tgt := 4) hx hb dX8_shutOutNow_33 (by decide) ?_
          exact ih4 (j + 1) (x1 ||| (nI 0)) (by omega) (by omega) (by rw [mSo, ← e1]; simp [c_1, c_3]) ls (lv_sub hl [0, 1, 2] rfl)
        · replace c_3 := bI_t c_3
          refine lv_iconst (v := nI 1) hx hb dX8_shutOutNow_21 (by decide) ?_
          refine lv_iload_n hx hb dX8_shutOutNow_22 rfl (lv_at hl 0 rfl) ?_
          refine lv_ishl hx hb dX8_shutOutNow_23 ?_
          refine lv_goto (tgt := 28) hx hb dX8_shutOutNow_24 (by decide) ?_
          refine lv_ior hx hb dX8_shutOutNow_28 ?_
          refine lv_istore_n (lv' := [(1, .int (x1 ||| ((nI 1) <<< ((nI j) &&& 31)))), (2, .int (nI j)), (0, .ref o)]) hx hb dX8_shutOutNow_29 rfl hl (by decide) rfl (fun ls hl => ?_)
          refine lv_iinc (v := nI (j + 1)) (lv' := [(2, .int (nI (j + 1))), (1, .int (x1 ||| ((nI 1) <<< ((nI j) &&& 31)))), (0, .ref o)]) hx hb dX8_shutOutNow_30 hl (k := 1) rfl (iincK j 1) (by decide) rfl (fun ls hl => ?_)
          refine lv_goto (tgt := 4) hx hb dX8_shutOutNow_33 (by decide) ?_
          exact ih4 (j + 1) (x1 ||| ((nI 1) <<< ((nI j) &&& 31))) (by omega) (by omega) (by rw [mSo, ← e1]; simp [c_1, c_3]) ls (lv_sub hl [0, 1, 2] rfl)
  exact LP4 (sc 2 + 1) 0 (nI 0) (by omega) (by omega) (rfl) ls (lv_sub hl [0, 1, 2] rfl)
theorem kX8_asItIs_f49 : (Cond.fieldLink RX8 49 "LastCallersWordModel" "now" "[I" : Cond) ∈ wsX8_asItIs := List.mem_cons_of_mem _ aw_301
theorem hX8_asItIs_X8 : ∀ w ∈ wsX80, w ∈ wsX8_asItIs := fun w h => List.mem_cons_of_mem _ (ac_X8 w h)
theorem kX8_asItIs_f19 : (Cond.fieldLink RX8 19 "LastCallersWordModel" "st" "[I" : Cond) ∈ wsX8_asItIs := List.mem_cons_of_mem _ aw_291
set_option maxHeartbeats 400000 in
set_option maxRecDepth 100000 in
theorem c_X8_asItIs (l : Launch) (g : GG) (o : Nat) (a : Nat → Nat) (sc : Nat → Nat) (ar : Nat → Nat → Int32) : Met l yX8_asItIs wsX8_asItIs ({ frames := 1, cells := 0, slots := 0, locals := 25 } : Room) (wr g [.ref o] (mW g o a sc ar)) (wQv g (mW g o a sc ar) (fun u : Unit => (mW g o a sc (upA ar 28 (ar 7)))) (fun u => True)) 0 0 (cA (mW g o a sc ar)) := by
  refine wr_startv (cc := cX8_asItIs) (maxL := 1) (by decide) rfl (Nat.le_of_ble_eq_true rfl) (fun p e s m args below meth c Q A C hP hD hS hret ls hl => ?_)
  obtain ⟨hx, hb, hml, hr, hown, hts, hlk, hKK⟩ := id C
  have hK := hKK.1
  have hown : s.vm.findClass RX8 = some m.cls := hown
  have ctx : CallFix p m c cX8_asItIs 1 s args wsX8_asItIs RX8 := ⟨hx, hb, hml, hown, hts⟩
  have hl : lv_has ls 1 [(0, .ref o)] := hl
  obtain ⟨H, hHe⟩ : ∃ H, H = s.heap := ⟨_, rfl⟩
  obtain ⟨locs, hLe⟩ : ∃ L : List Loc, L = [] := ⟨_, rfl⟩
  have hP : va_P g.1 vwCl (mW g o a sc ar) H := by rw [hHe]; exact hP
  have hS : va_S A s.heap H locs := by rw [hHe, hLe]; exact hS
  suffices hgo : W p l e ({ frames := 1, cells := 0, slots := 0, locals := 25 } : Room) s m args below meth c H locs 0 0 Q (F0 m 0 ls []) by rw [hHe, hLe] at hgo; exact hgo
  clear hHe hLe
  refine lv_aload_n hx hb dX8_asItIs_0 rfl (lv_at hl 0 rfl) ?_
  refine va_get (D := g.1) (cl := vwCl) (ci := 8) (v := .ref (a 28)) (C := RX8) (T := TX8) (N := 29) hx hb hts hX8_asItIs_X8 hown hK hP 0 rfl rfl 28 (by decide) (hts _ kX8_asItIs_f49) (fun _ h9 => h9) rfl dX8_asItIs_1 ?_
  refine lv_iconst (v := nI 0) hx hb dX8_asItIs_4 (by decide) ?_
  refine lv_aload_n hx hb dX8_asItIs_5 rfl (lv_at hl 0 rfl) ?_
  refine va_get (D := g.1) (cl := vwCl) (ci := 8) (v := .ref (a 7)) (C := RX8) (T := TX8) (N := 29) hx hb hts hX8_asItIs_X8 hown hK hP 0 rfl rfl 7 (by decide) (hts _ kX8_asItIs_f19) (fun _ h9 => h9) rfl dX8_asItIs_6 ?_
  refine lv_iconst (v := nI 0) hx hb dX8_asItIs_9 (by decide) ?_
  refine lv_bipush (v := nI 115) hx hb dX8_asItIs_10 (by decide) ?_
  refine wr_callSv (As := [.ref (a 28), .int (nI 0), .ref (a 7), .int (nI 0), .int (nI 115)]) (rest := []) ctx hKK hP hD hS (c_X8_copies_115_115_115w l g (a 28) (a 7) (ar 28) (ar 7)) gX8_asItIs_X8_copies rfl rfl rfl hdX8_copies ⟨Nat.le_of_ble_eq_true rfl, Nat.le_of_ble_eq_true rfl⟩ [14, 4] rfl rfl (fun _ _ => rfl) hl.1 rfl rfl (Nat.le_of_ble_eq_true rfl) dX8_asItIs_12 (fun u_2 H locs hr_1 hP hD hS => ?_)
  have hP : va_P g.1 vwCl (mW g o a sc (upA (upA ar 28 (ar 7)) 7 (ar 7))) H := hP
  have hD : va_D A (mW g o a sc (upA (upA ar 28 (ar 7)) 7 (ar 7))) := hD
  exact hret () H locs 15 ls (trivial) (hP) (hD) hS dX8_asItIs_15
