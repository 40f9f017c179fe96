
abbrev DV : Type := (Nat → Nat → Int32) × (Nat → Nat)
def isDg (ch : Int32) : Bool := decide (¬ ch < nI 48 ∧ ch ≤ nI 57)
def fgV (tx : Nat → Int32) (n pl : Nat) : Int32 := if isDg (sgn tx n pl) = true then sgn tx n pl - nI 48 else (-1)
def fgP (tx : Nat → Int32) (n pl : Nat) : Nat := if isDg (sgn tx n pl) = true then pl + 1 else pl
def nuV (tx : Nat → Int32) (n pl : Nat) : Int32 := if 0 ≤ fgV tx n pl then (if 0 ≤ fgV tx n (fgP tx n pl) then nI 10 * fgV tx n pl + fgV tx n (fgP tx n pl) else fgV tx n pl) else fgV tx n pl
def nuP (tx : Nat → Int32) (n pl : Nat) : Nat := if 0 ≤ fgV tx n pl then fgP tx n (fgP tx n pl) else fgP tx n pl
def tkB (tx : Nat → Int32) (n pl : Nat) (ch : Int32) : Bool := decide (sgn tx n pl = ch)
def inPb (P : Nat) (x : Int32) : Bool := decide (¬ x < 0 ∧ ¬ nI P ≤ x)
def rdN (tx : Nat → Int32) (n oc pl : Nat) (D : DV) : Option (Nat × DV) := if oc = 0 ∨ nuV tx n pl < nI 2 ∨ ¬ nuV tx n pl ≤ nI 8 then none else some (nuP tx n pl, D.1, updN D.2 0 (nuV tx n pl).toNatClampNeg)
def rdW (tx : Nat → Int32) (n pl : Nat) (D : DV) : Option (Nat × DV) := if 6 ≤ D.2 3 ∨ nuV tx n pl < nI 1 ∨ ¬ nuV tx n pl ≤ nI 60 then none else some (nuP tx n pl, upA D.1 4 (upd (D.1 4) (D.2 3) (nuV tx n pl)), updN D.2 3 (D.2 3 + 1))
def rdB (tx : Nat → Int32) (n pl : Nat) (D : DV) : Option (Nat × DV) := if nuV tx n pl < nI 1 ∨ ¬ nuV tx n pl ≤ nI 9 then none else some (nuP tx n pl, D.1, updN D.2 4 (nuV tx n pl).toNatClampNeg)
def rdD (tx : Nat → Int32) (n pl : Nat) (D : DV) : Option (Nat × DV) :=
  if tkB tx n (nuP tx n pl) (nI 44) = false then none
  else if 5 ≤ D.2 2 ∨ inPb (D.2 0) (nuV tx n pl) = false ∨ inPb (D.2 0) (nuV tx n (nuP tx n pl + 1)) = false then none
  else some (nuP tx n (nuP tx n pl + 1), upA (upA D.1 2 (upd (D.1 2) (D.2 2) (nuV tx n pl))) 3 (upd (D.1 3) (D.2 2) (nuV tx n (nuP tx n pl + 1))), updN D.2 2 (D.2 2 + 1))
def rpL (tx : Nat → Int32) (n i pl : Nat) (lk : Nat → Int32) : Nat → Option (Nat × (Nat → Int32))
  | 0 => some (pl, lk)
  | j + 1 => match rpL tx n i pl lk j with
    | none => none
    | some q => if 0 ≤ fgV tx n q.1 then some (fgP tx n q.1, upd q.2 (i * 8 + j) (fgV tx n q.1)) else none
theorem rpL_none {tx : Nat → Int32} {n i pl : Nat} {lk : Nat → Int32} {j : Nat} (h : rpL tx n i pl lk j = none) : ∀ k, rpL tx n i pl lk (j + k) = none
  | 0 => h
  | k + 1 => by rw [← Nat.add_assoc, rpL, rpL_none h k]
def rdP (tx : Nat → Int32) (n pl : Nat) (D : DV) : Option (Nat × DV) :=
  if D.2 0 ≤ D.2 1 ∨ fgV tx n pl < 0 ∨ ¬ fgV tx n pl ≤ nI 3 then none
  else match rpL tx n (D.2 1) (fgP tx n pl) (D.1 1) (D.2 0) with
    | none => none
    | some q => some (q.1, upA (upA D.1 0 (upd (D.1 0) (D.2 1) (fgV tx n pl))) 1 q.2, updN D.2 1 (D.2 1 + 1))
def rdY (tx : Nat → Int32) (n oc pl : Nat) (D : DV) (ch : Int32) : Option (Nat × DV) :=
  if ch = nI 98 then rdB tx n pl D else if ch = nI 100 then rdD tx n pl D else if ch = nI 110 then rdN tx n oc pl D else if ch = nI 112 then rdP tx n pl D else if ch = nI 119 then rdW tx n pl D else none
def ocY (oc : Nat) (ch : Int32) : Nat := if ch = nI 110 then oc else 0
def ff (tx : Nat → Int32) (n : Nat) : Nat → Nat → Nat → DV → Int32 × DV
  | 0, _, _, D => (-4, D)
  | f + 1, pl, oc, D => if n ≤ pl then (-4, D) else match rdY tx n oc (pl + 1) D (sgn tx n pl) with
    | none => (nI pl, D)
    | some q => if tkB tx n q.1 (nI 59) = true then ff tx n f (q.1 + 1) (ocY oc (sgn tx n pl)) q.2 else (nI pl, D)
def OKD (n : Nat) (v : Nat × DV) : Prop := v.1 ≤ n ∧ v.2.2 0 ≤ 8 ∧ v.2.2 1 ≤ 8 ∧ v.2.2 2 ≤ 5 ∧ v.2.2 3 ≤ 6
def RR (ok : Bool) (v : Nat × DV) (o : Option (Nat × DV)) : Prop := o = if ok = true then some v else none
theorem sgn_lt {tx : Nat → Int32} {n pl : Nat} (h : ¬ sgn tx n pl = nI 0) : pl < n := by
  rcases Nat.lt_or_ge pl n with q | q
  · exact q
  · exact absurd (by rw [sgn, if_neg (by omega)]) h
theorem fgP_le {tx : Nat → Int32} {n pl : Nat} (h : pl ≤ n) : fgP tx n pl ≤ n := by
  rw [fgP]
  split
  · rename_i c
    have : pl < n := sgn_lt (fun h0 => by rw [h0] at c; exact absurd c (by decide))
    omega
  · exact h
theorem nuP_le {tx : Nat → Int32} {n pl : Nat} (h : pl ≤ n) : nuP tx n pl ≤ n := by
  rw [nuP]
  split
  · exact fgP_le (fgP_le h)
  · exact fgP_le h
theorem tkB_lt {tx : Nat → Int32} {n pl : Nat} {ch : Int32} (h : tkB tx n pl ch = true) (h0 : ¬ ch = nI 0) : pl < n := by
  have : sgn tx n pl = ch := by simpa [tkB] using h
  exact sgn_lt (by rw [this]; exact h0)
theorem clamp_le {x : Int32} {n : Nat} (h0 : ¬ x < 0) (hn : n < 2 ^ 31) (h : x ≤ nI n) : x.toNatClampNeg ≤ n := by
  obtain ⟨j, hj, rfl⟩ := nI_of h0
  rw [nI_clamp hj]
  exact (nI_leI hj hn).mp h
theorem pos_of_lt {x : Int32} {k : Nat} (hk : k < 2 ^ 31) (h : ¬ x < nI k) : ¬ x < 0 := fun h0 => h (Int32.lt_of_lt_of_le h0 (nI_pos' hk))
theorem kX2_figure_f19 : (Cond.fieldLink RX2 19 "LastCallersWord$Reader" "letters" "LLastCallersWord$Letters;" : Cond) ∈ wsX2_figure := List.mem_cons_of_mem _ aw_66
theorem hX2_figure_X2 : ∀ w ∈ wsX20, w ∈ wsX2_figure := fun w h => List.mem_cons_of_mem _ (ac_X2 w h)
theorem kX2_figure_f9 : (Cond.fieldLink RX2 9 "LastCallersWord$Reader" "place" "I" : Cond) ∈ wsX2_figure := List.mem_cons_of_mem _ aw_64
set_option maxHeartbeats 4000000 in
set_option maxRecDepth 100000 in
theorem c_X2_figure (l : Launch) (g : GG) (rd : Nat) (p_ : Nat) (pl : Nat) (oc : Nat) (lt : Nat) (sg : Nat) (len : Nat) (tx : Nat → Int32) (hlen : len ≤ 200) (hsg : ∀ k, narrow .char (.int (tx k)) = .int (tx k)) (hpl : pl ≤ len) : Met l yX2_figure wsX2_figure ({ frames := 1, cells := 0, slots := 0, locals := 21 } : Room) (wr g [.ref rd] [(rd, .inr (2, [.ref lt, .ref p_, .int (nI pl), .int (nI oc)])), (lt, .inr (0, [.ref sg, .int (nI len)])), (sg, .inl (g.2.2.1, 200, .inl tx))]) (wQi g [(rd, .inr (2, [.ref lt, .ref p_, .int (nI pl), .int (nI oc)])), (lt, .inr (0, [.ref sg, .int (nI len)])), (sg, .inl (g.2.2.1, 200, .inl tx))] (fun u : Unit => [(rd, .inr (2, [.ref lt, .ref p_, .int (nI (fgP tx len pl)), .int (nI oc)])), (lt, .inr (0, [.ref sg, .int (nI len)])), (sg, .inl (g.2.2.1, 200, .inl tx))]) (fun rr u => rr = fgV tx len pl)) 0 0 (cA [(rd, .inr (2, [.ref lt, .ref p_, .int (nI pl), .int (nI oc)])), (lt, .inr (0, [.ref sg, .int (nI len)])), (sg, .inl (g.2.2.1, 200, .inl tx))]) := by
  refine wr_starti (cc := cX2_figure) (maxL := 2) (ty := .int) (by decide) rfl (Nat.le_of_ble_eq_true rfl) (fun p e s m args below meth c Q A C hP hD hS hret ls hl => ?_)
  obtain ⟨hx, hb, hml, hr, hown, hts, hlk, hKK⟩ := id C
  have hK := hKK.1
  have hown : s.vm.findClass RX2 = some m.cls := hown
  have ctx : CallFix p m c cX2_figure 2 s args wsX2_figure RX2 := ⟨hx, hb, hml, hown, hts⟩
  have hl : lv_has ls 2 [(0, .ref rd)] := hl
  obtain ⟨H, hHe⟩ : ∃ H, H = s.heap := ⟨_, rfl⟩
  obtain ⟨locs, hLe⟩ : ∃ L : List Loc, L = [] := ⟨_, rfl⟩
  have hP : va_P g.1 vwCl [(rd, .inr (2, [.ref lt, .ref p_, .int (nI pl), .int (nI oc)])), (lt, .inr (0, [.ref sg, .int (nI len)])), (sg, .inl (g.2.2.1, 200, .inl tx))] H := by rw [hHe]; exact hP
  have hS : va_S A s.heap H locs := by rw [hHe, hLe]; exact hS
  suffices hgo : W p l e ({ frames := 1, cells := 0, slots := 0, locals := 21 } : Room) s m args below meth c H locs 0 0 Q (F0 m 0 ls []) by rw [hHe, hLe] at hgo; exact hgo
  clear hHe hLe
  refine lv_aload_n hx hb dX2_figure_0 rfl (lv_at hl 0 rfl) ?_
  refine va_get (D := g.1) (cl := vwCl) (ci := 2) (v := .ref lt) (C := RX2) (T := TX2) (N := 4) hx hb hts hX2_figure_X2 hown hK hP 0 rfl rfl 0 (by decide) (hts _ kX2_figure_f19) (fun _ h9 => h9) rfl dX2_figure_1 ?_
  refine lv_aload_n hx hb dX2_figure_4 rfl (lv_at hl 0 rfl) ?_
  refine va_get (D := g.1) (cl := vwCl) (ci := 2) (v := .int (nI pl)) (C := RX2) (T := TX2) (N := 4) hx hb hts hX2_figure_X2 hown hK hP 0 rfl rfl 2 (by decide) (hts _ kX2_figure_f9) (fun _ h9 => h9) rfl dX2_figure_5 ?_
  refine ro_callV (As := [.int (nI pl)]) (rest := []) (b := lt) ctx hKK hP (c_X0_signAt l g lt sg len tx pl (by omega) (by omega) (hsg)) gX2_figure_X0_signAt rfl rfl rfl hdX0_signAt ⟨Nat.le_of_ble_eq_true rfl, Nat.le_of_ble_eq_true rfl⟩ [1, 2] rfl (ci := 0) (q0 := 0) rfl rfl hl.1 rfl rfl (Nat.le_of_ble_eq_true rfl) dX2_figure_8 (fun r_1 hr_1 => ?_)
  subst hr_1
  refine lv_istore_n (lv' := [(1, .int (sgn tx len pl)), (0, .ref rd)]) hx hb dX2_figure_11 rfl hl (by decide) rfl (fun ls hl => ?_)
  refine lv_iload_n hx hb dX2_figure_12 rfl (lv_at hl 0 rfl) ?_
  refine lv_bipush (v := nI 48) hx hb dX2_figure_13 (by decide) ?_
  refine lv_icmp_lt (tgt := 24) hx hb dX2_figure_15 (by decide) (fun c_2 => ?_) (fun c_2 => ?_)
  · refine lv_iconst (v := (-1)) hx hb dX2_figure_24 (by decide) ?_
    exact hret (-1) () H locs 25 ls (by simp [fgV, isDg, c_2]) (by rw [show fgP tx len pl = pl by simp [fgP, isDg, c_2]]; exact hP) (by rw [show fgP tx len pl = pl by simp [fgP, isDg, c_2]]; exact hD) hS (rfl) dX2_figure_25
  · refine lv_iload_n hx hb dX2_figure_18 rfl (lv_at hl 0 rfl) ?_
    refine lv_bipush (v := nI 57) hx hb dX2_figure_19 (by decide) ?_
    refine lv_icmp_le (tgt := 26) hx hb dX2_figure_21 (by decide) (fun c_3 => ?_) (fun c_3 => ?_)
    · refine lv_aload_n hx hb dX2_figure_26 rfl (lv_at hl 1 rfl) ?_
      refine lv_dup hx hb dX2_figure_27 rfl ?_
      refine va_get (D := g.1) (cl := vwCl) (ci := 2) (v := .int (nI pl)) (C := RX2) (T := TX2) (N := 4) hx hb hts hX2_figure_X2 hown hK hP 0 rfl rfl 2 (by decide) (hts _ kX2_figure_f9) (fun _ h9 => h9) rfl dX2_figure_28 ?_
      refine lv_iconst (v := nI 1) hx hb dX2_figure_31 (by decide) ?_
      refine lv_iadd hx hb dX2_figure_32 ?_
      refine lv_is (nI_add pl 1) ?_
      refine va_put (D := g.1) (cl := vwCl) (ci := 2) (v := .int (nI (pl + 1))) (ty := .int) (C := RX2) (T := TX2) (N := 4) hx hb hts hX2_figure_X2 tyX2 tyX2_ok nmX2 hown hK hP hD hS 0 rfl rfl 2 (by decide) (hts _ kX2_figure_f9) (fun _ h9 => h9) rfl (by decide +kernel) (rfl) (rfl) (Nat.le_of_ble_eq_true rfl) dX2_figure_33 (fun H locs hP hD hS => ?_)
      have hP : va_P g.1 vwCl [(rd, .inr (2, [.ref lt, .ref p_, .int (nI (pl + 1)), .int (nI oc)])), (lt, .inr (0, [.ref sg, .int (nI len)])), (sg, .inl (g.2.2.1, 200, .inl tx))] H := hP
      have hD : va_D A [(rd, .inr (2, [.ref lt, .ref p_, .int (nI (pl + 1)), .int (nI oc)])), (lt, .inr (0, [.ref sg, .int (nI len)])), (sg, .inl (g.2.2.1, 200, .inl tx))] := hD
      refine lv_iload_n hx hb dX2_figure_36 rfl (lv_at hl 0 rfl) ?_
      refine lv_bipush (v := nI 48) hx hb dX2_figure_37 (by decide) ?_
      refine lv_isub hx hb dX2_figure_39 ?_
      exact hret ((sgn tx len pl) - (nI 48)) () H locs 40 ls (by simp [fgV, isDg, c_2, c_3]) (by rw [show fgP tx len pl = pl + 1 by simp [fgP, isDg, c_2, c_3]]; exact hP) (by rw [show fgP tx len pl = pl + 1 by simp [fgP, isDg, c_2, c_3]]; exact hD) hS (rfl) dX2_figure_40
    · refine lv_iconst (v := (-1)) hx hb dX2_figure_24 (by decide) ?_
      exact hret (-1) () H locs 25 ls (by simp [fgV, isDg, c_2, c_3]) (by rw [show fgP tx len pl = pl by simp [fgP, isDg, c_2, c_3]]; exact hP) (by rw [show fgP tx len pl = pl by simp [fgP, isDg, c_2, c_3]]; exact hD) hS (rfl) dX2_figure_25
set_option maxHeartbeats 4000000 in
set_option maxRecDepth 100000 in
theorem c_X2_number (l : Launch) (g : GG) (rd : Nat) (p_ : Nat) (pl : Nat) (oc : Nat) (lt : Nat) (sg : Nat) (len : Nat) (tx : Nat → Int32) (hlen : len ≤ 200) (hsg : ∀ k, narrow .char (.int (tx k)) = .int (tx k)) (hpl : pl ≤ len) : Met l yX2_number wsX2_number ({ frames := 2, cells := 0, slots := 0, locals := 42 } : Room) (wr g [.ref rd] [(rd, .inr (2, [.ref lt, .ref p_, .int (nI pl), .int (nI oc)])), (lt, .inr (0, [.ref sg, .int (nI len)])), (sg, .inl (g.2.2.1, 200, .inl tx))]) (wQi g [(rd, .inr (2, [.ref lt, .ref p_, .int (nI pl), .int (nI oc)])), (lt, .inr (0, [.ref sg, .int (nI len)])), (sg, .inl (g.2.2.1, 200, .inl tx))] (fun u : Unit => [(rd, .inr (2, [.ref lt, .ref p_, .int (nI (nuP tx len pl)), .int (nI oc)])), (lt, .inr (0, [.ref sg, .int (nI len)])), (sg, .inl (g.2.2.1, 200, .inl tx))]) (fun rr u => rr = nuV tx len pl)) 0 0 (cA [(rd, .inr (2, [.ref lt, .ref p_, .int (nI pl), .int (nI oc)])), (lt, .inr (0, [.ref sg, .int (nI len)])), (sg, .inl (g.2.2.1, 200, .inl tx))]) := by
  refine wr_starti (cc := cX2_number) (maxL := 3) (ty := .int) (by decide) rfl (Nat.le_of_ble_eq_true rfl) (fun p e s m args below meth c Q A C hP hD hS hret ls hl => ?_)
  obtain ⟨hx, hb, hml, hr, hown, hts, hlk, hKK⟩ := id C
  have hK := hKK.1
  have hown : s.vm.findClass RX2 = some m.cls := hown
  have ctx : CallFix p m c cX2_number 3 s args wsX2_number RX2 := ⟨hx, hb, hml, hown, hts⟩
  have hl : lv_has ls 3 [(0, .ref rd)] := hl
  obtain ⟨H, hHe⟩ : ∃ H, H = s.heap := ⟨_, rfl⟩
  obtain ⟨locs, hLe⟩ : ∃ L : List Loc, L = [] := ⟨_, rfl⟩
  have hP : va_P g.1 vwCl [(rd, .inr (2, [.ref lt, .ref p_, .int (nI pl), .int (nI oc)])), (lt, .inr (0, [.ref sg, .int (nI len)])), (sg, .inl (g.2.2.1, 200, .inl tx))] H := by rw [hHe]; exact hP
  have hS : va_S A s.heap H locs := by rw [hHe, hLe]; exact hS
  suffices hgo : W p l e ({ frames := 2, cells := 0, slots := 0, locals := 42 } : Room) s m args below meth c H locs 0 0 Q (F0 m 0 ls []) by rw [hHe, hLe] at hgo; exact hgo
  clear hHe hLe
  refine lv_aload_n hx hb dX2_number_0 rfl (lv_at hl 0 rfl) ?_
  refine wr_callVi (As := []) (rest := []) (b := rd) ctx hKK hP hD hS (c_X2_figure l g rd p_ pl oc lt sg len tx (by omega) (hsg) (by omega)) gX2_number_X2_figure rfl rfl rfl hdX2_figure ⟨Nat.le_of_ble_eq_true rfl, Nat.le_of_ble_eq_true rfl⟩ [0, 1, 2] rfl rfl (fun _ _ _ => rfl) (ci := 2) (q0 := 0) rfl rfl hl.1 rfl rfl (Nat.le_of_ble_eq_true rfl) dX2_number_1 (fun r_1 u_2 H locs hr_1 hP hD hS => ?_)
  have hP : va_P g.1 vwCl [(rd, .inr (2, [.ref lt, .ref p_, .int (nI (fgP tx len pl)), .int (nI oc)])), (lt, .inr (0, [.ref sg, .int (nI len)])), (sg, .inl (g.2.2.1, 200, .inl tx))] H := hP
  have hD : va_D A [(rd, .inr (2, [.ref lt, .ref p_, .int (nI (fgP tx len pl)), .int (nI oc)])), (lt, .inr (0, [.ref sg, .int (nI len)])), (sg, .inl (g.2.2.1, 200, .inl tx))] := hD
  subst hr_1
  refine lv_istore_n (lv' := [(1, .int (fgV tx len pl)), (0, .ref rd)]) hx hb dX2_number_4 rfl hl (by decide) rfl (fun ls hl => ?_)
  refine lv_iload_n hx hb dX2_number_5 rfl (lv_at hl 0 rfl) ?_
  refine lv_if_ge (tgt := 11) hx hb dX2_number_6 (by decide) (fun c_3 => ?_) (fun c_3 => ?_)
  · refine lv_aload_n hx hb dX2_number_11 rfl (lv_at hl 1 rfl) ?_
    refine wr_callVi (As := []) (rest := []) (b := rd) ctx hKK hP hD hS (c_X2_figure l g rd p_ (fgP tx len pl) oc lt sg len tx (by omega) (hsg) (fgP_le hpl)) gX2_number_X2_figure rfl rfl rfl hdX2_figure ⟨Nat.le_of_ble_eq_true rfl, Nat.le_of_ble_eq_true rfl⟩ [0, 1, 2] rfl rfl (fun _ _ _ => rfl) (ci := 2) (q0 := 0) rfl rfl hl.1 rfl rfl (Nat.le_of_ble_eq_true rfl) dX2_number_12 (fun r_4 u_5 H locs hr_4 hP hD hS => ?_)
    have hP : va_P g.1 vwCl [(rd, .inr (2, [.ref lt, .ref p_, .int (nI (fgP tx len (fgP tx len pl))), .int (nI oc)])), (lt, .inr (0, [.ref sg, .int (nI len)])), (sg, .inl (g.2.2.1, 200, .inl tx))] H := hP
    have hD : va_D A [(rd, .inr (2, [.ref lt, .ref p_, .int (nI (fgP tx len (fgP tx len pl))), .int (nI oc)])), (lt, .inr (0, [.ref sg, .int (nI len)])), (sg, .inl (g.2.2.1, 200, .inl tx))] := hD
    subst hr_4
    refine lv_istore_n (lv' := [(2, .int (fgV tx len (fgP tx len pl))), (1, .int (fgV tx len pl)), (0, .ref rd)]) hx hb dX2_number_15 rfl hl (by decide) rfl (fun ls hl => ?_)
    refine lv_iload_n hx hb dX2_number_16 rfl (lv_at hl 0 rfl) ?_
    refine lv_if_ge (tgt := 24) hx hb dX2_number_17 (by decide) (fun c_6 => ?_) (fun c_6 => ?_)
    · refine lv_bipush (v := nI 10) hx hb dX2_number_24 (by decide) ?_
      refine lv_iload_n hx hb dX2_number_26 rfl (lv_at hl 1 rfl) ?_
      refine lv_imul hx hb dX2_number_27 ?_
      refine lv_iload_n hx hb dX2_number_28 rfl (lv_at hl 0 rfl) ?_
      refine lv_iadd hx hb dX2_number_29 ?_
      exact hret (((nI 10) * (fgV tx len pl)) + (fgV tx len (fgP tx len pl))) () H locs 30 ls (by simp [nuV, c_3, c_6]) (by rw [show nuP tx len pl = fgP tx len (fgP tx len pl) by simp [nuP, c_3, c_6]]; exact hP) (by rw [show nuP tx len pl = fgP tx len (fgP tx len pl) by simp [nuP, c_3, c_6]]; exact hD) hS (rfl) dX2_number_30
    · refine lv_iload_n hx hb dX2_number_20 rfl (lv_at hl 1 rfl) ?_
      refine lv_goto (tgt := 30) hx hb dX2_number_21 (by decide) ?_
      exact hret (fgV tx len pl) () H locs 30 ls (by simp [nuV, c_3, c_6]) (by rw [show nuP tx len pl = fgP tx len (fgP tx len pl) by simp [nuP, c_3, c_6]]; exact hP) (by rw [show nuP tx len pl = fgP tx len (fgP tx len pl) by simp [nuP, c_3, c_6]]; exact hD) hS (rfl) dX2_number_30
  · refine lv_iload_n hx hb dX2_number_9 rfl (lv_at hl 0 rfl) ?_
    exact hret (fgV tx len pl) () H locs 10 ls (by simp [nuV, c_3]) (by rw [show nuP tx len pl = fgP tx len pl by simp [nuP, c_3]]; exact hP) (by rw [show nuP tx len pl = fgP tx len pl by simp [nuP, c_3]]; exact hD) hS (rfl) dX2_number_10
theorem kX2_take_f19 : (Cond.fieldLink RX2 19 "LastCallersWord$Reader" "letters" "LLastCallersWord$Letters;" : Cond) ∈ wsX2_take := List.mem_cons_of_mem _ aw_66
theorem hX2_take_X2 : ∀ w ∈ wsX20, w ∈ wsX2_take := fun w h => List.mem_cons_of_mem _ (ac_X2 w h)
theorem kX2_take_f9 : (Cond.fieldLink RX2 9 "LastCallersWord$Reader" "place" "I" : Cond) ∈ wsX2_take := List.mem_cons_of_mem _ aw_64
set_option maxHeartbeats 4000000 in
set_option maxRecDepth 100000 in
theorem c_X2_take (l : Launch) (g : GG) (rd : Nat) (p_ : Nat) (pl : Nat) (oc : Nat) (lt : Nat) (sg : Nat) (len : Nat) (tx : Nat → Int32) (ch : Int32) (hlen : len ≤ 200) (hsg : ∀ k, narrow .char (.int (tx k)) = .int (tx k)) (hpl : pl ≤ len) : Met l yX2_take wsX2_take ({ frames := 1, cells := 0, slots := 0, locals := 21 } : Room) (wr g [.ref rd, .int ch] [(rd, .inr (2, [.ref lt, .ref p_, .int (nI pl), .int (nI oc)])), (lt, .inr (0, [.ref sg, .int (nI len)])), (sg, .inl (g.2.2.1, 200, .inl tx))]) (wQi g [(rd, .inr (2, [.ref lt, .ref p_, .int (nI pl), .int (nI oc)])), (lt, .inr (0, [.ref sg, .int (nI len)])), (sg, .inl (g.2.2.1, 200, .inl tx))] (fun u : Unit => [(rd, .inr (2, [.ref lt, .ref p_, .int (nI (if tkB tx len pl ch = true then pl + 1 else pl)), .int (nI oc)])), (lt, .inr (0, [.ref sg, .int (nI len)])), (sg, .inl (g.2.2.1, 200, .inl tx))]) (fun rr u => rr = bI (tkB tx len pl ch))) 0 0 (cA [(rd, .inr (2, [.ref lt, .ref p_, .int (nI pl), .int (nI oc)])), (lt, .inr (0, [.ref sg, .int (nI len)])), (sg, .inl (g.2.2.1, 200, .inl tx))]) := by
  refine wr_starti (cc := cX2_take) (maxL := 2) (ty := .boolean) (by decide) rfl (Nat.le_of_ble_eq_true rfl) (fun p e s m args below meth c Q A C hP hD hS hret ls hl => ?_)
  obtain ⟨hx, hb, hml, hr, hown, hts, hlk, hKK⟩ := id C
  have hK := hKK.1
  have hown : s.vm.findClass RX2 = some m.cls := hown
  have ctx : CallFix p m c cX2_take 2 s args wsX2_take RX2 := ⟨hx, hb, hml, hown, hts⟩
  have hl : lv_has ls 2 [(0, .ref rd), (1, .int ch)] := hl
  obtain ⟨H, hHe⟩ : ∃ H, H = s.heap := ⟨_, rfl⟩
  obtain ⟨locs, hLe⟩ : ∃ L : List Loc, L = [] := ⟨_, rfl⟩
  have hP : va_P g.1 vwCl [(rd, .inr (2, [.ref lt, .ref p_, .int (nI pl), .int (nI oc)])), (lt, .inr (0, [.ref sg, .int (nI len)])), (sg, .inl (g.2.2.1, 200, .inl tx))] H := by rw [hHe]; exact hP
  have hS : va_S A s.heap H locs := by rw [hHe, hLe]; exact hS
  suffices hgo : W p l e ({ frames := 1, cells := 0, slots := 0, locals := 21 } : Room) s m args below meth c H locs 0 0 Q (F0 m 0 ls []) by rw [hHe, hLe] at hgo; exact hgo
  clear hHe hLe
  refine lv_aload_n hx hb dX2_take_0 rfl (lv_at hl 0 rfl) ?_
  refine va_get (D := g.1) (cl := vwCl) (ci := 2) (v := .ref lt) (C := RX2) (T := TX2) (N := 4) hx hb hts hX2_take_X2 hown hK hP 0 rfl rfl 0 (by decide) (hts _ kX2_take_f19) (fun _ h9 => h9) rfl dX2_take_1 ?_
  refine lv_aload_n hx hb dX2_take_4 rfl (lv_at hl 0 rfl) ?_
  refine va_get (D := g.1) (cl := vwCl) (ci := 2) (v := .int (nI pl)) (C := RX2) (T := TX2) (N := 4) hx hb hts hX2_take_X2 hown hK hP 0 rfl rfl 2 (by decide) (hts _ kX2_take_f9) (fun _ h9 => h9) rfl dX2_take_5 ?_
  refine ro_callV (As := [.int (nI pl)]) (rest := []) (b := lt) ctx hKK hP (c_X0_signAt l g lt sg len tx pl (by omega) (by omega) (hsg)) gX2_take_X0_signAt rfl rfl rfl hdX0_signAt ⟨Nat.le_of_ble_eq_true rfl, Nat.le_of_ble_eq_true rfl⟩ [1, 2] rfl (ci := 0) (q0 := 0) rfl rfl hl.1 rfl rfl (Nat.le_of_ble_eq_true rfl) dX2_take_8 (fun r_1 hr_1 => ?_)
  subst hr_1
  refine lv_iload_n hx hb dX2_take_11 rfl (lv_at hl 1 rfl) ?_
  refine lv_icmp_eq (tgt := 17) hx hb dX2_take_12 (by decide) (fun c_2 => ?_) (fun c_2 => ?_)
  · refine lv_aload_n hx hb dX2_take_17 rfl (lv_at hl 0 rfl) ?_
    refine lv_dup hx hb dX2_take_18 rfl ?_
    refine va_get (D := g.1) (cl := vwCl) (ci := 2) (v := .int (nI pl)) (C := RX2) (T := TX2) (N := 4) hx hb hts hX2_take_X2 hown hK hP 0 rfl rfl 2 (by decide) (hts _ kX2_take_f9) (fun _ h9 => h9) rfl dX2_take_19 ?_
    refine lv_iconst (v := nI 1) hx hb dX2_take_22 (by decide) ?_
    refine lv_iadd hx hb dX2_take_23 ?_
    refine lv_is (nI_add pl 1) ?_
    refine va_put (D := g.1) (cl := vwCl) (ci := 2) (v := .int (nI (pl + 1))) (ty := .int) (C := RX2) (T := TX2) (N := 4) hx hb hts hX2_take_X2 tyX2 tyX2_ok nmX2 hown hK hP hD hS 0 rfl rfl 2 (by decide) (hts _ kX2_take_f9) (fun _ h9 => h9) rfl (by decide +kernel) (rfl) (rfl) (Nat.le_of_ble_eq_true rfl) dX2_take_24 (fun H locs hP hD hS => ?_)
    have hP : va_P g.1 vwCl [(rd, .inr (2, [.ref lt, .ref p_, .int (nI (pl + 1)), .int (nI oc)])), (lt, .inr (0, [.ref sg, .int (nI len)])), (sg, .inl (g.2.2.1, 200, .inl tx))] H := hP
    have hD : va_D A [(rd, .inr (2, [.ref lt, .ref p_, .int (nI (pl + 1)), .int (nI oc)])), (lt, .inr (0, [.ref sg, .int (nI len)])), (sg, .inl (g.2.2.1, 200, .inl tx))] := hD
    refine lv_iconst (v := nI 1) hx hb dX2_take_27 (by decide) ?_
    exact hret (nI 1) () H locs 28 ls (by simp [tkB, bI, c_2]) (by rw [show (if tkB tx len pl ch = true then pl + 1 else pl) = pl + 1 by simp [tkB, c_2]]; exact hP) (by rw [show (if tkB tx len pl ch = true then pl + 1 else pl) = pl + 1 by simp [tkB, c_2]]; exact hD) hS (rfl) dX2_take_28
  · refine lv_iconst (v := nI 0) hx hb dX2_take_15 (by decide) ?_
    exact hret (nI 0) () H locs 16 ls (by simp [tkB, bI, c_2]) (by rw [show (if tkB tx len pl ch = true then pl + 1 else pl) = pl by simp [tkB, c_2]]; exact hP) (by rw [show (if tkB tx len pl ch = true then pl + 1 else pl) = pl by simp [tkB, c_2]]; exact hD) hS (rfl) dX2_take_16
theorem kX2_isOneOfAll_f23 : (Cond.fieldLink RX2 23 "LastCallersWord$Reader" "plan" "LLastCallersWord$Plan;" : Cond) ∈ wsX2_isOneOfAll := List.mem_cons_of_mem _ aw_67
theorem hX2_isOneOfAll_X2 : ∀ w ∈ wsX20, w ∈ wsX2_isOneOfAll := fun w h => List.mem_cons_of_mem _ (ac_X2 w h)
theorem kX2_isOneOfAll_f68 : (Cond.fieldLink RX2 68 "LastCallersWord$Plan" "persons" "I" : Cond) ∈ wsX2_isOneOfAll := List.mem_cons_of_mem _ aw_174
theorem hX2_isOneOfAll_X1 : ∀ w ∈ wsX10, w ∈ wsX2_isOneOfAll := fun w h => List.mem_cons_of_mem _ (ac_X1 w h)
set_option maxHeartbeats 4000000 in
set_option maxRecDepth 100000 in
theorem c_X2_isOneOfAll (l : Launch) (g : GG) (rd : Nat) (p_ : Nat) (pl : Nat) (oc : Nat) (lt : Nat) (q0 : Nat) (q1 : Nat) (q2 : Nat) (q3 : Nat) (q4 : Nat) (ds : Nat → Nat) (iv : Int32) (hPe : ds 0 ≤ 8) : Met l yX2_isOneOfAll wsX2_isOneOfAll ({ frames := 0, cells := 0, slots := 0, locals := 0 } : Room) (ro g [.ref rd, .int iv] [(rd, .inr (2, [.ref lt, .ref p_, .int (nI pl), .int (nI oc)])), (p_, .inr (1, [.ref q0, .ref q1, .ref q2, .ref q3, .ref q4, .int (nI (ds 0)), .int (nI (ds 1)), .int (nI (ds 2)), .int (nI (ds 3)), .int (nI (ds 4))]))]) (vp_Si (fun rr => rr = bI (inPb (ds 0) iv))) 0 0 (fun _ => False) := by
  refine ro_start (cc := cX2_isOneOfAll) (maxL := 2) (ty := .boolean) (by decide) rfl (Nat.le_of_ble_eq_true rfl) (fun p e s m args below meth c Q C hP hret ls hl => ?_)
  obtain ⟨hx, hb, hml, hr, hown, hts, hlk, hKK⟩ := id C
  have hK := hKK.1
  have hown : s.vm.findClass RX2 = some m.cls := hown
  have ctx : CallFix p m c cX2_isOneOfAll 2 s args wsX2_isOneOfAll RX2 := ⟨hx, hb, hml, hown, hts⟩
  have hl : lv_has ls 2 [(0, .ref rd), (1, .int iv)] := hl
  refine lv_iload_n hx hb dX2_isOneOfAll_0 rfl (lv_at hl 1 rfl) ?_
  refine lv_if_lt (tgt := 19) hx hb dX2_isOneOfAll_1 (by decide) (fun c_1 => ?_) (fun c_1 => ?_)
  · refine lv_iconst (v := nI 0) hx hb dX2_isOneOfAll_19 (by decide) ?_
    exact hret (nI 0) 20 ls (by simp [inPb, bI, c_1]) (rfl) dX2_isOneOfAll_20
  · refine lv_iload_n hx hb dX2_isOneOfAll_4 rfl (lv_at hl 1 rfl) ?_
    refine lv_aload_n hx hb dX2_isOneOfAll_5 rfl (lv_at hl 0 rfl) ?_
    refine va_get (D := g.1) (cl := vwCl) (ci := 2) (v := .ref p_) (C := RX2) (T := TX2) (N := 4) hx hb hts hX2_isOneOfAll_X2 hown hK hP 0 rfl rfl 1 (by decide) (hts _ kX2_isOneOfAll_f23) (fun _ h9 => h9) rfl dX2_isOneOfAll_6 ?_
    refine va_get (D := g.1) (cl := vwCl) (ci := 1) (v := .int (nI (ds 0))) (C := RX1) (T := TX1) (N := 10) hx hb hts hX2_isOneOfAll_X1 hown hK hP 1 rfl rfl 5 (by decide) (hts _ kX2_isOneOfAll_f68) (fun _ h9 => h9) rfl dX2_isOneOfAll_9 ?_
    refine lv_icmp_ge (tgt := 19) hx hb dX2_isOneOfAll_12 (by decide) (fun c_2 => ?_) (fun c_2 => ?_)
    · refine lv_iconst (v := nI 0) hx hb dX2_isOneOfAll_19 (by decide) ?_
      exact hret (nI 0) 20 ls (by simp [inPb, bI, c_1, c_2]) (rfl) dX2_isOneOfAll_20
    · refine lv_iconst (v := nI 1) hx hb dX2_isOneOfAll_15 (by decide) ?_
      refine lv_goto (tgt := 20) hx hb dX2_isOneOfAll_16 (by decide) ?_
      exact hret (nI 1) 20 ls (by simp [inPb, bI, c_1, c_2]) (rfl) dX2_isOneOfAll_20
theorem kX2_readPersons_f15 : (Cond.fieldLink RX2 15 "LastCallersWord$Reader" "onlyCounts" "Z" : Cond) ∈ wsX2_readPersons := List.mem_cons_of_mem _ aw_65
theorem hX2_readPersons_X2 : ∀ w ∈ wsX20, w ∈ wsX2_readPersons := fun w h => List.mem_cons_of_mem _ (ac_X2 w h)
theorem kX2_readPersons_f23 : (Cond.fieldLink RX2 23 "LastCallersWord$Reader" "plan" "LLastCallersWord$Plan;" : Cond) ∈ wsX2_readPersons := List.mem_cons_of_mem _ aw_67
theorem kX2_readPersons_f68 : (Cond.fieldLink RX2 68 "LastCallersWord$Plan" "persons" "I" : Cond) ∈ wsX2_readPersons := List.mem_cons_of_mem _ aw_174
theorem hX2_readPersons_X1 : ∀ w ∈ wsX10, w ∈ wsX2_readPersons := fun w h => List.mem_cons_of_mem _ (ac_X1 w h)
set_option maxHeartbeats 4000000 in
set_option maxRecDepth 100000 in
theorem c_X2_readPersons (l : Launch) (g : GG) (rd : Nat) (p_ : Nat) (pl : Nat) (oc : Nat) (lt : Nat) (sg : Nat) (len : Nat) (tx : Nat → Int32) (q0 : Nat) (q1 : Nat) (q2 : Nat) (q3 : Nat) (q4 : Nat) (da : Nat → Nat → Int32) (ds : Nat → Nat) (hlen : len ≤ 200) (hsg : ∀ k, narrow .char (.int (tx k)) = .int (tx k)) (hpl : pl ≤ len) (hPe : ds 0 ≤ 8) (hT : ds 1 ≤ 8) (hD5 : ds 2 ≤ 5) (hW : ds 3 ≤ 6) (hoc : oc ≤ 1) : Met l yX2_readPersons wsX2_readPersons ({ frames := 3, cells := 0, slots := 0, locals := 64 } : Room) (wr g [.ref rd] [(rd, .inr (2, [.ref lt, .ref p_, .int (nI pl), .int (nI oc)])), (lt, .inr (0, [.ref sg, .int (nI len)])), (sg, .inl (g.2.2.1, 200, .inl tx)), (p_, .inr (1, [.ref q0, .ref q1, .ref q2, .ref q3, .ref q4, .int (nI (ds 0)), .int (nI (ds 1)), .int (nI (ds 2)), .int (nI (ds 3)), .int (nI (ds 4))])), (q0, .inl (g.2.1, 8, .inl (da 0))), (q1, .inl (g.2.1, 64, .inl (da 1))), (q2, .inl (g.2.1, 5, .inl (da 2))), (q3, .inl (g.2.1, 5, .inl (da 3))), (q4, .inl (g.2.1, 6, .inl (da 4)))]) (wQi g [(rd, .inr (2, [.ref lt, .ref p_, .int (nI pl), .int (nI oc)])), (lt, .inr (0, [.ref sg, .int (nI len)])), (sg, .inl (g.2.2.1, 200, .inl tx)), (p_, .inr (1, [.ref q0, .ref q1, .ref q2, .ref q3, .ref q4, .int (nI (ds 0)), .int (nI (ds 1)), .int (nI (ds 2)), .int (nI (ds 3)), .int (nI (ds 4))])), (q0, .inl (g.2.1, 8, .inl (da 0))), (q1, .inl (g.2.1, 64, .inl (da 1))), (q2, .inl (g.2.1, 5, .inl (da 2))), (q3, .inl (g.2.1, 5, .inl (da 3))), (q4, .inl (g.2.1, 6, .inl (da 4)))] (fun u : Bool × Nat × DV => [(rd, .inr (2, [.ref lt, .ref p_, .int (nI u.2.1), .int (nI oc)])), (lt, .inr (0, [.ref sg, .int (nI len)])), (sg, .inl (g.2.2.1, 200, .inl tx)), (p_, .inr (1, [.ref q0, .ref q1, .ref q2, .ref q3, .ref q4, .int (nI (u.2.2.2 0)), .int (nI (u.2.2.2 1)), .int (nI (u.2.2.2 2)), .int (nI (u.2.2.2 3)), .int (nI (u.2.2.2 4))])), (q0, .inl (g.2.1, 8, .inl (u.2.2.1 0))), (q1, .inl (g.2.1, 64, .inl (u.2.2.1 1))), (q2, .inl (g.2.1, 5, .inl (u.2.2.1 2))), (q3, .inl (g.2.1, 5, .inl (u.2.2.1 3))), (q4, .inl (g.2.1, 6, .inl (u.2.2.1 4)))]) (fun rr u => rr = bI u.1 ∧ RR u.1 u.2 (rdN tx len oc pl (da, ds)) ∧ OKD len u.2)) 0 0 (cA [(rd, .inr (2, [.ref lt, .ref p_, .int (nI pl), .int (nI oc)])), (lt, .inr (0, [.ref sg, .int (nI len)])), (sg, .inl (g.2.2.1, 200, .inl tx)), (p_, .inr (1, [.ref q0, .ref q1, .ref q2, .ref q3, .ref q4, .int (nI (ds 0)), .int (nI (ds 1)), .int (nI (ds 2)), .int (nI (ds 3)), .int (nI (ds 4))])), (q0, .inl (g.2.1, 8, .inl (da 0))), (q1, .inl (g.2.1, 64, .inl (da 1))), (q2, .inl (g.2.1, 5, .inl (da 2))), (q3, .inl (g.2.1, 5, .inl (da 3))), (q4, .inl (g.2.1, 6, .inl (da 4)))]) := by
  refine wr_starti (cc := cX2_readPersons) (maxL := 2) (ty := .boolean) (by decide) rfl (Nat.le_of_ble_eq_true rfl) (fun p e s m args below meth c Q A C hP hD hS hret ls hl => ?_)
  obtain ⟨hx, hb, hml, hr, hown, hts, hlk, hKK⟩ := id C
  have hK := hKK.1
  have hown : s.vm.findClass RX2 = some m.cls := hown
  have ctx : CallFix p m c cX2_readPersons 2 s args wsX2_readPersons RX2 := ⟨hx, hb, hml, hown, hts⟩
  have hl : lv_has ls 2 [(0, .ref rd)] := hl
  obtain ⟨H, hHe⟩ : ∃ H, H = s.heap := ⟨_, rfl⟩
  obtain ⟨locs, hLe⟩ : ∃ L : List Loc, L = [] := ⟨_, rfl⟩
  have hP : va_P g.1 vwCl [(rd, .inr (2, [.ref lt, .ref p_, .int (nI pl), .int (nI oc)])), (lt, .inr (0, [.ref sg, .int (nI len)])), (sg, .inl (g.2.2.1, 200, .inl tx)), (p_, .inr (1, [.ref q0, .ref q1, .ref q2, .ref q3, .ref q4, .int (nI (ds 0)), .int (nI (ds 1)), .int (nI (ds 2)), .int (nI (ds 3)), .int (nI (ds 4))])), (q0, .inl (g.2.1, 8, .inl (da 0))), (q1, .inl (g.2.1, 64, .inl (da 1))), (q2, .inl (g.2.1, 5, .inl (da 2))), (q3, .inl (g.2.1, 5, .inl (da 3))), (q4, .inl (g.2.1, 6, .inl (da 4)))] H := by rw [hHe]; exact hP
  have hS : va_S A s.heap H locs := by rw [hHe, hLe]; exact hS
  suffices hgo : W p l e ({ frames := 3, cells := 0, slots := 0, locals := 64 } : Room) s m args below meth c H locs 0 0 Q (F0 m 0 ls []) by rw [hHe, hLe] at hgo; exact hgo
  clear hHe hLe
  refine lv_aload_n hx hb dX2_readPersons_0 rfl (lv_at hl 0 rfl) ?_
  refine wr_callVi (As := []) (rest := []) (b := rd) ctx hKK hP hD hS (c_X2_number l g rd p_ pl oc lt sg len tx (by omega) (hsg) (by omega)) gX2_readPersons_X2_number rfl rfl rfl hdX2_number ⟨Nat.le_of_ble_eq_true rfl, Nat.le_of_ble_eq_true rfl⟩ [0, 1, 2] rfl rfl (fun _ _ _ => rfl) (ci := 2) (q0 := 0) rfl rfl hl.1 rfl rfl (Nat.le_of_ble_eq_true rfl) dX2_readPersons_1 (fun r_1 u_2 H locs hr_1 hP hD hS => ?_)
  have hP : va_P g.1 vwCl [(rd, .inr (2, [.ref lt, .ref p_, .int (nI (nuP tx len pl)), .int (nI oc)])), (lt, .inr (0, [.ref sg, .int (nI len)])), (sg, .inl (g.2.2.1, 200, .inl tx)), (p_, .inr (1, [.ref q0, .ref q1, .ref q2, .ref q3, .ref q4, .int (nI (ds 0)), .int (nI (ds 1)), .int (nI (ds 2)), .int (nI (ds 3)), .int (nI (ds 4))])), (q0, .inl (g.2.1, 8, .inl (da 0))), (q1, .inl (g.2.1, 64, .inl (da 1))), (q2, .inl (g.2.1, 5, .inl (da 2))), (q3, .inl (g.2.1, 5, .inl (da 3))), (q4, .inl (g.2.1, 6, .inl (da 4)))] H := hP
  have hD : va_D A [(rd, .inr (2, [.ref lt, .ref p_, .int (nI (nuP tx len pl)), .int (nI oc)])), (lt, .inr (0, [.ref sg, .int (nI len)])), (sg, .inl (g.2.2.1, 200, .inl tx)), (p_, .inr (1, [.ref q0, .ref q1, .ref q2, .ref q3, .ref q4, .int (nI (ds 0)), .int (nI (ds 1)), .int (nI (ds 2)), .int (nI (ds 3)), .int (nI (ds 4))])), (q0, .inl (g.2.1, 8, .inl (da 0))), (q1, .inl (g.2.1, 64, .inl (da 1))), (q2, .inl (g.2.1, 5, .inl (da 2))), (q3, .inl (g.2.1, 5, .inl (da 3))), (q4, .inl (g.2.1, 6, .inl (da 4)))] := hD
  subst hr_1
  refine lv_istore_n (lv' := [(1, .int (nuV tx len pl)), (0, .ref rd)]) hx hb dX2_readPersons_4 rfl hl (by decide) rfl (fun ls hl => ?_)
  refine lv_aload_n hx hb dX2_readPersons_5 rfl (lv_at hl 1 rfl) ?_
  refine va_get (D := g.1) (cl := vwCl) (ci := 2) (v := .int (nI oc)) (C := RX2) (T := TX2) (N := 4) hx hb hts hX2_readPersons_X2 hown hK hP 0 rfl rfl 3 (by decide) (hts _ kX2_readPersons_f15) (fun _ h9 => h9) rfl dX2_readPersons_6 ?_
  refine lv_if_eq (tgt := 23) hx hb dX2_readPersons_9 (by decide) (fun c_3 => ?_) (fun c_3 => ?_)
  · replace c_3 : oc = 0 := (nI_eq (a := oc) (b := 0) (by omega) (by omega)).mp c_3
    refine lv_iconst (v := nI 0) hx hb dX2_readPersons_23 (by decide) ?_
    exact hret (nI 0) (false, nuP tx len pl, da, ds) H locs 24 ls (⟨rfl, by simp [RR, rdN, c_3], ⟨nuP_le hpl, hPe, hT, hD5, hW⟩⟩) (hP) (hD) hS (rfl) dX2_readPersons_24
  · replace c_3 : ¬ oc = 0 := fun h => c_3 ((nI_eq (a := oc) (b := 0) (by omega) (by omega)).mpr h)
    refine lv_iload_n hx hb dX2_readPersons_12 rfl (lv_at hl 0 rfl) ?_
    refine lv_iconst (v := nI 2) hx hb dX2_readPersons_13 (by decide) ?_
    refine lv_icmp_lt (tgt := 23) hx hb dX2_readPersons_14 (by decide) (fun c_4 => ?_) (fun c_4 => ?_)
    · refine lv_iconst (v := nI 0) hx hb dX2_readPersons_23 (by decide) ?_
      exact hret (nI 0) (false, nuP tx len pl, da, ds) H locs 24 ls (⟨rfl, by simp [RR, rdN, c_3, c_4], ⟨nuP_le hpl, hPe, hT, hD5, hW⟩⟩) (hP) (hD) hS (rfl) dX2_readPersons_24
    · refine lv_iload_n hx hb dX2_readPersons_17 rfl (lv_at hl 0 rfl) ?_
      refine lv_bipush (v := nI 8) hx hb dX2_readPersons_18 (by decide) ?_
      refine lv_icmp_le (tgt := 25) hx hb dX2_readPersons_20 (by decide) (fun c_5 => ?_) (fun c_5 => ?_)
      · refine lv_aload_n hx hb dX2_readPersons_25 rfl (lv_at hl 1 rfl) ?_
        refine va_get (D := g.1) (cl := vwCl) (ci := 2) (v := .ref p_) (C := RX2) (T := TX2) (N := 4) hx hb hts hX2_readPersons_X2 hown hK hP 0 rfl rfl 1 (by decide) (hts _ kX2_readPersons_f23) (fun _ h9 => h9) rfl dX2_readPersons_26 ?_
        refine lv_iload_n hx hb dX2_readPersons_29 rfl (lv_at hl 0 rfl) ?_
        refine lv_is (nI_cl (pos_of_lt (k := 2) (by decide) (by assumption))) ?_
        refine va_put (D := g.1) (cl := vwCl) (ci := 1) (v := .int (nI ((nuV tx len pl).toNatClampNeg))) (ty := .int) (C := RX1) (T := TX1) (N := 10) hx hb hts hX2_readPersons_X1 tyX1 tyX1_ok nmX1 hown hK hP hD hS 3 rfl rfl 5 (by decide) (hts _ kX2_readPersons_f68) (fun _ h9 => h9) rfl (by decide +kernel) (rfl) (rfl) (Nat.le_of_ble_eq_true rfl) dX2_readPersons_30 (fun H locs hP hD hS => ?_)
        obtain ⟨hP, hD⟩ := re2 [(rd, .inr (2, [.ref lt, .ref p_, .int (nI (nuP tx len pl)), .int (nI oc)])), (lt, .inr (0, [.ref sg, .int (nI len)])), (sg, .inl (g.2.2.1, 200, .inl tx)), (p_, .inr (1, [.ref q0, .ref q1, .ref q2, .ref q3, .ref q4, .int (nI ((nuV tx len pl).toNatClampNeg)), .int (nI (ds 1)), .int (nI (ds 2)), .int (nI (ds 3)), .int (nI (ds 4))])), (q0, .inl (g.2.1, 8, .inl (da 0))), (q1, .inl (g.2.1, 64, .inl (da 1))), (q2, .inl (g.2.1, 5, .inl (da 2))), (q3, .inl (g.2.1, 5, .inl (da 3))), (q4, .inl (g.2.1, 6, .inl (da 4)))] hP hD rfl
        refine lv_iconst (v := nI 1) hx hb dX2_readPersons_33 (by decide) ?_
        exact hret (nI 1) (true, nuP tx len pl, da, (updN ds 0 ((nuV tx len pl).toNatClampNeg))) H locs 34 ls (⟨rfl, by simp [RR, rdN, c_3, c_4, c_5], ⟨nuP_le hpl, clamp_le (pos_of_lt (k := 2) (by decide) (by assumption)) (by decide) (by assumption), hT, hD5, hW⟩⟩) (hP) (hD) hS (rfl) dX2_readPersons_34
      · refine lv_iconst (v := nI 0) hx hb dX2_readPersons_23 (by decide) ?_
        exact hret (nI 0) (false, nuP tx len pl, da, ds) H locs 24 ls (⟨rfl, by simp [RR, rdN, c_3, c_4, c_5], ⟨nuP_le hpl, hPe, hT, hD5, hW⟩⟩) (hP) (hD) hS (rfl) dX2_readPersons_24
theorem kX2_readWord_f23 : (Cond.fieldLink RX2 23 "LastCallersWord$Reader" "plan" "LLastCallersWord$Plan;" : Cond) ∈ wsX2_readWord := List.mem_cons_of_mem _ aw_67
theorem hX2_readWord_X2 : ∀ w ∈ wsX20, w ∈ wsX2_readWord := fun w h => List.mem_cons_of_mem _ (ac_X2 w h)
theorem kX2_readWord_f101 : (Cond.fieldLink RX2 101 "LastCallersWord$Plan" "words" "I" : Cond) ∈ wsX2_readWord := List.mem_cons_of_mem _ aw_211
theorem hX2_readWord_X1 : ∀ w ∈ wsX10, w ∈ wsX2_readWord := fun w h => List.mem_cons_of_mem _ (ac_X1 w h)
theorem kX2_readWord_f104 : (Cond.fieldLink RX2 104 "LastCallersWord$Plan" "parts" "[I" : Cond) ∈ wsX2_readWord := List.mem_cons_of_mem _ aw_212
set_option maxHeartbeats 4000000 in
set_option maxRecDepth 100000 in
theorem c_X2_readWord (l : Launch) (g : GG) (rd : Nat) (p_ : Nat) (pl : Nat) (oc : Nat) (lt : Nat) (sg : Nat) (len : Nat) (tx : Nat → Int32) (q0 : Nat) (q1 : Nat) (q2 : Nat) (q3 : Nat) (q4 : Nat) (da : Nat → Nat → Int32) (ds : Nat → Nat) (hlen : len ≤ 200) (hsg : ∀ k, narrow .char (.int (tx k)) = .int (tx k)) (hpl : pl ≤ len) (hPe : ds 0 ≤ 8) (hT : ds 1 ≤ 8) (hD5 : ds 2 ≤ 5) (hW : ds 3 ≤ 6) : Met l yX2_readWord wsX2_readWord ({ frames := 3, cells := 0, slots := 0, locals := 64 } : Room) (wr g [.ref rd] [(rd, .inr (2, [.ref lt, .ref p_, .int (nI pl), .int (nI oc)])), (lt, .inr (0, [.ref sg, .int (nI len)])), (sg, .inl (g.2.2.1, 200, .inl tx)), (p_, .inr (1, [.ref q0, .ref q1, .ref q2, .ref q3, .ref q4, .int (nI (ds 0)), .int (nI (ds 1)), .int (nI (ds 2)), .int (nI (ds 3)), .int (nI (ds 4))])), (q0, .inl (g.2.1, 8, .inl (da 0))), (q1, .inl (g.2.1, 64, .inl (da 1))), (q2, .inl (g.2.1, 5, .inl (da 2))), (q3, .inl (g.2.1, 5, .inl (da 3))), (q4, .inl (g.2.1, 6, .inl (da 4)))]) (wQi g [(rd, .inr (2, [.ref lt, .ref p_, .int (nI pl), .int (nI oc)])), (lt, .inr (0, [.ref sg, .int (nI len)])), (sg, .inl (g.2.2.1, 200, .inl tx)), (p_, .inr (1, [.ref q0, .ref q1, .ref q2, .ref q3, .ref q4, .int (nI (ds 0)), .int (nI (ds 1)), .int (nI (ds 2)), .int (nI (ds 3)), .int (nI (ds 4))])), (q0, .inl (g.2.1, 8, .inl (da 0))), (q1, .inl (g.2.1, 64, .inl (da 1))), (q2, .inl (g.2.1, 5, .inl (da 2))), (q3, .inl (g.2.1, 5, .inl (da 3))), (q4, .inl (g.2.1, 6, .inl (da 4)))] (fun u : Bool × Nat × DV => [(rd, .inr (2, [.ref lt, .ref p_, .int (nI u.2.1), .int (nI oc)])), (lt, .inr (0, [.ref sg, .int (nI len)])), (sg, .inl (g.2.2.1, 200, .inl tx)), (p_, .inr (1, [.ref q0, .ref q1, .ref q2, .ref q3, .ref q4, .int (nI (u.2.2.2 0)), .int (nI (u.2.2.2 1)), .int (nI (u.2.2.2 2)), .int (nI (u.2.2.2 3)), .int (nI (u.2.2.2 4))])), (q0, .inl (g.2.1, 8, .inl (u.2.2.1 0))), (q1, .inl (g.2.1, 64, .inl (u.2.2.1 1))), (q2, .inl (g.2.1, 5, .inl (u.2.2.1 2))), (q3, .inl (g.2.1, 5, .inl (u.2.2.1 3))), (q4, .inl (g.2.1, 6, .inl (u.2.2.1 4)))]) (fun rr u => rr = bI u.1 ∧ RR u.1 u.2 (rdW tx len pl (da, ds)) ∧ OKD len u.2)) 0 0 (cA [(rd, .inr (2, [.ref lt, .ref p_, .int (nI pl), .int (nI oc)])), (lt, .inr (0, [.ref sg, .int (nI len)])), (sg, .inl (g.2.2.1, 200, .inl tx)), (p_, .inr (1, [.ref q0, .ref q1, .ref q2, .ref q3, .ref q4, .int (nI (ds 0)), .int (nI (ds 1)), .int (nI (ds 2)), .int (nI (ds 3)), .int (nI (ds 4))])), (q0, .inl (g.2.1, 8, .inl (da 0))), (q1, .inl (g.2.1, 64, .inl (da 1))), (q2, .inl (g.2.1, 5, .inl (da 2))), (q3, .inl (g.2.1, 5, .inl (da 3))), (q4, .inl (g.2.1, 6, .inl (da 4)))]) := by
  refine wr_starti (cc := cX2_readWord) (maxL := 2) (ty := .boolean) (by decide) rfl (Nat.le_of_ble_eq_true rfl) (fun p e s m args below meth c Q A C hP hD hS hret ls hl => ?_)
  obtain ⟨hx, hb, hml, hr, hown, hts, hlk, hKK⟩ := id C
  have hK := hKK.1
  have hown : s.vm.findClass RX2 = some m.cls := hown
  have ctx : CallFix p m c cX2_readWord 2 s args wsX2_readWord RX2 := ⟨hx, hb, hml, hown, hts⟩
  have hl : lv_has ls 2 [(0, .ref rd)] := hl
  obtain ⟨H, hHe⟩ : ∃ H, H = s.heap := ⟨_, rfl⟩
  obtain ⟨locs, hLe⟩ : ∃ L : List Loc, L = [] := ⟨_, rfl⟩
  have hP : va_P g.1 vwCl [(rd, .inr (2, [.ref lt, .ref p_, .int (nI pl), .int (nI oc)])), (lt, .inr (0, [.ref sg, .int (nI len)])), (sg, .inl (g.2.2.1, 200, .inl tx)), (p_, .inr (1, [.ref q0, .ref q1, .ref q2, .ref q3, .ref q4, .int (nI (ds 0)), .int (nI (ds 1)), .int (nI (ds 2)), .int (nI (ds 3)), .int (nI (ds 4))])), (q0, .inl (g.2.1, 8, .inl (da 0))), (q1, .inl (g.2.1, 64, .inl (da 1))), (q2, .inl (g.2.1, 5, .inl (da 2))), (q3, .inl (g.2.1, 5, .inl (da 3))), (q4, .inl (g.2.1, 6, .inl (da 4)))] H := by rw [hHe]; exact hP
  have hS : va_S A s.heap H locs := by rw [hHe, hLe]; exact hS
  suffices hgo : W p l e ({ frames := 3, cells := 0, slots := 0, locals := 64 } : Room) s m args below meth c H locs 0 0 Q (F0 m 0 ls []) by rw [hHe, hLe] at hgo; exact hgo
  clear hHe hLe
  refine lv_aload_n hx hb dX2_readWord_0 rfl (lv_at hl 0 rfl) ?_
  refine wr_callVi (As := []) (rest := []) (b := rd) ctx hKK hP hD hS (c_X2_number l g rd p_ pl oc lt sg len tx (by omega) (hsg) (by omega)) gX2_readWord_X2_number rfl rfl rfl hdX2_number ⟨Nat.le_of_ble_eq_true rfl, Nat.le_of_ble_eq_true rfl⟩ [0, 1, 2] rfl rfl (fun _ _ _ => rfl) (ci := 2) (q0 := 0) rfl rfl hl.1 rfl rfl (Nat.le_of_ble_eq_true rfl) dX2_readWord_1 (fun r_1 u_2 H locs hr_1 hP hD hS => ?_)
  have hP : va_P g.1 vwCl [(rd, .inr (2, [.ref lt, .ref p_, .int (nI (nuP tx len pl)), .int (nI oc)])), (lt, .inr (0, [.ref sg, .int (nI len)])), (sg, .inl (g.2.2.1, 200, .inl tx)), (p_, .inr (1, [.ref q0, .ref q1, .ref q2, .ref q3, .ref q4, .int (nI (ds 0)), .int (nI (ds 1)), .int (nI (ds 2)), .int (nI (ds 3)), .int (nI (ds 4))])), (q0, .inl (g.2.1, 8, .inl (da 0))), (q1, .inl (g.2.1, 64, .inl (da 1))), (q2, .inl (g.2.1, 5, .inl (da 2))), (q3, .inl (g.2.1, 5, .inl (da 3))), (q4, .inl (g.2.1, 6, .inl (da 4)))] H := hP
  have hD : va_D A [(rd, .inr (2, [.ref lt, .ref p_, .int (nI (nuP tx len pl)), .int (nI oc)])), (lt, .inr (0, [.ref sg, .int (nI len)])), (sg, .inl (g.2.2.1, 200, .inl tx)), (p_, .inr (1, [.ref q0, .ref q1, .ref q2, .ref q3, .ref q4, .int (nI (ds 0)), .int (nI (ds 1)), .int (nI (ds 2)), .int (nI (ds 3)), .int (nI (ds 4))])), (q0, .inl (g.2.1, 8, .inl (da 0))), (q1, .inl (g.2.1, 64, .inl (da 1))), (q2, .inl (g.2.1, 5, .inl (da 2))), (q3, .inl (g.2.1, 5, .inl (da 3))), (q4, .inl (g.2.1, 6, .inl (da 4)))] := hD
  subst hr_1
  refine lv_istore_n (lv' := [(1, .int (nuV tx len pl)), (0, .ref rd)]) hx hb dX2_readWord_4 rfl hl (by decide) rfl (fun ls hl => ?_)
  refine lv_aload_n hx hb dX2_readWord_5 rfl (lv_at hl 1 rfl) ?_
  refine va_get (D := g.1) (cl := vwCl) (ci := 2) (v := .ref p_) (C := RX2) (T := TX2) (N := 4) hx hb hts hX2_readWord_X2 hown hK hP 0 rfl rfl 1 (by decide) (hts _ kX2_readWord_f23) (fun _ h9 => h9) rfl dX2_readWord_6 ?_
  refine va_get (D := g.1) (cl := vwCl) (ci := 1) (v := .int (nI (ds 3))) (C := RX1) (T := TX1) (N := 10) hx hb hts hX2_readWord_X1 hown hK hP 3 rfl rfl 8 (by decide) (hts _ kX2_readWord_f101) (fun _ h9 => h9) rfl dX2_readWord_9 ?_
  refine lv_bipush (v := nI 6) hx hb dX2_readWord_12 (by decide) ?_
  refine lv_icmp_ge (tgt := 28) hx hb dX2_readWord_14 (by decide) (fun c_3 => ?_) (fun c_3 => ?_)
  · replace c_3 : 6 ≤ (ds 3) := (nI_leI (a := 6) (b := ds 3) (by omega) (by omega)).mp c_3
    refine lv_iconst (v := nI 0) hx hb dX2_readWord_28 (by decide) ?_
    exact hret (nI 0) (false, nuP tx len pl, da, ds) H locs 29 ls (⟨rfl, by simp [RR, rdW, c_3], ⟨nuP_le hpl, hPe, hT, hD5, hW⟩⟩) (hP) (hD) hS (rfl) dX2_readWord_29
  · replace c_3 : ¬ 6 ≤ (ds 3) := fun h => c_3 ((nI_leI (a := 6) (b := ds 3) (by omega) (by omega)).mpr h)
    refine lv_iload_n hx hb dX2_readWord_17 rfl (lv_at hl 0 rfl) ?_
    refine lv_iconst (v := nI 1) hx hb dX2_readWord_18 (by decide) ?_
    refine lv_icmp_lt (tgt := 28) hx hb dX2_readWord_19 (by decide) (fun c_4 => ?_) (fun c_4 => ?_)
    · refine lv_iconst (v := nI 0) hx hb dX2_readWord_28 (by decide) ?_
      exact hret (nI 0) (false, nuP tx len pl, da, ds) H locs 29 ls (⟨rfl, by simp [RR, rdW, c_3, c_4], ⟨nuP_le hpl, hPe, hT, hD5, hW⟩⟩) (hP) (hD) hS (rfl) dX2_readWord_29
    · refine lv_iload_n hx hb dX2_readWord_22 rfl (lv_at hl 0 rfl) ?_
      refine lv_bipush (v := nI 60) hx hb dX2_readWord_23 (by decide) ?_
      refine lv_icmp_le (tgt := 30) hx hb dX2_readWord_25 (by decide) (fun c_5 => ?_) (fun c_5 => ?_)
      · refine lv_aload_n hx hb dX2_readWord_30 rfl (lv_at hl 1 rfl) ?_
        refine va_get (D := g.1) (cl := vwCl) (ci := 2) (v := .ref p_) (C := RX2) (T := TX2) (N := 4) hx hb hts hX2_readWord_X2 hown hK hP 0 rfl rfl 1 (by decide) (hts _ kX2_readWord_f23) (fun _ h9 => h9) rfl dX2_readWord_31 ?_
        refine va_get (D := g.1) (cl := vwCl) (ci := 1) (v := .ref q4) (C := RX1) (T := TX1) (N := 10) hx hb hts hX2_readWord_X1 hown hK hP 3 rfl rfl 4 (by decide) (hts _ kX2_readWord_f104) (fun _ h9 => h9) rfl dX2_readWord_34 ?_
        refine lv_aload_n hx hb dX2_readWord_37 rfl (lv_at hl 1 rfl) ?_
        refine va_get (D := g.1) (cl := vwCl) (ci := 2) (v := .ref p_) (C := RX2) (T := TX2) (N := 4) hx hb hts hX2_readWord_X2 hown hK hP 0 rfl rfl 1 (by decide) (hts _ kX2_readWord_f23) (fun _ h9 => h9) rfl dX2_readWord_38 ?_
        refine va_get (D := g.1) (cl := vwCl) (ci := 1) (v := .int (nI (ds 3))) (C := RX1) (T := TX1) (N := 10) hx hb hts hX2_readWord_X1 hown hK hP 3 rfl rfl 8 (by decide) (hts _ kX2_readWord_f101) (fun _ h9 => h9) rfl dX2_readWord_41 ?_
        refine lv_iload_n hx hb dX2_readWord_44 rfl (lv_at hl 0 rfl) ?_
        refine ast_i (D := g.1) (cl := vwCl) (f := da 4) (i := ds 3) (n := 6) (x := nuV tx len pl) hx hb hK hP hD hS 8 0 rfl rfl (by omega) (by decide) dX2_readWord_45 (fun H locs hP hD hS => ?_)
        obtain ⟨hP, hD⟩ := re2 [(rd, .inr (2, [.ref lt, .ref p_, .int (nI (nuP tx len pl)), .int (nI oc)])), (lt, .inr (0, [.ref sg, .int (nI len)])), (sg, .inl (g.2.2.1, 200, .inl tx)), (p_, .inr (1, [.ref q0, .ref q1, .ref q2, .ref q3, .ref q4, .int (nI (ds 0)), .int (nI (ds 1)), .int (nI (ds 2)), .int (nI (ds 3)), .int (nI (ds 4))])), (q0, .inl (g.2.1, 8, .inl (da 0))), (q1, .inl (g.2.1, 64, .inl (da 1))), (q2, .inl (g.2.1, 5, .inl (da 2))), (q3, .inl (g.2.1, 5, .inl (da 3))), (q4, .inl (g.2.1, 6, .inl (upd (da 4) (ds 3) (nuV tx len pl))))] hP hD rfl
        refine lv_aload_n hx hb dX2_readWord_46 rfl (lv_at hl 1 rfl) ?_
        refine va_get (D := g.1) (cl := vwCl) (ci := 2) (v := .ref p_) (C := RX2) (T := TX2) (N := 4) hx hb hts hX2_readWord_X2 hown hK hP 0 rfl rfl 1 (by decide) (hts _ kX2_readWord_f23) (fun _ h9 => h9) rfl dX2_readWord_47 ?_
        refine lv_dup hx hb dX2_readWord_50 rfl ?_
        refine va_get (D := g.1) (cl := vwCl) (ci := 1) (v := .int (nI (ds 3))) (C := RX1) (T := TX1) (N := 10) hx hb hts hX2_readWord_X1 hown hK hP 3 rfl rfl 8 (by decide) (hts _ kX2_readWord_f101) (fun _ h9 => h9) rfl dX2_readWord_51 ?_
        refine lv_iconst (v := nI 1) hx hb dX2_readWord_54 (by decide) ?_
        refine lv_iadd hx hb dX2_readWord_55 ?_
        refine lv_is (nI_add (ds 3) 1) ?_
        refine va_put (D := g.1) (cl := vwCl) (ci := 1) (v := .int (nI ((ds 3) + 1))) (ty := .int) (C := RX1) (T := TX1) (N := 10) hx hb hts hX2_readWord_X1 tyX1 tyX1_ok nmX1 hown hK hP hD hS 3 rfl rfl 8 (by decide) (hts _ kX2_readWord_f101) (fun _ h9 => h9) rfl (by decide +kernel) (rfl) (rfl) (Nat.le_of_ble_eq_true rfl) dX2_readWord_56 (fun H locs hP hD hS => ?_)
        obtain ⟨hP, hD⟩ := re2 [(rd, .inr (2, [.ref lt, .ref p_, .int (nI (nuP tx len pl)), .int (nI oc)])), (lt, .inr (0, [.ref sg, .int (nI len)])), (sg, .inl (g.2.2.1, 200, .inl tx)), (p_, .inr (1, [.ref q0, .ref q1, .ref q2, .ref q3, .ref q4, .int (nI (ds 0)), .int (nI (ds 1)), .int (nI (ds 2)), .int (nI ((ds 3) + 1)), .int (nI (ds 4))])), (q0, .inl (g.2.1, 8, .inl (da 0))), (q1, .inl (g.2.1, 64, .inl (da 1))), (q2, .inl (g.2.1, 5, .inl (da 2))), (q3, .inl (g.2.1, 5, .inl (da 3))), (q4, .inl (g.2.1, 6, .inl (upd (da 4) (ds 3) (nuV tx len pl))))] hP hD rfl
        refine lv_iconst (v := nI 1) hx hb dX2_readWord_59 (by decide) ?_
        exact hret (nI 1) (true, nuP tx len pl, (upA da 4 (upd (da 4) (ds 3) (nuV tx len pl))), (updN ds 3 ((ds 3) + 1))) H locs 60 ls (⟨rfl, by simp [RR, rdW, c_3, c_4, c_5], ⟨nuP_le hpl, hPe, hT, hD5, show ds 3 + 1 ≤ 6 by omega⟩⟩) (hP) (hD) hS (rfl) dX2_readWord_60
      · refine lv_iconst (v := nI 0) hx hb dX2_readWord_28 (by decide) ?_
        exact hret (nI 0) (false, nuP tx len pl, da, ds) H locs 29 ls (⟨rfl, by simp [RR, rdW, c_3, c_4, c_5], ⟨nuP_le hpl, hPe, hT, hD5, hW⟩⟩) (hP) (hD) hS (rfl) dX2_readWord_29
theorem kX2_readLimit_f23 : (Cond.fieldLink RX2 23 "LastCallersWord$Reader" "plan" "LLastCallersWord$Plan;" : Cond) ∈ wsX2_readLimit := List.mem_cons_of_mem _ aw_67
theorem hX2_readLimit_X2 : ∀ w ∈ wsX20, w ∈ wsX2_readLimit := fun w h => List.mem_cons_of_mem _ (ac_X2 w h)
theorem kX2_readLimit_f107 : (Cond.fieldLink RX2 107 "LastCallersWord$Plan" "limit" "I" : Cond) ∈ wsX2_readLimit := List.mem_cons_of_mem _ aw_217
theorem hX2_readLimit_X1 : ∀ w ∈ wsX10, w ∈ wsX2_readLimit := fun w h => List.mem_cons_of_mem _ (ac_X1 w h)
set_option maxHeartbeats 4000000 in
set_option maxRecDepth 100000 in
theorem c_X2_readLimit (l : Launch) (g : GG) (rd : Nat) (p_ : Nat) (pl : Nat) (oc : Nat) (lt : Nat) (sg : Nat) (len : Nat) (tx : Nat → Int32) (q0 : Nat) (q1 : Nat) (q2 : Nat) (q3 : Nat) (q4 : Nat) (da : Nat → Nat → Int32) (ds : Nat → Nat) (hlen : len ≤ 200) (hsg : ∀ k, narrow .char (.int (tx k)) = .int (tx k)) (hpl : pl ≤ len) (hPe : ds 0 ≤ 8) (hT : ds 1 ≤ 8) (hD5 : ds 2 ≤ 5) (hW : ds 3 ≤ 6) : Met l yX2_readLimit wsX2_readLimit ({ frames := 3, cells := 0, slots := 0, locals := 64 } : Room) (wr g [.ref rd] [(rd, .inr (2, [.ref lt, .ref p_, .int (nI pl), .int (nI oc)])), (lt, .inr (0, [.ref sg, .int (nI len)])), (sg, .inl (g.2.2.1, 200, .inl tx)), (p_, .inr (1, [.ref q0, .ref q1, .ref q2, .ref q3, .ref q4, .int (nI (ds 0)), .int (nI (ds 1)), .int (nI (ds 2)), .int (nI (ds 3)), .int (nI (ds 4))])), (q0, .inl (g.2.1, 8, .inl (da 0))), (q1, .inl (g.2.1, 64, .inl (da 1))), (q2, .inl (g.2.1, 5, .inl (da 2))), (q3, .inl (g.2.1, 5, .inl (da 3))), (q4, .inl (g.2.1, 6, .inl (da 4)))]) (wQi g [(rd, .inr (2, [.ref lt, .ref p_, .int (nI pl), .int (nI oc)])), (lt, .inr (0, [.ref sg, .int (nI len)])), (sg, .inl (g.2.2.1, 200, .inl tx)), (p_, .inr (1, [.ref q0, .ref q1, .ref q2, .ref q3, .ref q4, .int (nI (ds 0)), .int (nI (ds 1)), .int (nI (ds 2)), .int (nI (ds 3)), .int (nI (ds 4))])), (q0, .inl (g.2.1, 8, .inl (da 0))), (q1, .inl (g.2.1, 64, .inl (da 1))), (q2, .inl (g.2.1, 5, .inl (da 2))), (q3, .inl (g.2.1, 5, .inl (da 3))), (q4, .inl (g.2.1, 6, .inl (da 4)))] (fun u : Bool × Nat × DV => [(rd, .inr (2, [.ref lt, .ref p_, .int (nI u.2.1), .int (nI oc)])), (lt, .inr (0, [.ref sg, .int (nI len)])), (sg, .inl (g.2.2.1, 200, .inl tx)), (p_, .inr (1, [.ref q0, .ref q1, .ref q2, .ref q3, .ref q4, .int (nI (u.2.2.2 0)), .int (nI (u.2.2.2 1)), .int (nI (u.2.2.2 2)), .int (nI (u.2.2.2 3)), .int (nI (u.2.2.2 4))])), (q0, .inl (g.2.1, 8, .inl (u.2.2.1 0))), (q1, .inl (g.2.1, 64, .inl (u.2.2.1 1))), (q2, .inl (g.2.1, 5, .inl (u.2.2.1 2))), (q3, .inl (g.2.1, 5, .inl (u.2.2.1 3))), (q4, .inl (g.2.1, 6, .inl (u.2.2.1 4)))]) (fun rr u => rr = bI u.1 ∧ RR u.1 u.2 (rdB tx len pl (da, ds)) ∧ OKD len u.2)) 0 0 (cA [(rd, .inr (2, [.ref lt, .ref p_, .int (nI pl), .int (nI oc)])), (lt, .inr (0, [.ref sg, .int (nI len)])), (sg, .inl (g.2.2.1, 200, .inl tx)), (p_, .inr (1, [.ref q0, .ref q1, .ref q2, .ref q3, .ref q4, .int (nI (ds 0)), .int (nI (ds 1)), .int (nI (ds 2)), .int (nI (ds 3)), .int (nI (ds 4))])), (q0, .inl (g.2.1, 8, .inl (da 0))), (q1, .inl (g.2.1, 64, .inl (da 1))), (q2, .inl (g.2.1, 5, .inl (da 2))), (q3, .inl (g.2.1, 5, .inl (da 3))), (q4, .inl (g.2.1, 6, .inl (da 4)))]) := by
  refine wr_starti (cc := cX2_readLimit) (maxL := 2) (ty := .boolean) (by decide) rfl (Nat.le_of_ble_eq_true rfl) (fun p e s m args below meth c Q A C hP hD hS hret ls hl => ?_)
  obtain ⟨hx, hb, hml, hr, hown, hts, hlk, hKK⟩ := id C
  have hK := hKK.1
  have hown : s.vm.findClass RX2 = some m.cls := hown
  have ctx : CallFix p m c cX2_readLimit 2 s args wsX2_readLimit RX2 := ⟨hx, hb, hml, hown, hts⟩
  have hl : lv_has ls 2 [(0, .ref rd)] := hl
  obtain ⟨H, hHe⟩ : ∃ H, H = s.heap := ⟨_, rfl⟩
  obtain ⟨locs, hLe⟩ : ∃ L : List Loc, L = [] := ⟨_, rfl⟩
  have hP : va_P g.1 vwCl [(rd, .inr (2, [.ref lt, .ref p_, .int (nI pl), .int (nI oc)])), (lt, .inr (0, [.ref sg, .int (nI len)])), (sg, .inl (g.2.2.1, 200, .inl tx)), (p_, .inr (1, [.ref q0, .ref q1, .ref q2, .ref q3, .ref q4, .int (nI (ds 0)), .int (nI (ds 1)), .int (nI (ds 2)), .int (nI (ds 3)), .int (nI (ds 4))])), (q0, .inl (g.2.1, 8, .inl (da 0))), (q1, .inl (g.2.1, 64, .inl (da 1))), (q2, .inl (g.2.1, 5, .inl (da 2))), (q3, .inl (g.2.1, 5, .inl (da 3))), (q4, .inl (g.2.1, 6, .inl (da 4)))] H := by rw [hHe]; exact hP
  have hS : va_S A s.heap H locs := by rw [hHe, hLe]; exact hS
  suffices hgo : W p l e ({ frames := 3, cells := 0, slots := 0, locals := 64 } : Room) s m args below meth c H locs 0 0 Q (F0 m 0 ls []) by rw [hHe, hLe] at hgo; exact hgo
  clear hHe hLe
  refine lv_aload_n hx hb dX2_readLimit_0 rfl (lv_at hl 0 rfl) ?_
  refine wr_callVi (As := []) (rest := []) (b := rd) ctx hKK hP hD hS (c_X2_number l g rd p_ pl oc lt sg len tx (by omega) (hsg) (by omega)) gX2_readLimit_X2_number rfl rfl rfl hdX2_number ⟨Nat.le_of_ble_eq_true rfl, Nat.le_of_ble_eq_true rfl⟩ [0, 1, 2] rfl rfl (fun _ _ _ => rfl) (ci := 2) (q0 := 0) rfl rfl hl.1 rfl rfl (Nat.le_of_ble_eq_true rfl) dX2_readLimit_1 (fun r_1 u_2 H locs hr_1 hP hD hS => ?_)
  have hP : va_P g.1 vwCl [(rd, .inr (2, [.ref lt, .ref p_, .int (nI (nuP tx len pl)), .int (nI oc)])), (lt, .inr (0, [.ref sg, .int (nI len)])), (sg, .inl (g.2.2.1, 200, .inl tx)), (p_, .inr (1, [.ref q0, .ref q1, .ref q2, .ref q3, .ref q4, .int (nI (ds 0)), .int (nI (ds 1)), .int (nI (ds 2)), .int (nI (ds 3)), .int (nI (ds 4))])), (q0, .inl (g.2.1, 8, .inl (da 0))), (q1, .inl (g.2.1, 64, .inl (da 1))), (q2, .inl (g.2.1, 5, .inl (da 2))), (q3, .inl (g.2.1, 5, .inl (da 3))), (q4, .inl (g.2.1, 6, .inl (da 4)))] H := hP
  have hD : va_D A [(rd, .inr (2, [.ref lt, .ref p_, .int (nI (nuP tx len pl)), .int (nI oc)])), (lt, .inr (0, [.ref sg, .int (nI len)])), (sg, .inl (g.2.2.1, 200, .inl tx)), (p_, .inr (1, [.ref q0, .ref q1, .ref q2, .ref q3, .ref q4, .int (nI (ds 0)), .int (nI (ds 1)), .int (nI (ds 2)), .int (nI (ds 3)), .int (nI (ds 4))])), (q0, .inl (g.2.1, 8, .inl (da 0))), (q1, .inl (g.2.1, 64, .inl (da 1))), (q2, .inl (g.2.1, 5, .inl (da 2))), (q3, .inl (g.2.1, 5, .inl (da 3))), (q4, .inl (g.2.1, 6, .inl (da 4)))] := hD
  subst hr_1
  refine lv_istore_n (lv' := [(1, .int (nuV tx len pl)), (0, .ref rd)]) hx hb dX2_readLimit_4 rfl hl (by decide) rfl (fun ls hl => ?_)
  refine lv_iload_n hx hb dX2_readLimit_5 rfl (lv_at hl 0 rfl) ?_
  refine lv_iconst (v := nI 1) hx hb dX2_readLimit_6 (by decide) ?_
  refine lv_icmp_lt (tgt := 16) hx hb dX2_readLimit_7 (by decide) (fun c_3 => ?_) (fun c_3 => ?_)
  · refine lv_iconst (v := nI 0) hx hb dX2_readLimit_16 (by decide) ?_
    exact hret (nI 0) (false, nuP tx len pl, da, ds) H locs 17 ls (⟨rfl, by simp [RR, rdB, c_3], ⟨nuP_le hpl, hPe, hT, hD5, hW⟩⟩) (hP) (hD) hS (rfl) dX2_readLimit_17
  · refine lv_iload_n hx hb dX2_readLimit_10 rfl (lv_at hl 0 rfl) ?_
    refine lv_bipush (v := nI 9) hx hb dX2_readLimit_11 (by decide) ?_
    refine lv_icmp_le (tgt := 18) hx hb dX2_readLimit_13 (by decide) (fun c_4 => ?_) (fun c_4 => ?_)
    · refine lv_aload_n hx hb dX2_readLimit_18 rfl (lv_at hl 1 rfl) ?_
      refine va_get (D := g.1) (cl := vwCl) (ci := 2) (v := .ref p_) (C := RX2) (T := TX2) (N := 4) hx hb hts hX2_readLimit_X2 hown hK hP 0 rfl rfl 1 (by decide) (hts _ kX2_readLimit_f23) (fun _ h9 => h9) rfl dX2_readLimit_19 ?_
      refine lv_iload_n hx hb dX2_readLimit_22 rfl (lv_at hl 0 rfl) ?_
      refine lv_is (nI_cl (pos_of_lt (k := 1) (by decide) (by assumption))) ?_
      refine va_put (D := g.1) (cl := vwCl) (ci := 1) (v := .int (nI ((nuV tx len pl).toNatClampNeg))) (ty := .int) (C := RX1) (T := TX1) (N := 10) hx hb hts hX2_readLimit_X1 tyX1 tyX1_ok nmX1 hown hK hP hD hS 3 rfl rfl 9 (by decide) (hts _ kX2_readLimit_f107) (fun _ h9 => h9) rfl (by decide +kernel) (rfl) (rfl) (Nat.le_of_ble_eq_true rfl) dX2_readLimit_23 (fun H locs hP hD hS => ?_)
      obtain ⟨hP, hD⟩ := re2 [(rd, .inr (2, [.ref lt, .ref p_, .int (nI (nuP tx len pl)), .int (nI oc)])), (lt, .inr (0, [.ref sg, .int (nI len)])), (sg, .inl (g.2.2.1, 200, .inl tx)), (p_, .inr (1, [.ref q0, .ref q1, .ref q2, .ref q3, .ref q4, .int (nI (ds 0)), .int (nI (ds 1)), .int (nI (ds 2)), .int (nI (ds 3)), .int (nI ((nuV tx len pl).toNatClampNeg))])), (q0, .inl (g.2.1, 8, .inl (da 0))), (q1, .inl (g.2.1, 64, .inl (da 1))), (q2, .inl (g.2.1, 5, .inl (da 2))), (q3, .inl (g.2.1, 5, .inl (da 3))), (q4, .inl (g.2.1, 6, .inl (da 4)))] hP hD rfl
      refine lv_iconst (v := nI 1) hx hb dX2_readLimit_26 (by decide) ?_
      exact hret (nI 1) (true, nuP tx len pl, da, (updN ds 4 ((nuV tx len pl).toNatClampNeg))) H locs 27 ls (⟨rfl, by simp [RR, rdB, c_3, c_4], ⟨nuP_le hpl, hPe, hT, hD5, hW⟩⟩) (hP) (hD) hS (rfl) dX2_readLimit_27
    · refine lv_iconst (v := nI 0) hx hb dX2_readLimit_16 (by decide) ?_
      exact hret (nI 0) (false, nuP tx len pl, da, ds) H locs 17 ls (⟨rfl, by simp [RR, rdB, c_3, c_4], ⟨nuP_le hpl, hPe, hT, hD5, hW⟩⟩) (hP) (hD) hS (rfl) dX2_readLimit_17
theorem kX2_readDoor_f23 : (Cond.fieldLink RX2 23 "LastCallersWord$Reader" "plan" "LLastCallersWord$Plan;" : Cond) ∈ wsX2_readDoor := List.mem_cons_of_mem _ aw_67
theorem hX2_readDoor_X2 : ∀ w ∈ wsX20, w ∈ wsX2_readDoor := fun w h => List.mem_cons_of_mem _ (ac_X2 w h)
theorem kX2_readDoor_f88 : (Cond.fieldLink RX2 88 "LastCallersWord$Plan" "doors" "I" : Cond) ∈ wsX2_readDoor := List.mem_cons_of_mem _ aw_196
theorem hX2_readDoor_X1 : ∀ w ∈ wsX10, w ∈ wsX2_readDoor := fun w h => List.mem_cons_of_mem _ (ac_X1 w h)
theorem kX2_readDoor_f95 : (Cond.fieldLink RX2 95 "LastCallersWord$Plan" "hosts" "[I" : Cond) ∈ wsX2_readDoor := List.mem_cons_of_mem _ aw_197
theorem kX2_readDoor_f98 : (Cond.fieldLink RX2 98 "LastCallersWord$Plan" "callers" "[I" : Cond) ∈ wsX2_readDoor := List.mem_cons_of_mem _ aw_198
set_option maxHeartbeats 4000000 in
set_option maxRecDepth 100000 in
theorem c_X2_readDoor (l : Launch) (g : GG) (rd : Nat) (p_ : Nat) (pl : Nat) (oc : Nat) (lt : Nat) (sg : Nat) (len : Nat) (tx : Nat → Int32) (q0 : Nat) (q1 : Nat) (q2 : Nat) (q3 : Nat) (q4 : Nat) (da : Nat → Nat → Int32) (ds : Nat → Nat) (hlen : len ≤ 200) (hsg : ∀ k, narrow .char (.int (tx k)) = .int (tx k)) (hpl : pl ≤ len) (hPe : ds 0 ≤ 8) (hT : ds 1 ≤ 8) (hD5 : ds 2 ≤ 5) (hW : ds 3 ≤ 6) : Met l yX2_readDoor wsX2_readDoor ({ frames := 3, cells := 0, slots := 0, locals := 64 } : Room) (wr g [.ref rd] [(rd, .inr (2, [.ref lt, .ref p_, .int (nI pl), .int (nI oc)])), (lt, .inr (0, [.ref sg, .int (nI len)])), (sg, .inl (g.2.2.1, 200, .inl tx)), (p_, .inr (1, [.ref q0, .ref q1, .ref q2, .ref q3, .ref q4, .int (nI (ds 0)), .int (nI (ds 1)), .int (nI (ds 2)), .int (nI (ds 3)), .int (nI (ds 4))])), (q0, .inl (g.2.1, 8, .inl (da 0))), (q1, .inl (g.2.1, 64, .inl (da 1))), (q2, .inl (g.2.1, 5, .inl (da 2))), (q3, .inl (g.2.1, 5, .inl (da 3))), (q4, .inl (g.2.1, 6, .inl (da 4)))]) (wQi g [(rd, .inr (2, [.ref lt, .ref p_, .int (nI pl), .int (nI oc)])), (lt, .inr (0, [.ref sg, .int (nI len)])), (sg, .inl (g.2.2.1, 200, .inl tx)), (p_, .inr (1, [.ref q0, .ref q1, .ref q2, .ref q3, .ref q4, .int (nI (ds 0)), .int (nI (ds 1)), .int (nI (ds 2)), .int (nI (ds 3)), .int (nI (ds 4))])), (q0, .inl (g.2.1, 8, .inl (da 0))), (q1, .inl (g.2.1, 64, .inl (da 1))), (q2, .inl (g.2.1, 5, .inl (da 2))), (q3, .inl (g.2.1, 5, .inl (da 3))), (q4, .inl (g.2.1, 6, .inl (da 4)))] (fun u : Bool × Nat × DV => [(rd, .inr (2, [.ref lt, .ref p_, .int (nI u.2.1), .int (nI oc)])), (lt, .inr (0, [.ref sg, .int (nI len)])), (sg, .inl (g.2.2.1, 200, .inl tx)), (p_, .inr (1, [.ref q0, .ref q1, .ref q2, .ref q3, .ref q4, .int (nI (u.2.2.2 0)), .int (nI (u.2.2.2 1)), .int (nI (u.2.2.2 2)), .int (nI (u.2.2.2 3)), .int (nI (u.2.2.2 4))])), (q0, .inl (g.2.1, 8, .inl (u.2.2.1 0))), (q1, .inl (g.2.1, 64, .inl (u.2.2.1 1))), (q2, .inl (g.2.1, 5, .inl (u.2.2.1 2))), (q3, .inl (g.2.1, 5, .inl (u.2.2.1 3))), (q4, .inl (g.2.1, 6, .inl (u.2.2.1 4)))]) (fun rr u => rr = bI u.1 ∧ RR u.1 u.2 (rdD tx len pl (da, ds)) ∧ OKD len u.2)) 0 0 (cA [(rd, .inr (2, [.ref lt, .ref p_, .int (nI pl), .int (nI oc)])), (lt, .inr (0, [.ref sg, .int (nI len)])), (sg, .inl (g.2.2.1, 200, .inl tx)), (p_, .inr (1, [.ref q0, .ref q1, .ref q2, .ref q3, .ref q4, .int (nI (ds 0)), .int (nI (ds 1)), .int (nI (ds 2)), .int (nI (ds 3)), .int (nI (ds 4))])), (q0, .inl (g.2.1, 8, .inl (da 0))), (q1, .inl (g.2.1, 64, .inl (da 1))), (q2, .inl (g.2.1, 5, .inl (da 2))), (q3, .inl (g.2.1, 5, .inl (da 3))), (q4, .inl (g.2.1, 6, .inl (da 4)))]) := by
  refine wr_starti (cc := cX2_readDoor) (maxL := 3) (ty := .boolean) (by decide) rfl (Nat.le_of_ble_eq_true rfl) (fun p e s m args below meth c Q A C hP hD hS hret ls hl => ?_)
  obtain ⟨hx, hb, hml, hr, hown, hts, hlk, hKK⟩ := id C
  have hK := hKK.1
  have hown : s.vm.findClass RX2 = some m.cls := hown
  have ctx : CallFix p m c cX2_readDoor 3 s args wsX2_readDoor RX2 := ⟨hx, hb, hml, hown, hts⟩
  have hl : lv_has ls 3 [(0, .ref rd)] := hl
  obtain ⟨H, hHe⟩ : ∃ H, H = s.heap := ⟨_, rfl⟩
  obtain ⟨locs, hLe⟩ : ∃ L : List Loc, L = [] := ⟨_, rfl⟩
  have hP : va_P g.1 vwCl [(rd, .inr (2, [.ref lt, .ref p_, .int (nI pl), .int (nI oc)])), (lt, .inr (0, [.ref sg, .int (nI len)])), (sg, .inl (g.2.2.1, 200, .inl tx)), (p_, .inr (1, [.ref q0, .ref q1, .ref q2, .ref q3, .ref q4, .int (nI (ds 0)), .int (nI (ds 1)), .int (nI (ds 2)), .int (nI (ds 3)), .int (nI (ds 4))])), (q0, .inl (g.2.1, 8, .inl (da 0))), (q1, .inl (g.2.1, 64, .inl (da 1))), (q2, .inl (g.2.1, 5, .inl (da 2))), (q3, .inl (g.2.1, 5, .inl (da 3))), (q4, .inl (g.2.1, 6, .inl (da 4)))] H := by rw [hHe]; exact hP
  have hS : va_S A s.heap H locs := by rw [hHe, hLe]; exact hS
  suffices hgo : W p l e ({ frames := 3, cells := 0, slots := 0, locals := 64 } : Room) s m args below meth c H locs 0 0 Q (F0 m 0 ls []) by rw [hHe, hLe] at hgo; exact hgo
  clear hHe hLe
  refine lv_aload_n hx hb dX2_readDoor_0 rfl (lv_at hl 0 rfl) ?_
  refine wr_callVi (As := []) (rest := []) (b := rd) ctx hKK hP hD hS (c_X2_number l g rd p_ pl oc lt sg len tx (by omega) (hsg) (by omega)) gX2_readDoor_X2_number rfl rfl rfl hdX2_number ⟨Nat.le_of_ble_eq_true rfl, Nat.le_of_ble_eq_true rfl⟩ [0, 1, 2] rfl rfl (fun _ _ _ => rfl) (ci := 2) (q0 := 0) rfl rfl hl.1 rfl rfl (Nat.le_of_ble_eq_true rfl) dX2_readDoor_1 (fun r_1 u_2 H locs hr_1 hP hD hS => ?_)
  have hP : va_P g.1 vwCl [(rd, .inr (2, [.ref lt, .ref p_, .int (nI (nuP tx len pl)), .int (nI oc)])), (lt, .inr (0, [.ref sg, .int (nI len)])), (sg, .inl (g.2.2.1, 200, .inl tx)), (p_, .inr (1, [.ref q0, .ref q1, .ref q2, .ref q3, .ref q4, .int (nI (ds 0)), .int (nI (ds 1)), .int (nI (ds 2)), .int (nI (ds 3)), .int (nI (ds 4))])), (q0, .inl (g.2.1, 8, .inl (da 0))), (q1, .inl (g.2.1, 64, .inl (da 1))), (q2, .inl (g.2.1, 5, .inl (da 2))), (q3, .inl (g.2.1, 5, .inl (da 3))), (q4, .inl (g.2.1, 6, .inl (da 4)))] H := hP
  have hD : va_D A [(rd, .inr (2, [.ref lt, .ref p_, .int (nI (nuP tx len pl)), .int (nI oc)])), (lt, .inr (0, [.ref sg, .int (nI len)])), (sg, .inl (g.2.2.1, 200, .inl tx)), (p_, .inr (1, [.ref q0, .ref q1, .ref q2, .ref q3, .ref q4, .int (nI (ds 0)), .int (nI (ds 1)), .int (nI (ds 2)), .int (nI (ds 3)), .int (nI (ds 4))])), (q0, .inl (g.2.1, 8, .inl (da 0))), (q1, .inl (g.2.1, 64, .inl (da 1))), (q2, .inl (g.2.1, 5, .inl (da 2))), (q3, .inl (g.2.1, 5, .inl (da 3))), (q4, .inl (g.2.1, 6, .inl (da 4)))] := hD
  subst hr_1
  refine lv_istore_n (lv' := [(1, .int (nuV tx len pl)), (0, .ref rd)]) hx hb dX2_readDoor_4 rfl hl (by decide) rfl (fun ls hl => ?_)
  refine lv_aload_n hx hb dX2_readDoor_5 rfl (lv_at hl 1 rfl) ?_
  refine lv_bipush (v := nI 44) hx hb dX2_readDoor_6 (by decide) ?_
  refine wr_callVi (As := [.int (nI 44)]) (rest := []) (b := rd) ctx hKK hP hD hS (c_X2_take l g rd p_ (nuP tx len pl) oc lt sg len tx (nI 44) (by omega) (hsg) (nuP_le hpl)) gX2_readDoor_X2_take rfl rfl rfl hdX2_take ⟨Nat.le_of_ble_eq_true rfl, Nat.le_of_ble_eq_true rfl⟩ [0, 1, 2] rfl rfl (fun _ _ _ => rfl) (ci := 2) (q0 := 0) rfl rfl hl.1 rfl rfl (Nat.le_of_ble_eq_true rfl) dX2_readDoor_8 (fun r_3 u_4 H locs hr_3 hP hD hS => ?_)
  obtain ⟨hP, hD⟩ := re2 [(rd, .inr (2, [.ref lt, .ref p_, .int (nI (if tkB tx len (nuP tx len pl) (nI 44) = true then (nuP tx len pl) + 1 else (nuP tx len pl))), .int (nI oc)])), (lt, .inr (0, [.ref sg, .int (nI len)])), (sg, .inl (g.2.2.1, 200, .inl tx)), (p_, .inr (1, [.ref q0, .ref q1, .ref q2, .ref q3, .ref q4, .int (nI (ds 0)), .int (nI (ds 1)), .int (nI (ds 2)), .int (nI (ds 3)), .int (nI (ds 4))])), (q0, .inl (g.2.1, 8, .inl (da 0))), (q1, .inl (g.2.1, 64, .inl (da 1))), (q2, .inl (g.2.1, 5, .inl (da 2))), (q3, .inl (g.2.1, 5, .inl (da 3))), (q4, .inl (g.2.1, 6, .inl (da 4)))] hP hD rfl
  subst hr_3
  refine lv_if_ne (tgt := 16) hx hb dX2_readDoor_11 (by decide) (fun c_5 => ?_) (fun c_5 => ?_)
  · replace c_5 := bI_t c_5
    rw [if_pos c_5] at hP hD
    refine lv_aload_n hx hb dX2_readDoor_16 rfl (lv_at hl 1 rfl) ?_
    refine wr_callVi (As := []) (rest := []) (b := rd) ctx hKK hP hD hS (c_X2_number l g rd p_ ((nuP tx len pl) + 1) oc lt sg len tx (by omega) (hsg) (by have := tkB_lt c_5 (by decide); omega)) gX2_readDoor_X2_number rfl rfl rfl hdX2_number ⟨Nat.le_of_ble_eq_true rfl, Nat.le_of_ble_eq_true rfl⟩ [0, 1, 2] rfl rfl (fun _ _ _ => rfl) (ci := 2) (q0 := 0) rfl rfl hl.1 rfl rfl (Nat.le_of_ble_eq_true rfl) dX2_readDoor_17 (fun r_6 u_7 H locs hr_6 hP hD hS => ?_)
    obtain ⟨hP, hD⟩ := re2 [(rd, .inr (2, [.ref lt, .ref p_, .int (nI (nuP tx len ((nuP tx len pl) + 1))), .int (nI oc)])), (lt, .inr (0, [.ref sg, .int (nI len)])), (sg, .inl (g.2.2.1, 200, .inl tx)), (p_, .inr (1, [.ref q0, .ref q1, .ref q2, .ref q3, .ref q4, .int (nI (ds 0)), .int (nI (ds 1)), .int (nI (ds 2)), .int (nI (ds 3)), .int (nI (ds 4))])), (q0, .inl (g.2.1, 8, .inl (da 0))), (q1, .inl (g.2.1, 64, .inl (da 1))), (q2, .inl (g.2.1, 5, .inl (da 2))), (q3, .inl (g.2.1, 5, .inl (da 3))), (q4, .inl (g.2.1, 6, .inl (da 4)))] hP hD rfl
    subst hr_6
    refine lv_istore_n (lv' := [(2, .int (nuV tx len ((nuP tx len pl) + 1))), (1, .int (nuV tx len pl)), (0, .ref rd)]) hx hb dX2_readDoor_20 rfl hl (by decide) rfl (fun ls hl => ?_)
    refine lv_aload_n hx hb dX2_readDoor_21 rfl (lv_at hl 2 rfl) ?_
    refine va_get (D := g.1) (cl := vwCl) (ci := 2) (v := .ref p_) (C := RX2) (T := TX2) (N := 4) hx hb hts hX2_readDoor_X2 hown hK hP 0 rfl rfl 1 (by decide) (hts _ kX2_readDoor_f23) (fun _ h9 => h9) rfl dX2_readDoor_22 ?_
    refine va_get (D := g.1) (cl := vwCl) (ci := 1) (v := .int (nI (ds 2))) (C := RX1) (T := TX1) (N := 10) hx hb hts hX2_readDoor_X1 hown hK hP 3 rfl rfl 7 (by decide) (hts _ kX2_readDoor_f88) (fun _ h9 => h9) rfl dX2_readDoor_25 ?_
    refine lv_iconst (v := nI 5) hx hb dX2_readDoor_28 (by decide) ?_
    refine lv_icmp_ge (tgt := 48) hx hb dX2_readDoor_29 (by decide) (fun c_8 => ?_) (fun c_8 => ?_)
    · replace c_8 : 5 ≤ (ds 2) := (nI_leI (a := 5) (b := ds 2) (by omega) (by omega)).mp c_8
      refine lv_iconst (v := nI 0) hx hb dX2_readDoor_48 (by decide) ?_
      exact hret (nI 0) (false, nuP tx len ((nuP tx len pl) + 1), da, ds) H locs 49 ls (⟨rfl, by simp [RR, rdD, c_5, c_8], ⟨nuP_le (show nuP tx len pl + 1 ≤ len by have := tkB_lt c_5 (by decide); omega), hPe, hT, hD5, hW⟩⟩) (hP) (hD) hS (rfl) dX2_readDoor_49
    · replace c_8 : ¬ 5 ≤ (ds 2) := fun h => c_8 ((nI_leI (a := 5) (b := ds 2) (by omega) (by omega)).mpr h)
      refine lv_aload_n hx hb dX2_readDoor_32 rfl (lv_at hl 2 rfl) ?_
      refine lv_iload_n hx hb dX2_readDoor_33 rfl (lv_at hl 1 rfl) ?_
      refine ro_callV (As := [.int (nuV tx len pl)]) (rest := []) (b := rd) ctx hKK hP (c_X2_isOneOfAll l g rd p_ (nuP tx len ((nuP tx len pl) + 1)) oc lt q0 q1 q2 q3 q4 ds (nuV tx len pl) (by omega)) gX2_readDoor_X2_isOneOfAll rfl rfl rfl hdX2_isOneOfAll ⟨Nat.le_of_ble_eq_true rfl, Nat.le_of_ble_eq_true rfl⟩ [0, 3] rfl (ci := 2) (q0 := 0) rfl rfl hl.1 rfl rfl (Nat.le_of_ble_eq_true rfl) dX2_readDoor_34 (fun r_9 hr_9 => ?_)
      subst hr_9
      refine lv_if_eq (tgt := 48) hx hb dX2_readDoor_37 (by decide) (fun c_10 => ?_) (fun c_10 => ?_)
      · replace c_10 := bI_f c_10
        refine lv_iconst (v := nI 0) hx hb dX2_readDoor_48 (by decide) ?_
        exact hret (nI 0) (false, nuP tx len ((nuP tx len pl) + 1), da, ds) H locs 49 ls (⟨rfl, by simp [RR, rdD, c_5, c_8, c_10], ⟨nuP_le (show nuP tx len pl + 1 ≤ len by have := tkB_lt c_5 (by decide); omega), hPe, hT, hD5, hW⟩⟩) (hP) (hD) hS (rfl) dX2_readDoor_49
      · replace c_10 := bI_t c_10
        refine lv_aload_n hx hb dX2_readDoor_40 rfl (lv_at hl 2 rfl) ?_
        refine lv_iload_n hx hb dX2_readDoor_41 rfl (lv_at hl 0 rfl) ?_
        refine ro_callV (As := [.int (nuV tx len ((nuP tx len pl) + 1))]) (rest := []) (b := rd) ctx hKK hP (c_X2_isOneOfAll l g rd p_ (nuP tx len ((nuP tx len pl) + 1)) oc lt q0 q1 q2 q3 q4 ds (nuV tx len ((nuP tx len pl) + 1)) (by omega)) gX2_readDoor_X2_isOneOfAll rfl rfl rfl hdX2_isOneOfAll ⟨Nat.le_of_ble_eq_true rfl, Nat.le_of_ble_eq_true rfl⟩ [0, 3] rfl (ci := 2) (q0 := 0) rfl rfl hl.1 rfl rfl (Nat.le_of_ble_eq_true rfl) dX2_readDoor_42 (fun r_11 hr_11 => ?_)
        subst hr_11
        refine lv_if_ne (tgt := 50) hx hb dX2_readDoor_45 (by decide) (fun c_12 => ?_) (fun c_12 => ?_)
        · replace c_12 := bI_t c_12
          refine lv_aload_n hx hb dX2_readDoor_50 rfl (lv_at hl 2 rfl) ?_
          refine va_get (D := g.1) (cl := vwCl) (ci := 2) (v := .ref p_) (C := RX2) (T := TX2) (N := 4) hx hb hts hX2_readDoor_X2 hown hK hP 0 rfl rfl 1 (by decide) (hts _ kX2_readDoor_f23) (fun _ h9 => h9) rfl dX2_readDoor_51 ?_
          refine va_get (D := g.1) (cl := vwCl) (ci := 1) (v := .ref q2) (C := RX1) (T := TX1) (N := 10) hx hb hts hX2_readDoor_X1 hown hK hP 3 rfl rfl 2 (by decide) (hts _ kX2_readDoor_f95) (fun _ h9 => h9) rfl dX2_readDoor_54 ?_
          refine lv_aload_n hx hb dX2_readDoor_57 rfl (lv_at hl 2 rfl) ?_
          refine va_get (D := g.1) (cl := vwCl) (ci := 2) (v := .ref p_) (C := RX2) (T := TX2) (N := 4) hx hb hts hX2_readDoor_X2 hown hK hP 0 rfl rfl 1 (by decide) (hts _ kX2_readDoor_f23) (fun _ h9 => h9) rfl dX2_readDoor_58 ?_
          refine va_get (D := g.1) (cl := vwCl) (ci := 1) (v := .int (nI (ds 2))) (C := RX1) (T := TX1) (N := 10) hx hb hts hX2_readDoor_X1 hown hK hP 3 rfl rfl 7 (by decide) (hts _ kX2_readDoor_f88) (fun _ h9 => h9) rfl dX2_readDoor_61 ?_
          refine lv_iload_n hx hb dX2_readDoor_64 rfl (lv_at hl 1 rfl) ?_
          refine ast_i (D := g.1) (cl := vwCl) (f := da 2) (i := ds 2) (n := 5) (x := nuV tx len pl) hx hb hK hP hD hS 6 0 rfl rfl (by omega) (by decide) dX2_readDoor_65 (fun H locs hP hD hS => ?_)
          obtain ⟨hP, hD⟩ := re2 [(rd, .inr (2, [.ref lt, .ref p_, .int (nI (nuP tx len ((nuP tx len pl) + 1))), .int (nI oc)])), (lt, .inr (0, [.ref sg, .int (nI len)])), (sg, .inl (g.2.2.1, 200, .inl tx)), (p_, .inr (1, [.ref q0, .ref q1, .ref q2, .ref q3, .ref q4, .int (nI (ds 0)), .int (nI (ds 1)), .int (nI (ds 2)), .int (nI (ds 3)), .int (nI (ds 4))])), (q0, .inl (g.2.1, 8, .inl (da 0))), (q1, .inl (g.2.1, 64, .inl (da 1))), (q2, .inl (g.2.1, 5, .inl (upd (da 2) (ds 2) (nuV tx len pl)))), (q3, .inl (g.2.1, 5, .inl (da 3))), (q4, .inl (g.2.1, 6, .inl (da 4)))] hP hD rfl
          refine lv_aload_n hx hb dX2_readDoor_66 rfl (lv_at hl 2 rfl) ?_
          refine va_get (D := g.1) (cl := vwCl) (ci := 2) (v := .ref p_) (C := RX2) (T := TX2) (N := 4) hx hb hts hX2_readDoor_X2 hown hK hP 0 rfl rfl 1 (by decide) (hts _ kX2_readDoor_f23) (fun _ h9 => h9) rfl dX2_readDoor_67 ?_
          refine va_get (D := g.1) (cl := vwCl) (ci := 1) (v := .ref q3) (C := RX1) (T := TX1) (N := 10) hx hb hts hX2_readDoor_X1 hown hK hP 3 rfl rfl 3 (by decide) (hts _ kX2_readDoor_f98) (fun _ h9 => h9) rfl dX2_readDoor_70 ?_
          refine lv_aload_n hx hb dX2_readDoor_73 rfl (lv_at hl 2 rfl) ?_
          refine va_get (D := g.1) (cl := vwCl) (ci := 2) (v := .ref p_) (C := RX2) (T := TX2) (N := 4) hx hb hts hX2_readDoor_X2 hown hK hP 0 rfl rfl 1 (by decide) (hts _ kX2_readDoor_f23) (fun _ h9 => h9) rfl dX2_readDoor_74 ?_
          refine va_get (D := g.1) (cl := vwCl) (ci := 1) (v := .int (nI (ds 2))) (C := RX1) (T := TX1) (N := 10) hx hb hts hX2_readDoor_X1 hown hK hP 3 rfl rfl 7 (by decide) (hts _ kX2_readDoor_f88) (fun _ h9 => h9) rfl dX2_readDoor_77 ?_
          refine lv_iload_n hx hb dX2_readDoor_80 rfl (lv_at hl 0 rfl) ?_
          refine ast_i (D := g.1) (cl := vwCl) (f := da 3) (i := ds 2) (n := 5) (x := nuV tx len ((nuP tx len pl) + 1)) hx hb hK hP hD hS 7 0 rfl rfl (by omega) (by decide) dX2_readDoor_81 (fun H locs hP hD hS => ?_)
          obtain ⟨hP, hD⟩ := re2 [(rd, .inr (2, [.ref lt, .ref p_, .int (nI (nuP tx len ((nuP tx len pl) + 1))), .int (nI oc)])), (lt, .inr (0, [.ref sg, .int (nI len)])), (sg, .inl (g.2.2.1, 200, .inl tx)), (p_, .inr (1, [.ref q0, .ref q1, .ref q2, .ref q3, .ref q4, .int (nI (ds 0)), .int (nI (ds 1)), .int (nI (ds 2)), .int (nI (ds 3)), .int (nI (ds 4))])), (q0, .inl (g.2.1, 8, .inl (da 0))), (q1, .inl (g.2.1, 64, .inl (da 1))), (q2, .inl (g.2.1, 5, .inl (upd (da 2) (ds 2) (nuV tx len pl)))), (q3, .inl (g.2.1, 5, .inl (upd (da 3) (ds 2) (nuV tx len ((nuP tx len pl) + 1))))), (q4, .inl (g.2.1, 6, .inl (da 4)))] hP hD rfl
          refine lv_aload_n hx hb dX2_readDoor_82 rfl (lv_at hl 2 rfl) ?_
          refine va_get (D := g.1) (cl := vwCl) (ci := 2) (v := .ref p_) (C := RX2) (T := TX2) (N := 4) hx hb hts hX2_readDoor_X2 hown hK hP 0 rfl rfl 1 (by decide) (hts _ kX2_readDoor_f23) (fun _ h9 => h9) rfl dX2_readDoor_83 ?_
          refine lv_dup hx hb dX2_readDoor_86 rfl ?_
          refine va_get (D := g.1) (cl := vwCl) (ci := 1) (v := .int (nI (ds 2))) (C := RX1) (T := TX1) (N := 10) hx hb hts hX2_readDoor_X1 hown hK hP 3 rfl rfl 7 (by decide) (hts _ kX2_readDoor_f88) (fun _ h9 => h9) rfl dX2_readDoor_87 ?_
          refine lv_iconst (v := nI 1) hx hb dX2_readDoor_90 (by decide) ?_
          refine lv_iadd hx hb dX2_readDoor_91 ?_
          refine lv_is (nI_add (ds 2) 1) ?_
          refine va_put (D := g.1) (cl := vwCl) (ci := 1) (v := .int (nI ((ds 2) + 1))) (ty := .int) (C := RX1) (T := TX1) (N := 10) hx hb hts hX2_readDoor_X1 tyX1 tyX1_ok nmX1 hown hK hP hD hS 3 rfl rfl 7 (by decide) (hts _ kX2_readDoor_f88) (fun _ h9 => h9) rfl (by decide +kernel) (rfl) (rfl) (Nat.le_of_ble_eq_true rfl) dX2_readDoor_92 (fun H locs hP hD hS => ?_)
          obtain ⟨hP, hD⟩ := re2 [(rd, .inr (2, [.ref lt, .ref p_, .int (nI (nuP tx len ((nuP tx len pl) + 1))), .int (nI oc)])), (lt, .inr (0, [.ref sg, .int (nI len)])), (sg, .inl (g.2.2.1, 200, .inl tx)), (p_, .inr (1, [.ref q0, .ref q1, .ref q2, .ref q3, .ref q4, .int (nI (ds 0)), .int (nI (ds 1)), .int (nI ((ds 2) + 1)), .int (nI (ds 3)), .int (nI (ds 4))])), (q0, .inl (g.2.1, 8, .inl (da 0))), (q1, .inl (g.2.1, 64, .inl (da 1))), (q2, .inl (g.2.1, 5, .inl (upd (da 2) (ds 2) (nuV tx len pl)))), (q3, .inl (g.2.1, 5, .inl (upd (da 3) (ds 2) (nuV tx len ((nuP tx len pl) + 1))))), (q4, .inl (g.2.1, 6, .inl (da 4)))] hP hD rfl
          refine lv_iconst (v := nI 1) hx hb dX2_readDoor_95 (by decide) ?_
          exact hret (nI 1) (true, nuP tx len ((nuP tx len pl) + 1), (upA (upA da 2 (upd (da 2) (ds 2) (nuV tx len pl))) 3 (upd (da 3) (ds 2) (nuV tx len ((nuP tx len pl) + 1)))), (updN ds 2 ((ds 2) + 1))) H locs 96 ls (⟨rfl, by simp [RR, rdD, c_5, c_8, c_10, c_12], ⟨nuP_le (show nuP tx len pl + 1 ≤ len by have := tkB_lt c_5 (by decide); omega), hPe, hT, show ds 2 + 1 ≤ 5 by omega, hW⟩⟩) (hP) (hD) hS (rfl) dX2_readDoor_96
        · replace c_12 := bI_f c_12
          refine lv_iconst (v := nI 0) hx hb dX2_readDoor_48 (by decide) ?_
          exact hret (nI 0) (false, nuP tx len ((nuP tx len pl) + 1), da, ds) H locs 49 ls (⟨rfl, by simp [RR, rdD, c_5, c_8, c_10, c_12], ⟨nuP_le (show nuP tx len pl + 1 ≤ len by have := tkB_lt c_5 (by decide); omega), hPe, hT, hD5, hW⟩⟩) (hP) (hD) hS (rfl) dX2_readDoor_49
  · replace c_5 := bI_f c_5
    rw [if_neg (by rw [c_5]; decide)] at hP hD
    refine lv_iconst (v := nI 0) hx hb dX2_readDoor_14 (by decide) ?_
    exact hret (nI 0) (false, (nuP tx len pl), da, ds) H locs 15 ls (⟨rfl, by simp [RR, rdD, c_5], ⟨nuP_le hpl, hPe, hT, hD5, hW⟩⟩) (hP) (hD) hS (rfl) dX2_readDoor_15
theorem kX2_readPerson_f23 : (Cond.fieldLink RX2 23 "LastCallersWord$Reader" "plan" "LLastCallersWord$Plan;" : Cond) ∈ wsX2_readPerson := List.mem_cons_of_mem _ aw_67
theorem hX2_readPerson_X2 : ∀ w ∈ wsX20, w ∈ wsX2_readPerson := fun w h => List.mem_cons_of_mem _ (ac_X2 w h)
theorem kX2_readPerson_f74 : (Cond.fieldLink RX2 74 "LastCallersWord$Plan" "personsTold" "I" : Cond) ∈ wsX2_readPerson := List.mem_cons_of_mem _ aw_187
theorem hX2_readPerson_X1 : ∀ w ∈ wsX10, w ∈ wsX2_readPerson := fun w h => List.mem_cons_of_mem _ (ac_X1 w h)
theorem kX2_readPerson_f68 : (Cond.fieldLink RX2 68 "LastCallersWord$Plan" "persons" "I" : Cond) ∈ wsX2_readPerson := List.mem_cons_of_mem _ aw_174
theorem kX2_readPerson_f85 : (Cond.fieldLink RX2 85 "LastCallersWord$Plan" "kinds" "[I" : Cond) ∈ wsX2_readPerson := List.mem_cons_of_mem _ aw_189
theorem kX2_readPerson_f77 : (Cond.fieldLink RX2 77 "LastCallersWord$Plan" "likings" "[I" : Cond) ∈ wsX2_readPerson := List.mem_cons_of_mem _ aw_188
theorem kX2_readPerson_ini : (Cond.initialized RX7 : Cond) ∈ wsX2_readPerson := List.mem_cons_of_mem _ aw_1
theorem kX2_readPerson_stX7_pair : (Cond.static yX7_pair : Cond) ∈ wsX2_readPerson := List.mem_cons_of_mem _ aw_190
set_option maxHeartbeats 4000000 in
set_option maxRecDepth 100000 in
theorem c_X2_readPerson (l : Launch) (g : GG) (rd : Nat) (p_ : Nat) (pl : Nat) (oc : Nat) (lt : Nat) (sg : Nat) (len : Nat) (tx : Nat → Int32) (q0 : Nat) (q1 : Nat) (q2 : Nat) (q3 : Nat) (q4 : Nat) (da : Nat → Nat → Int32) (ds : Nat → Nat) (hlen : len ≤ 200) (hsg : ∀ k, narrow .char (.int (tx k)) = .int (tx k)) (hpl : pl ≤ len) (hPe : ds 0 ≤ 8) (hT : ds 1 ≤ 8) (hD5 : ds 2 ≤ 5) (hW : ds 3 ≤ 6) : Met l yX2_readPerson wsX2_readPerson ({ frames := 2, cells := 0, slots := 0, locals := 42 } : Room) (wr g [.ref rd] [(rd, .inr (2, [.ref lt, .ref p_, .int (nI pl), .int (nI oc)])), (lt, .inr (0, [.ref sg, .int (nI len)])), (sg, .inl (g.2.2.1, 200, .inl tx)), (p_, .inr (1, [.ref q0, .ref q1, .ref q2, .ref q3, .ref q4, .int (nI (ds 0)), .int (nI (ds 1)), .int (nI (ds 2)), .int (nI (ds 3)), .int (nI (ds 4))])), (q0, .inl (g.2.1, 8, .inl (da 0))), (q1, .inl (g.2.1, 64, .inl (da 1))), (q2, .inl (g.2.1, 5, .inl (da 2))), (q3, .inl (g.2.1, 5, .inl (da 3))), (q4, .inl (g.2.1, 6, .inl (da 4)))]) (wQi g [(rd, .inr (2, [.ref lt, .ref p_, .int (nI pl), .int (nI oc)])), (lt, .inr (0, [.ref sg, .int (nI len)])), (sg, .inl (g.2.2.1, 200, .inl tx)), (p_, .inr (1, [.ref q0, .ref q1, .ref q2, .ref q3, .ref q4, .int (nI (ds 0)), .int (nI (ds 1)), .int (nI (ds 2)), .int (nI (ds 3)), .int (nI (ds 4))])), (q0, .inl (g.2.1, 8, .inl (da 0))), (q1, .inl (g.2.1, 64, .inl (da 1))), (q2, .inl (g.2.1, 5, .inl (da 2))), (q3, .inl (g.2.1, 5, .inl (da 3))), (q4, .inl (g.2.1, 6, .inl (da 4)))] (fun u : Bool × Nat × DV => [(rd, .inr (2, [.ref lt, .ref p_, .int (nI u.2.1), .int (nI oc)])), (lt, .inr (0, [.ref sg, .int (nI len)])), (sg, .inl (g.2.2.1, 200, .inl tx)), (p_, .inr (1, [.ref q0, .ref q1, .ref q2, .ref q3, .ref q4, .int (nI (u.2.2.2 0)), .int (nI (u.2.2.2 1)), .int (nI (u.2.2.2 2)), .int (nI (u.2.2.2 3)), .int (nI (u.2.2.2 4))])), (q0, .inl (g.2.1, 8, .inl (u.2.2.1 0))), (q1, .inl (g.2.1, 64, .inl (u.2.2.1 1))), (q2, .inl (g.2.1, 5, .inl (u.2.2.1 2))), (q3, .inl (g.2.1, 5, .inl (u.2.2.1 3))), (q4, .inl (g.2.1, 6, .inl (u.2.2.1 4)))]) (fun rr u => rr = bI u.1 ∧ RR u.1 u.2 (rdP tx len pl (da, ds)) ∧ OKD len u.2)) 0 0 (cA [(rd, .inr (2, [.ref lt, .ref p_, .int (nI pl), .int (nI oc)])), (lt, .inr (0, [.ref sg, .int (nI len)])), (sg, .inl (g.2.2.1, 200, .inl tx)), (p_, .inr (1, [.ref q0, .ref q1, .ref q2, .ref q3, .ref q4, .int (nI (ds 0)), .int (nI (ds 1)), .int (nI (ds 2)), .int (nI (ds 3)), .int (nI (ds 4))])), (q0, .inl (g.2.1, 8, .inl (da 0))), (q1, .inl (g.2.1, 64, .inl (da 1))), (q2, .inl (g.2.1, 5, .inl (da 2))), (q3, .inl (g.2.1, 5, .inl (da 3))), (q4, .inl (g.2.1, 6, .inl (da 4)))]) := by
  refine wr_starti (cc := cX2_readPerson) (maxL := 5) (ty := .boolean) (by decide) rfl (Nat.le_of_ble_eq_true rfl) (fun p e s m args below meth c Q A C hP hD hS hret ls hl => ?_)
  obtain ⟨hx, hb, hml, hr, hown, hts, hlk, hKK⟩ := id C
  have hK := hKK.1
  have hown : s.vm.findClass RX2 = some m.cls := hown
  have ctx : CallFix p m c cX2_readPerson 5 s args wsX2_readPerson RX2 := ⟨hx, hb, hml, hown, hts⟩
  have hl : lv_has ls 5 [(0, .ref rd)] := hl
  obtain ⟨H, hHe⟩ : ∃ H, H = s.heap := ⟨_, rfl⟩
  obtain ⟨locs, hLe⟩ : ∃ L : List Loc, L = [] := ⟨_, rfl⟩
  have hP : va_P g.1 vwCl [(rd, .inr (2, [.ref lt, .ref p_, .int (nI pl), .int (nI oc)])), (lt, .inr (0, [.ref sg, .int (nI len)])), (sg, .inl (g.2.2.1, 200, .inl tx)), (p_, .inr (1, [.ref q0, .ref q1, .ref q2, .ref q3, .ref q4, .int (nI (ds 0)), .int (nI (ds 1)), .int (nI (ds 2)), .int (nI (ds 3)), .int (nI (ds 4))])), (q0, .inl (g.2.1, 8, .inl (da 0))), (q1, .inl (g.2.1, 64, .inl (da 1))), (q2, .inl (g.2.1, 5, .inl (da 2))), (q3, .inl (g.2.1, 5, .inl (da 3))), (q4, .inl (g.2.1, 6, .inl (da 4)))] H := by rw [hHe]; exact hP
  have hS : va_S A s.heap H locs := by rw [hHe, hLe]; exact hS
  suffices hgo : W p l e ({ frames := 2, cells := 0, slots := 0, locals := 42 } : Room) s m args below meth c H locs 0 0 Q (F0 m 0 ls []) by rw [hHe, hLe] at hgo; exact hgo
  clear hHe hLe
  refine lv_aload_n hx hb dX2_readPerson_0 rfl (lv_at hl 0 rfl) ?_
  refine wr_callVi (As := []) (rest := []) (b := rd) ctx hKK hP hD hS (c_X2_figure l g rd p_ pl oc lt sg len tx (by omega) (hsg) (by omega)) gX2_readPerson_X2_figure rfl rfl rfl hdX2_figure ⟨Nat.le_of_ble_eq_true rfl, Nat.le_of_ble_eq_true rfl⟩ [0, 1, 2] rfl rfl (fun _ _ _ => rfl) (ci := 2) (q0 := 0) rfl rfl hl.1 rfl rfl (Nat.le_of_ble_eq_true rfl) dX2_readPerson_1 (fun r_1 u_2 H locs hr_1 hP hD hS => ?_)
  have hP : va_P g.1 vwCl [(rd, .inr (2, [.ref lt, .ref p_, .int (nI (fgP tx len pl)), .int (nI oc)])), (lt, .inr (0, [.ref sg, .int (nI len)])), (sg, .inl (g.2.2.1, 200, .inl tx)), (p_, .inr (1, [.ref q0, .ref q1, .ref q2, .ref q3, .ref q4, .int (nI (ds 0)), .int (nI (ds 1)), .int (nI (ds 2)), .int (nI (ds 3)), .int (nI (ds 4))])), (q0, .inl (g.2.1, 8, .inl (da 0))), (q1, .inl (g.2.1, 64, .inl (da 1))), (q2, .inl (g.2.1, 5, .inl (da 2))), (q3, .inl (g.2.1, 5, .inl (da 3))), (q4, .inl (g.2.1, 6, .inl (da 4)))] H := hP
  have hD : va_D A [(rd, .inr (2, [.ref lt, .ref p_, .int (nI (fgP tx len pl)), .int (nI oc)])), (lt, .inr (0, [.ref sg, .int (nI len)])), (sg, .inl (g.2.2.1, 200, .inl tx)), (p_, .inr (1, [.ref q0, .ref q1, .ref q2, .ref q3, .ref q4, .int (nI (ds 0)), .int (nI (ds 1)), .int (nI (ds 2)), .int (nI (ds 3)), .int (nI (ds 4))])), (q0, .inl (g.2.1, 8, .inl (da 0))), (q1, .inl (g.2.1, 64, .inl (da 1))), (q2, .inl (g.2.1, 5, .inl (da 2))), (q3, .inl (g.2.1, 5, .inl (da 3))), (q4, .inl (g.2.1, 6, .inl (da 4)))] := hD
  subst hr_1
  refine lv_istore_n (lv' := [(1, .int (fgV tx len pl)), (0, .ref rd)]) hx hb dX2_readPerson_4 rfl hl (by decide) rfl (fun ls hl => ?_)
  refine lv_aload_n hx hb dX2_readPerson_5 rfl (lv_at hl 1 rfl) ?_
  refine va_get (D := g.1) (cl := vwCl) (ci := 2) (v := .ref p_) (C := RX2) (T := TX2) (N := 4) hx hb hts hX2_readPerson_X2 hown hK hP 0 rfl rfl 1 (by decide) (hts _ kX2_readPerson_f23) (fun _ h9 => h9) rfl dX2_readPerson_6 ?_
  refine va_get (D := g.1) (cl := vwCl) (ci := 1) (v := .int (nI (ds 1))) (C := RX1) (T := TX1) (N := 10) hx hb hts hX2_readPerson_X1 hown hK hP 3 rfl rfl 6 (by decide) (hts _ kX2_readPerson_f74) (fun _ h9 => h9) rfl dX2_readPerson_9 ?_
  refine lv_istore_n (lv' := [(2, .int (nI (ds 1))), (1, .int (fgV tx len pl)), (0, .ref rd)]) hx hb dX2_readPerson_12 rfl hl (by decide) rfl (fun ls hl => ?_)
  refine lv_iload_n hx hb dX2_readPerson_13 rfl (lv_at hl 0 rfl) ?_
  refine lv_aload_n hx hb dX2_readPerson_14 rfl (lv_at hl 2 rfl) ?_
  refine va_get (D := g.1) (cl := vwCl) (ci := 2) (v := .ref p_) (C := RX2) (T := TX2) (N := 4) hx hb hts hX2_readPerson_X2 hown hK hP 0 rfl rfl 1 (by decide) (hts _ kX2_readPerson_f23) (fun _ h9 => h9) rfl dX2_readPerson_15 ?_
  refine va_get (D := g.1) (cl := vwCl) (ci := 1) (v := .int (nI (ds 0))) (C := RX1) (T := TX1) (N := 10) hx hb hts hX2_readPerson_X1 hown hK hP 3 rfl rfl 5 (by decide) (hts _ kX2_readPerson_f68) (fun _ h9 => h9) rfl dX2_readPerson_18 ?_
  refine lv_icmp_ge (tgt := 33) hx hb dX2_readPerson_21 (by decide) (fun c_3 => ?_) (fun c_3 => ?_)
  · replace c_3 : (ds 0) ≤ (ds 1) := (nI_leI (a := ds 0) (b := ds 1) (by omega) (by omega)).mp c_3
    refine lv_iconst (v := nI 0) hx hb dX2_readPerson_33 (by decide) ?_
    exact hret (nI 0) (false, fgP tx len pl, da, ds) H locs 34 ls (⟨rfl, by simp [RR, rdP, c_3], ⟨fgP_le hpl, hPe, hT, hD5, hW⟩⟩) (hP) (hD) hS (rfl) dX2_readPerson_34
  · replace c_3 : ¬ (ds 0) ≤ (ds 1) := fun h => c_3 ((nI_leI (a := ds 0) (b := ds 1) (by omega) (by omega)).mpr h)
    refine lv_iload_n hx hb dX2_readPerson_24 rfl (lv_at hl 1 rfl) ?_
    refine lv_if_lt (tgt := 33) hx hb dX2_readPerson_25 (by decide) (fun c_4 => ?_) (fun c_4 => ?_)
    · refine lv_iconst (v := nI 0) hx hb dX2_readPerson_33 (by decide) ?_
      exact hret (nI 0) (false, fgP tx len pl, da, ds) H locs 34 ls (⟨rfl, by simp [RR, rdP, c_3, c_4], ⟨fgP_le hpl, hPe, hT, hD5, hW⟩⟩) (hP) (hD) hS (rfl) dX2_readPerson_34
    · refine lv_iload_n hx hb dX2_readPerson_28 rfl (lv_at hl 1 rfl) ?_
      refine lv_iconst (v := nI 3) hx hb dX2_readPerson_29 (by decide) ?_
      refine lv_icmp_le (tgt := 35) hx hb dX2_readPerson_30 (by decide) (fun c_5 => ?_) (fun c_5 => ?_)
      · refine lv_iconst (v := nI 0) hx hb dX2_readPerson_35 (by decide) ?_
        refine lv_istore_n (lv' := [(3, .int (nI 0)), (2, .int (nI (ds 1))), (1, .int (fgV tx len pl)), (0, .ref rd)]) hx hb dX2_readPerson_36 rfl hl (by decide) rfl (fun ls hl => ?_)
        have LP37 : ∀ (fu : Nat) (j : Nat) (q : Nat) (lk : Nat → Int32), ds 0 - j < fu → (j ≤ ds 0) → (q ≤ len) → (rpL tx len (ds 1) (fgP tx len pl) (da 1) j = some (q, lk)) → ∀ (H : Heap) (locs : List Loc), va_P g.1 vwCl [(rd, .inr (2, [.ref lt, .ref p_, .int (nI q), .int (nI oc)])), (lt, .inr (0, [.ref sg, .int (nI len)])), (sg, .inl (g.2.2.1, 200, .inl tx)), (p_, .inr (1, [.ref q0, .ref q1, .ref q2, .ref q3, .ref q4, .int (nI (ds 0)), .int (nI (ds 1)), .int (nI (ds 2)), .int (nI (ds 3)), .int (nI (ds 4))])), (q0, .inl (g.2.1, 8, .inl (da 0))), (q1, .inl (g.2.1, 64, .inl lk)), (q2, .inl (g.2.1, 5, .inl (da 2))), (q3, .inl (g.2.1, 5, .inl (da 3))), (q4, .inl (g.2.1, 6, .inl (da 4)))] H → va_D A [(rd, .inr (2, [.ref lt, .ref p_, .int (nI q), .int (nI oc)])), (lt, .inr (0, [.ref sg, .int (nI len)])), (sg, .inl (g.2.2.1, 200, .inl tx)), (p_, .inr (1, [.ref q0, .ref q1, .ref q2, .ref q3, .ref q4, .int (nI (ds 0)), .int (nI (ds 1)), .int (nI (ds 2)), .int (nI (ds 3)), .int (nI (ds 4))])), (q0, .inl (g.2.1, 8, .inl (da 0))), (q1, .inl (g.2.1, 64, .inl lk)), (q2, .inl (g.2.1, 5, .inl (da 2))), (q3, .inl (g.2.1, 5, .inl (da 3))), (q4, .inl (g.2.1, 6, .inl (da 4)))] → va_S A s.heap H locs → ∀ (ls : Array Slot), lv_has ls 5 [(3, .int (nI j)), (2, .int (nI (ds 1))), (1, .int (fgV tx len pl)), (0, .ref rd)] → W p l e ({ frames := 2, cells := 0, slots := 0, locals := 42 } : Room) s m args below meth c H locs 0 0 Q (F0 m 37 ls []) := by
          intro fu
          induction fu with
          | zero => intro j q lk hfu; exact absurd hfu (Nat.not_lt_zero _)
          | succ fu ih37 =>
            intro j q lk hfu hj hq er H locs hP hD hS ls hl
            refine lv_iload_n hx hb dX2_readPerson_37 rfl (lv_at hl 0 rfl) ?_
            refine lv_aload_n hx hb dX2_readPerson_38 rfl (lv_at hl 3 rfl) ?_
            refine va_get (D := g.1) (cl := vwCl) (ci := 2) (v := .ref p_) (C := RX2) (T := TX2) (N := 4) hx hb hts hX2_readPerson_X2 hown hK hP 0 rfl rfl 1 (by decide) (hts _ kX2_readPerson_f23) (fun _ h9 => h9) rfl dX2_readPerson_39 ?_
            refine va_get (D := g.1) (cl := vwCl) (ci := 1) (v := .int (nI (ds 0))) (C := RX1) (T := TX1) (N := 10) hx hb hts hX2_readPerson_X1 hown hK hP 3 rfl rfl 5 (by decide) (hts _ kX2_readPerson_f68) (fun _ h9 => h9) rfl dX2_readPerson_42 ?_
            refine lv_icmp_ge (tgt := 82) hx hb dX2_readPerson_45 (by decide) (fun c_6 => ?_) (fun c_6 => ?_)
            · replace c_6 : (ds 0) ≤ j := (nI_leI (a := ds 0) (b := j) (by omega) (by omega)).mp c_6
              refine lv_aload_n hx hb dX2_readPerson_82 rfl (lv_at hl 3 rfl) ?_
              refine va_get (D := g.1) (cl := vwCl) (ci := 2) (v := .ref p_) (C := RX2) (T := TX2) (N := 4) hx hb hts hX2_readPerson_X2 hown hK hP 0 rfl rfl 1 (by decide) (hts _ kX2_readPerson_f23) (fun _ h9 => h9) rfl dX2_readPerson_83 ?_
              refine va_get (D := g.1) (cl := vwCl) (ci := 1) (v := .ref q0) (C := RX1) (T := TX1) (N := 10) hx hb hts hX2_readPerson_X1 hown hK hP 3 rfl rfl 0 (by decide) (hts _ kX2_readPerson_f85) (fun _ h9 => h9) rfl dX2_readPerson_86 ?_
              refine lv_iload_n hx hb dX2_readPerson_89 rfl (lv_at hl 1 rfl) ?_
              refine lv_iload_n hx hb dX2_readPerson_90 rfl (lv_at hl 2 rfl) ?_
              refine ast_i (D := g.1) (cl := vwCl) (f := da 0) (i := ds 1) (n := 8) (x := fgV tx len pl) hx hb hK hP hD hS 4 0 rfl rfl (by omega) (by decide) dX2_readPerson_91 (fun H locs hP hD hS => ?_)
              obtain ⟨hP, hD⟩ := re2 [(rd, .inr (2, [.ref lt, .ref p_, .int (nI q), .int (nI oc)])), (lt, .inr (0, [.ref sg, .int (nI len)])), (sg, .inl (g.2.2.1, 200, .inl tx)), (p_, .inr (1, [.ref q0, .ref q1, .ref q2, .ref q3, .ref q4, .int (nI (ds 0)), .int (nI (ds 1)), .int (nI (ds 2)), .int (nI (ds 3)), .int (nI (ds 4))])), (q0, .inl (g.2.1, 8, .inl (upd (da 0) (ds 1) (fgV tx len pl)))), (q1, .inl (g.2.1, 64, .inl lk)), (q2, .inl (g.2.1, 5, .inl (da 2))), (q3, .inl (g.2.1, 5, .inl (da 3))), (q4, .inl (g.2.1, 6, .inl (da 4)))] hP hD rfl
              refine lv_aload_n hx hb dX2_readPerson_92 rfl (lv_at hl 3 rfl) ?_
              refine va_get (D := g.1) (cl := vwCl) (ci := 2) (v := .ref p_) (C := RX2) (T := TX2) (N := 4) hx hb hts hX2_readPerson_X2 hown hK hP 0 rfl rfl 1 (by decide) (hts _ kX2_readPerson_f23) (fun _ h9 => h9) rfl dX2_readPerson_93 ?_
              refine lv_dup hx hb dX2_readPerson_96 rfl ?_
              refine va_get (D := g.1) (cl := vwCl) (ci := 1) (v := .int (nI (ds 1))) (C := RX1) (T := TX1) (N := 10) hx hb hts hX2_readPerson_X1 hown hK hP 3 rfl rfl 6 (by decide) (hts _ kX2_readPerson_f74) (fun _ h9 => h9) rfl dX2_readPerson_97 ?_
              refine lv_iconst (v := nI 1) hx hb dX2_readPerson_100 (by decide) ?_
              refine lv_iadd hx hb dX2_readPerson_101 ?_
              refine lv_is (nI_add (ds 1) 1) ?_
              refine va_put (D := g.1) (cl := vwCl) (ci := 1) (v := .int (nI ((ds 1) + 1))) (ty := .int) (C := RX1) (T := TX1) (N := 10) hx hb hts hX2_readPerson_X1 tyX1 tyX1_ok nmX1 hown hK hP hD hS 3 rfl rfl 6 (by decide) (hts _ kX2_readPerson_f74) (fun _ h9 => h9) rfl (by decide +kernel) (rfl) (rfl) (Nat.le_of_ble_eq_true rfl) dX2_readPerson_102 (fun H locs hP hD hS => ?_)
              obtain ⟨hP, hD⟩ := re2 [(rd, .inr (2, [.ref lt, .ref p_, .int (nI q), .int (nI oc)])), (lt, .inr (0, [.ref sg, .int (nI len)])), (sg, .inl (g.2.2.1, 200, .inl tx)), (p_, .inr (1, [.ref q0, .ref q1, .ref q2, .ref q3, .ref q4, .int (nI (ds 0)), .int (nI ((ds 1) + 1)), .int (nI (ds 2)), .int (nI (ds 3)), .int (nI (ds 4))])), (q0, .inl (g.2.1, 8, .inl (upd (da 0) (ds 1) (fgV tx len pl)))), (q1, .inl (g.2.1, 64, .inl lk)), (q2, .inl (g.2.1, 5, .inl (da 2))), (q3, .inl (g.2.1, 5, .inl (da 3))), (q4, .inl (g.2.1, 6, .inl (da 4)))] hP hD rfl
              refine lv_iconst (v := nI 1) hx hb dX2_readPerson_105 (by decide) ?_
              exact hret (nI 1) (true, q, (upA (upA da 0 (upd (da 0) (ds 1) (fgV tx len pl))) 1 lk), (updN ds 1 ((ds 1) + 1))) H locs 106 ls (⟨rfl, by have h1 : rpL tx len (ds 1) (fgP tx len pl) (da 1) (ds 0) = some (q, lk) := (by rw [← er, show j = ds 0 by omega]); simp [RR, rdP, h1, c_3, c_4, c_5, c_6], ⟨hq, hPe, show ds 1 + 1 ≤ 8 by omega, hD5, hW⟩⟩) (hP) (hD) hS (rfl) dX2_readPerson_106
            · replace c_6 : ¬ (ds 0) ≤ j := fun h => c_6 ((nI_leI (a := ds 0) (b := j) (by omega) (by omega)).mpr h)
              refine lv_aload_n hx hb dX2_readPerson_48 rfl (lv_at hl 3 rfl) ?_
              refine wr_callVi (As := []) (rest := []) (b := rd) ctx hKK hP hD hS (c_X2_figure l g rd p_ q oc lt sg len tx (by omega) (hsg) (by omega)) gX2_readPerson_X2_figure rfl rfl rfl hdX2_figure ⟨Nat.le_of_ble_eq_true rfl, Nat.le_of_ble_eq_true rfl⟩ [0, 1, 2] rfl rfl (fun _ _ _ => rfl) (ci := 2) (q0 := 0) rfl rfl hl.1 rfl rfl (Nat.le_of_ble_eq_true rfl) dX2_readPerson_49 (fun r_7 u_8 H locs hr_7 hP hD hS => ?_)
              have hP : va_P g.1 vwCl [(rd, .inr (2, [.ref lt, .ref p_, .int (nI (fgP tx len q)), .int (nI oc)])), (lt, .inr (0, [.ref sg, .int (nI len)])), (sg, .inl (g.2.2.1, 200, .inl tx)), (p_, .inr (1, [.ref q0, .ref q1, .ref q2, .ref q3, .ref q4, .int (nI (ds 0)), .int (nI (ds 1)), .int (nI (ds 2)), .int (nI (ds 3)), .int (nI (ds 4))])), (q0, .inl (g.2.1, 8, .inl (da 0))), (q1, .inl (g.2.1, 64, .inl lk)), (q2, .inl (g.2.1, 5, .inl (da 2))), (q3, .inl (g.2.1, 5, .inl (da 3))), (q4, .inl (g.2.1, 6, .inl (da 4)))] H := hP
              have hD : va_D A [(rd, .inr (2, [.ref lt, .ref p_, .int (nI (fgP tx len q)), .int (nI oc)])), (lt, .inr (0, [.ref sg, .int (nI len)])), (sg, .inl (g.2.2.1, 200, .inl tx)), (p_, .inr (1, [.ref q0, .ref q1, .ref q2, .ref q3, .ref q4, .int (nI (ds 0)), .int (nI (ds 1)), .int (nI (ds 2)), .int (nI (ds 3)), .int (nI (ds 4))])), (q0, .inl (g.2.1, 8, .inl (da 0))), (q1, .inl (g.2.1, 64, .inl lk)), (q2, .inl (g.2.1, 5, .inl (da 2))), (q3, .inl (g.2.1, 5, .inl (da 3))), (q4, .inl (g.2.1, 6, .inl (da 4)))] := hD
              subst hr_7
              refine lv_istore (lv' := [(4, .int (fgV tx len q)), (3, .int (nI j)), (2, .int (nI (ds 1))), (1, .int (fgV tx len pl)), (0, .ref rd)]) hx hb dX2_readPerson_52 hl (by decide) rfl (fun ls hl => ?_)
              refine lv_iload hx hb dX2_readPerson_54 (lv_at hl 0 rfl) ?_
              refine lv_if_ge (tgt := 61) hx hb dX2_readPerson_56 (by decide) (fun c_9 => ?_) (fun c_9 => ?_)
              · refine lv_aload_n hx hb dX2_readPerson_61 rfl (lv_at hl 4 rfl) ?_
                refine va_get (D := g.1) (cl := vwCl) (ci := 2) (v := .ref p_) (C := RX2) (T := TX2) (N := 4) hx hb hts hX2_readPerson_X2 hown hK hP 0 rfl rfl 1 (by decide) (hts _ kX2_readPerson_f23) (fun _ h9 => h9) rfl dX2_readPerson_62 ?_
                refine va_get (D := g.1) (cl := vwCl) (ci := 1) (v := .ref q1) (C := RX1) (T := TX1) (N := 10) hx hb hts hX2_readPerson_X1 hown hK hP 3 rfl rfl 1 (by decide) (hts _ kX2_readPerson_f77) (fun _ h9 => h9) rfl dX2_readPerson_65 ?_
                refine lv_iload_n hx hb dX2_readPerson_68 rfl (lv_at hl 2 rfl) ?_
                refine lv_iload_n hx hb dX2_readPerson_69 rfl (lv_at hl 1 rfl) ?_
                refine ro_callSN (As := [.int (nI (ds 1)), .int (nI j)]) (rest := [.ref q1]) ctx hKK hP (c_X7_pair l g (ds 1) j) gX2_readPerson_X7_pair_n81 (hKK.2.2.2) (hts _ kX2_readPerson_ini) (hts _ kX2_readPerson_stX7_pair) rfl rfl rfl hdX7_pair ⟨Nat.le_of_ble_eq_true rfl, Nat.le_of_ble_eq_true rfl⟩ [] rfl hl.1 rfl rfl (Nat.le_of_ble_eq_true rfl) dX2_readPerson_70 (fun r_10 hr_10 => ?_)
                subst hr_10
                refine lv_iload hx hb dX2_readPerson_73 (lv_at hl 0 rfl) ?_
                refine ast_i (D := g.1) (cl := vwCl) (f := lk) (i := (ds 1) * 8 + j) (n := 64) (x := fgV tx len q) hx hb hK hP hD hS 5 0 rfl rfl (by omega) (by decide) dX2_readPerson_75 (fun H locs hP hD hS => ?_)
                obtain ⟨hP, hD⟩ := re2 [(rd, .inr (2, [.ref lt, .ref p_, .int (nI (fgP tx len q)), .int (nI oc)])), (lt, .inr (0, [.ref sg, .int (nI len)])), (sg, .inl (g.2.2.1, 200, .inl tx)), (p_, .inr (1, [.ref q0, .ref q1, .ref q2, .ref q3, .ref q4, .int (nI (ds 0)), .int (nI (ds 1)), .int (nI (ds 2)), .int (nI (ds 3)), .int (nI (ds 4))])), (q0, .inl (g.2.1, 8, .inl (da 0))), (q1, .inl (g.2.1, 64, .inl (upd lk ((ds 1) * 8 + j) (fgV tx len q)))), (q2, .inl (g.2.1, 5, .inl (da 2))), (q3, .inl (g.2.1, 5, .inl (da 3))), (q4, .inl (g.2.1, 6, .inl (da 4)))] hP hD rfl
                refine lv_iinc (v := nI (j + 1)) (lv' := [(3, .int (nI (j + 1))), (4, .int (fgV tx len q)), (2, .int (nI (ds 1))), (1, .int (fgV tx len pl)), (0, .ref rd)]) hx hb dX2_readPerson_76 hl (k := 1) rfl (iincK j 1) (by decide) rfl (fun ls hl => ?_)
                refine lv_goto (tgt := 37) hx hb dX2_readPerson_79 (by decide) ?_
                exact ih37 (j + 1) (fgP tx len q) (upd lk ((ds 1) * 8 + j) (fgV tx len q)) (by omega) (by omega) (fgP_le hq) (by rw [rpL, er]; simp [c_3, c_4, c_5, c_6, c_9]) _ _ hP hD hS ls (lv_sub hl [0, 2, 3, 4] rfl)
              · refine lv_iconst (v := nI 0) hx hb dX2_readPerson_59 (by decide) ?_
                exact hret (nI 0) (false, fgP tx len q, (upA da 1 lk), ds) H locs 60 ls (⟨rfl, by have h1 : rpL tx len (ds 1) (fgP tx len pl) (da 1) (j + 1) = none := (by rw [rpL, er]; simp [c_3, c_4, c_5, c_6, c_9]); have h2 := rpL_none h1 (ds 0 - (j + 1)); rw [show j + 1 + (ds 0 - (j + 1)) = ds 0 by omega] at h2; simp [RR, rdP, h2, c_3, c_4, c_5, c_6, c_9], ⟨fgP_le hq, hPe, hT, hD5, hW⟩⟩) (hP) (hD) hS (rfl) dX2_readPerson_60
        exact LP37 (ds 0 + 1) 0 (fgP tx len pl) (da 1) (by omega) (by omega) (fgP_le hpl) (rfl) _ _ hP hD hS ls (lv_sub hl [0, 1, 2, 3] rfl)
      · refine lv_iconst (v := nI 0) hx hb dX2_readPerson_33 (by decide) ?_
        exact hret (nI 0) (false, fgP tx len pl, da, ds) H locs 34 ls (⟨rfl, by simp [RR, rdP, c_3, c_4, c_5], ⟨fgP_le hpl, hPe, hT, hD5, hW⟩⟩) (hP) (hD) hS (rfl) dX2_readPerson_34
