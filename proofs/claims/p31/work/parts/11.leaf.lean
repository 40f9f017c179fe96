
def sgn (tx : Nat → Int32) (n pl : Nat) : Int32 := if pl < n then tx pl else nI 0
def rkN (pt : Nat → Int32) (w : Nat) : Nat → Nat
  | 0 => 0
  | v + 1 => if ¬ pt v ≤ pt w ∨ (pt v = pt w ∧ ¬ w ≤ v) then rkN pt w v + 1 else rkN pt w v
theorem rkN_le (pt : Nat → Int32) (w : Nat) : ∀ v, rkN pt w v ≤ v
  | 0 => Nat.le_refl 0
  | v + 1 => by have := rkN_le pt w v; rw [rkN]; split <;> omega
def sumP (pt : Nat → Int32) : Nat → Int32
  | 0 => nI 0
  | k + 1 => sumP pt k + pt k
def lkA (pn dn : Nat → Int32) (d : Int32) : Nat → Int32
  | 0 => nI 0
  | k + 1 => if dn k = d then lkA pn dn d k ||| (nI 1 <<< (pn k &&& 31)) else lkA pn dn d k
def ciA (pn dn cn : Nat → Int32) (d : Int32) : Nat → Int32
  | 0 => nI 0
  | k + 1 => if dn k = d ∧ cn k = nI 1 then ciA pn dn cn d k ||| (nI 1 <<< (pn k &&& 31)) else ciA pn dn cn d k
theorem kX0_append_f15 : (Cond.fieldLink RX0 15 "LastCallersWord$Letters" "length" "I" : Cond) ∈ wsX0_append := List.mem_cons_of_mem _ aw_46
theorem hX0_append_X0 : ∀ w ∈ wsX00, w ∈ wsX0_append := fun w h => List.mem_cons_of_mem _ (ac_X0 w h)
theorem kX0_append_f9 : (Cond.fieldLink RX0 9 "LastCallersWord$Letters" "signs" "[C" : Cond) ∈ wsX0_append := List.mem_cons_of_mem _ aw_45
set_option maxHeartbeats 4000000 in
set_option maxRecDepth 100000 in
theorem c_X0_append (l : Launch) (g : GG) (lt : Nat) (sg : Nat) (len : Nat) (tx : Nat → Int32) (cv : Int32) (hlen : len < 200) : Met l yX0_append wsX0_append ({ frames := 0, cells := 0, slots := 0, locals := 0 } : Room) (wr g [.ref lt, .int cv] [(lt, .inr (0, [.ref sg, .int (nI len)])), (sg, .inl (g.2.2.1, 200, .inl tx))]) (wQv g [(lt, .inr (0, [.ref sg, .int (nI len)])), (sg, .inl (g.2.2.1, 200, .inl tx))] (fun u : Unit => [(lt, .inr (0, [.ref sg, .int (nI (len + 1))])), (sg, .inl (g.2.2.1, 200, .inl (upd tx len (vp_nar .char cv))))]) (fun u => True)) 0 0 (cA [(lt, .inr (0, [.ref sg, .int (nI len)])), (sg, .inl (g.2.2.1, 200, .inl tx))]) := by
  refine wr_startv (cc := cX0_append) (maxL := 2) (by decide) rfl (Nat.le_of_ble_eq_true rfl) (fun p e s m args below meth c Q A C hP hD hS hret ls hl => ?_)
  obtain ⟨hx, hb, hml, hr, hown, hts, hlk, hKK⟩ := id C
  have hK := hKK.1
  have hown : s.vm.findClass RX0 = some m.cls := hown
  have ctx : CallFix p m c cX0_append 2 s args wsX0_append RX0 := ⟨hx, hb, hml, hown, hts⟩
  have hl : lv_has ls 2 [(0, .ref lt), (1, .int cv)] := hl
  obtain ⟨H, hHe⟩ : ∃ H, H = s.heap := ⟨_, rfl⟩
  obtain ⟨locs, hLe⟩ : ∃ L : List Loc, L = [] := ⟨_, rfl⟩
  have hP : va_P g.1 vwCl [(lt, .inr (0, [.ref sg, .int (nI len)])), (sg, .inl (g.2.2.1, 200, .inl tx))] H := by rw [hHe]; exact hP
  have hS : va_S A s.heap H locs := by rw [hHe, hLe]; exact hS
  suffices hgo : W p l e ({ frames := 0, cells := 0, slots := 0, locals := 0 } : Room) s m args below meth c H locs 0 0 Q (F0 m 0 ls []) by rw [hHe, hLe] at hgo; exact hgo
  clear hHe hLe
  refine lv_aload_n hx hb dX0_append_0 rfl (lv_at hl 0 rfl) ?_
  refine va_get (D := g.1) (cl := vwCl) (ci := 0) (v := .int (nI len)) (C := RX0) (T := TX0) (N := 2) hx hb hts hX0_append_X0 hown hK hP 0 rfl rfl 1 (by decide) (hts _ kX0_append_f15) (fun _ h9 => h9) rfl dX0_append_1 ?_
  refine lv_aload_n hx hb dX0_append_4 rfl (lv_at hl 0 rfl) ?_
  refine va_get (D := g.1) (cl := vwCl) (ci := 0) (v := .ref sg) (C := RX0) (T := TX0) (N := 2) hx hb hts hX0_append_X0 hown hK hP 0 rfl rfl 0 (by decide) (hts _ kX0_append_f9) (fun _ h9 => h9) rfl dX0_append_5 ?_
  refine va_alen (D := g.1) (cl := vwCl) (v := nI 200) hx hb hK hP 1 1 rfl (ty := .char) rfl rfl dX0_append_8 ?_
  refine lv_icmp_ge (tgt := 32) hx hb dX0_append_9 (by decide) (fun c_1 => ?_) (fun c_1 => ?_)
  · replace c_1 : 200 ≤ len := (nI_leI (a := 200) (b := len) (by omega) (by omega)).mp c_1; omega
  · replace c_1 : ¬ 200 ≤ len := fun h => c_1 ((nI_leI (a := 200) (b := len) (by omega) (by omega)).mpr h)
    refine lv_aload_n hx hb dX0_append_12 rfl (lv_at hl 0 rfl) ?_
    refine va_get (D := g.1) (cl := vwCl) (ci := 0) (v := .ref sg) (C := RX0) (T := TX0) (N := 2) hx hb hts hX0_append_X0 hown hK hP 0 rfl rfl 0 (by decide) (hts _ kX0_append_f9) (fun _ h9 => h9) rfl dX0_append_13 ?_
    refine lv_aload_n hx hb dX0_append_16 rfl (lv_at hl 0 rfl) ?_
    refine va_get (D := g.1) (cl := vwCl) (ci := 0) (v := .int (nI len)) (C := RX0) (T := TX0) (N := 2) hx hb hts hX0_append_X0 hown hK hP 0 rfl rfl 1 (by decide) (hts _ kX0_append_f15) (fun _ h9 => h9) rfl dX0_append_17 ?_
    refine lv_iload_n hx hb dX0_append_20 rfl (lv_at hl 1 rfl) ?_
    refine ast_c (D := g.1) (cl := vwCl) (f := tx) (i := len) (n := 200) (x := cv) hx hb hK hP hD hS 1 1 rfl rfl (by omega) (by decide) dX0_append_21 (fun H locs hP hD hS => ?_)
    have hP : va_P g.1 vwCl [(lt, .inr (0, [.ref sg, .int (nI len)])), (sg, .inl (g.2.2.1, 200, .inl (upd tx len (vp_nar .char cv))))] H := hP
    have hD : va_D A [(lt, .inr (0, [.ref sg, .int (nI len)])), (sg, .inl (g.2.2.1, 200, .inl (upd tx len (vp_nar .char cv))))] := hD
    refine lv_aload_n hx hb dX0_append_22 rfl (lv_at hl 0 rfl) ?_
    refine lv_dup hx hb dX0_append_23 rfl ?_
    refine va_get (D := g.1) (cl := vwCl) (ci := 0) (v := .int (nI len)) (C := RX0) (T := TX0) (N := 2) hx hb hts hX0_append_X0 hown hK hP 0 rfl rfl 1 (by decide) (hts _ kX0_append_f15) (fun _ h9 => h9) rfl dX0_append_24 ?_
    refine lv_iconst (v := nI 1) hx hb dX0_append_27 (by decide) ?_
    refine lv_iadd hx hb dX0_append_28 ?_
    refine lv_is (nI_add len 1) ?_
    refine va_put (D := g.1) (cl := vwCl) (ci := 0) (v := .int (nI (len + 1))) (ty := .int) (C := RX0) (T := TX0) (N := 2) hx hb hts hX0_append_X0 tyX0 tyX0_ok nmX0 hown hK hP hD hS 0 rfl rfl 1 (by decide) (hts _ kX0_append_f15) (fun _ h9 => h9) rfl (by decide +kernel) (rfl) (rfl) (Nat.le_of_ble_eq_true rfl) dX0_append_29 (fun H locs hP hD hS => ?_)
    have hP : va_P g.1 vwCl [(lt, .inr (0, [.ref sg, .int (nI (len + 1))])), (sg, .inl (g.2.2.1, 200, .inl (upd tx len (vp_nar .char cv))))] H := hP
    have hD : va_D A [(lt, .inr (0, [.ref sg, .int (nI (len + 1))])), (sg, .inl (g.2.2.1, 200, .inl (upd tx len (vp_nar .char cv))))] := hD
    exact hret () H locs 32 ls (trivial) (hP) (hD) hS dX0_append_32
theorem kX0_clear_f15 : (Cond.fieldLink RX0 15 "LastCallersWord$Letters" "length" "I" : Cond) ∈ wsX0_clear := List.mem_cons_of_mem _ aw_46
theorem hX0_clear_X0 : ∀ w ∈ wsX00, w ∈ wsX0_clear := fun w h => List.mem_cons_of_mem _ (ac_X0 w h)
set_option maxHeartbeats 4000000 in
set_option maxRecDepth 100000 in
theorem c_X0_clear (l : Launch) (g : GG) (lt : Nat) (sg : Nat) (len : Nat) (tx : Nat → Int32) : Met l yX0_clear wsX0_clear ({ frames := 0, cells := 0, slots := 0, locals := 0 } : Room) (wr g [.ref lt] [(lt, .inr (0, [.ref sg, .int (nI len)]))]) (wQv g [(lt, .inr (0, [.ref sg, .int (nI len)]))] (fun u : Unit => [(lt, .inr (0, [.ref sg, .int (nI 0)]))]) (fun u => True)) 0 0 (cA [(lt, .inr (0, [.ref sg, .int (nI len)]))]) := by
  refine wr_startv (cc := cX0_clear) (maxL := 1) (by decide) rfl (Nat.le_of_ble_eq_true rfl) (fun p e s m args below meth c Q A C hP hD hS hret ls hl => ?_)
  obtain ⟨hx, hb, hml, hr, hown, hts, hlk, hKK⟩ := id C
  have hK := hKK.1
  have hown : s.vm.findClass RX0 = some m.cls := hown
  have ctx : CallFix p m c cX0_clear 1 s args wsX0_clear RX0 := ⟨hx, hb, hml, hown, hts⟩
  have hl : lv_has ls 1 [(0, .ref lt)] := hl
  obtain ⟨H, hHe⟩ : ∃ H, H = s.heap := ⟨_, rfl⟩
  obtain ⟨locs, hLe⟩ : ∃ L : List Loc, L = [] := ⟨_, rfl⟩
  have hP : va_P g.1 vwCl [(lt, .inr (0, [.ref sg, .int (nI len)]))] H := by rw [hHe]; exact hP
  have hS : va_S A s.heap H locs := by rw [hHe, hLe]; exact hS
  suffices hgo : W p l e ({ frames := 0, cells := 0, slots := 0, locals := 0 } : Room) s m args below meth c H locs 0 0 Q (F0 m 0 ls []) by rw [hHe, hLe] at hgo; exact hgo
  clear hHe hLe
  refine lv_aload_n hx hb dX0_clear_0 rfl (lv_at hl 0 rfl) ?_
  refine lv_iconst (v := nI 0) hx hb dX0_clear_1 (by decide) ?_
  refine va_put (D := g.1) (cl := vwCl) (ci := 0) (v := .int (nI 0)) (ty := .int) (C := RX0) (T := TX0) (N := 2) hx hb hts hX0_clear_X0 tyX0 tyX0_ok nmX0 hown hK hP hD hS 0 rfl rfl 1 (by decide) (hts _ kX0_clear_f15) (fun _ h9 => h9) rfl (by decide +kernel) (rfl) (rfl) (Nat.le_of_ble_eq_true rfl) dX0_clear_2 (fun H locs hP hD hS => ?_)
  have hP : va_P g.1 vwCl [(lt, .inr (0, [.ref sg, .int (nI 0)]))] H := hP
  have hD : va_D A [(lt, .inr (0, [.ref sg, .int (nI 0)]))] := hD
  exact hret () H locs 5 ls (trivial) (hP) (hD) hS dX0_clear_5
theorem kX0_signAt_f15 : (Cond.fieldLink RX0 15 "LastCallersWord$Letters" "length" "I" : Cond) ∈ wsX0_signAt := List.mem_cons_of_mem _ aw_46
theorem hX0_signAt_X0 : ∀ w ∈ wsX00, w ∈ wsX0_signAt := fun w h => List.mem_cons_of_mem _ (ac_X0 w h)
theorem kX0_signAt_f9 : (Cond.fieldLink RX0 9 "LastCallersWord$Letters" "signs" "[C" : Cond) ∈ wsX0_signAt := List.mem_cons_of_mem _ aw_45
set_option maxHeartbeats 4000000 in
set_option maxRecDepth 100000 in
theorem c_X0_signAt (l : Launch) (g : GG) (lt : Nat) (sg : Nat) (len : Nat) (tx : Nat → Int32) (pl : Nat) (hlen : len ≤ 200) (hpl : pl < 1000) (hsg : ∀ k, narrow .char (.int (tx k)) = .int (tx k)) : Met l yX0_signAt wsX0_signAt ({ frames := 0, cells := 0, slots := 0, locals := 0 } : Room) (ro g [.ref lt, .int (nI pl)] [(lt, .inr (0, [.ref sg, .int (nI len)])), (sg, .inl (g.2.2.1, 200, .inl tx))]) (vp_Si (fun rr => rr = sgn tx len pl)) 0 0 (fun _ => False) := by
  refine ro_start (cc := cX0_signAt) (maxL := 2) (ty := .char) (by decide) rfl (Nat.le_of_ble_eq_true rfl) (fun p e s m args below meth c Q C hP hret ls hl => ?_)
  obtain ⟨hx, hb, hml, hr, hown, hts, hlk, hKK⟩ := id C
  have hK := hKK.1
  have hown : s.vm.findClass RX0 = some m.cls := hown
  have ctx : CallFix p m c cX0_signAt 2 s args wsX0_signAt RX0 := ⟨hx, hb, hml, hown, hts⟩
  have hl : lv_has ls 2 [(0, .ref lt), (1, .int (nI pl))] := hl
  refine lv_iload_n hx hb dX0_signAt_0 rfl (lv_at hl 1 rfl) ?_
  refine lv_if_lt (tgt := 21) hx hb dX0_signAt_1 (by decide) (fun c_1 => ?_) (fun c_1 => ?_)
  · replace c_1 : pl < 0 := (nI_ltI (a := pl) (b := 0) (by omega) (by omega)).mp c_1; omega
  · replace c_1 : ¬ pl < 0 := fun h => c_1 ((nI_ltI (a := pl) (b := 0) (by omega) (by omega)).mpr h)
    refine lv_iload_n hx hb dX0_signAt_4 rfl (lv_at hl 1 rfl) ?_
    refine lv_aload_n hx hb dX0_signAt_5 rfl (lv_at hl 0 rfl) ?_
    refine va_get (D := g.1) (cl := vwCl) (ci := 0) (v := .int (nI len)) (C := RX0) (T := TX0) (N := 2) hx hb hts hX0_signAt_X0 hown hK hP 0 rfl rfl 1 (by decide) (hts _ kX0_signAt_f15) (fun _ h9 => h9) rfl dX0_signAt_6 ?_
    refine lv_icmp_ge (tgt := 21) hx hb dX0_signAt_9 (by decide) (fun c_2 => ?_) (fun c_2 => ?_)
    · replace c_2 : len ≤ pl := (nI_leI (a := len) (b := pl) (by omega) (by omega)).mp c_2
      refine lv_iconst (v := nI 0) hx hb dX0_signAt_21 (by decide) ?_
      exact hret (nI 0) 22 ls (by simp [sgn]; omega) (rfl) dX0_signAt_22
    · replace c_2 : ¬ len ≤ pl := fun h => c_2 ((nI_leI (a := len) (b := pl) (by omega) (by omega)).mpr h)
      refine lv_aload_n hx hb dX0_signAt_12 rfl (lv_at hl 0 rfl) ?_
      refine va_get (D := g.1) (cl := vwCl) (ci := 0) (v := .ref sg) (C := RX0) (T := TX0) (N := 2) hx hb hts hX0_signAt_X0 hown hK hP 0 rfl rfl 0 (by decide) (hts _ kX0_signAt_f9) (fun _ h9 => h9) rfl dX0_signAt_13 ?_
      refine lv_iload_n hx hb dX0_signAt_16 rfl (lv_at hl 1 rfl) ?_
      refine ald_c (D := g.1) (cl := vwCl) (f := tx) (i := pl) (n := 200) hx hb hK hP 1 1 rfl rfl (by omega) (by decide) dX0_signAt_17 ?_
      refine lv_goto (tgt := 22) hx hb dX0_signAt_18 (by decide) ?_
      exact hret (tx pl) 22 ls (by simp [sgn]; omega) (hsg _) dX0_signAt_22
theorem kX1_clear_f27 : (Cond.fieldLink RX1 27 "LastCallersWord$Plan" "persons" "I" : Cond) ∈ wsX1_clear := List.mem_cons_of_mem _ aw_55
theorem hX1_clear_X1 : ∀ w ∈ wsX10, w ∈ wsX1_clear := fun w h => List.mem_cons_of_mem _ (ac_X1 w h)
theorem kX1_clear_f31 : (Cond.fieldLink RX1 31 "LastCallersWord$Plan" "personsTold" "I" : Cond) ∈ wsX1_clear := List.mem_cons_of_mem _ aw_56
theorem kX1_clear_f34 : (Cond.fieldLink RX1 34 "LastCallersWord$Plan" "doors" "I" : Cond) ∈ wsX1_clear := List.mem_cons_of_mem _ aw_57
theorem kX1_clear_f37 : (Cond.fieldLink RX1 37 "LastCallersWord$Plan" "words" "I" : Cond) ∈ wsX1_clear := List.mem_cons_of_mem _ aw_58
theorem kX1_clear_f40 : (Cond.fieldLink RX1 40 "LastCallersWord$Plan" "limit" "I" : Cond) ∈ wsX1_clear := List.mem_cons_of_mem _ aw_59
set_option maxHeartbeats 4000000 in
set_option maxRecDepth 100000 in
theorem c_X1_clear (l : Launch) (g : GG) (p_ : Nat) (q0 : Nat) (q1 : Nat) (q2 : Nat) (q3 : Nat) (q4 : Nat) (n0 : Nat) (n1 : Nat) (n2 : Nat) (n3 : Nat) (n4 : Nat) : Met l yX1_clear wsX1_clear ({ frames := 0, cells := 0, slots := 0, locals := 0 } : Room) (wr g [.ref p_] [(p_, .inr (1, [.ref q0, .ref q1, .ref q2, .ref q3, .ref q4, .int (nI n0), .int (nI n1), .int (nI n2), .int (nI n3), .int (nI n4)]))]) (wQv g [(p_, .inr (1, [.ref q0, .ref q1, .ref q2, .ref q3, .ref q4, .int (nI n0), .int (nI n1), .int (nI n2), .int (nI n3), .int (nI n4)]))] (fun u : Unit => [(p_, .inr (1, [.ref q0, .ref q1, .ref q2, .ref q3, .ref q4, .int (nI 4), .int (nI 0), .int (nI 0), .int (nI 0), .int (nI 3)]))]) (fun u => True)) 0 0 (cA [(p_, .inr (1, [.ref q0, .ref q1, .ref q2, .ref q3, .ref q4, .int (nI n0), .int (nI n1), .int (nI n2), .int (nI n3), .int (nI n4)]))]) := by
  refine wr_startv (cc := cX1_clear) (maxL := 1) (by decide) rfl (Nat.le_of_ble_eq_true rfl) (fun p e s m args below meth c Q A C hP hD hS hret ls hl => ?_)
  obtain ⟨hx, hb, hml, hr, hown, hts, hlk, hKK⟩ := id C
  have hK := hKK.1
  have hown : s.vm.findClass RX1 = some m.cls := hown
  have ctx : CallFix p m c cX1_clear 1 s args wsX1_clear RX1 := ⟨hx, hb, hml, hown, hts⟩
  have hl : lv_has ls 1 [(0, .ref p_)] := hl
  obtain ⟨H, hHe⟩ : ∃ H, H = s.heap := ⟨_, rfl⟩
  obtain ⟨locs, hLe⟩ : ∃ L : List Loc, L = [] := ⟨_, rfl⟩
  have hP : va_P g.1 vwCl [(p_, .inr (1, [.ref q0, .ref q1, .ref q2, .ref q3, .ref q4, .int (nI n0), .int (nI n1), .int (nI n2), .int (nI n3), .int (nI n4)]))] H := by rw [hHe]; exact hP
  have hS : va_S A s.heap H locs := by rw [hHe, hLe]; exact hS
  suffices hgo : W p l e ({ frames := 0, cells := 0, slots := 0, locals := 0 } : Room) s m args below meth c H locs 0 0 Q (F0 m 0 ls []) by rw [hHe, hLe] at hgo; exact hgo
  clear hHe hLe
  refine lv_aload_n hx hb dX1_clear_0 rfl (lv_at hl 0 rfl) ?_
  refine lv_iconst (v := nI 4) hx hb dX1_clear_1 (by decide) ?_
  refine va_put (D := g.1) (cl := vwCl) (ci := 1) (v := .int (nI 4)) (ty := .int) (C := RX1) (T := TX1) (N := 10) hx hb hts hX1_clear_X1 tyX1 tyX1_ok nmX1 hown hK hP hD hS 0 rfl rfl 5 (by decide) (hts _ kX1_clear_f27) (fun _ h9 => h9) rfl (by decide +kernel) (rfl) (rfl) (Nat.le_of_ble_eq_true rfl) dX1_clear_2 (fun H locs hP hD hS => ?_)
  have hP : va_P g.1 vwCl [(p_, .inr (1, [.ref q0, .ref q1, .ref q2, .ref q3, .ref q4, .int (nI 4), .int (nI n1), .int (nI n2), .int (nI n3), .int (nI n4)]))] H := hP
  have hD : va_D A [(p_, .inr (1, [.ref q0, .ref q1, .ref q2, .ref q3, .ref q4, .int (nI 4), .int (nI n1), .int (nI n2), .int (nI n3), .int (nI n4)]))] := hD
  refine lv_aload_n hx hb dX1_clear_5 rfl (lv_at hl 0 rfl) ?_
  refine lv_iconst (v := nI 0) hx hb dX1_clear_6 (by decide) ?_
  refine va_put (D := g.1) (cl := vwCl) (ci := 1) (v := .int (nI 0)) (ty := .int) (C := RX1) (T := TX1) (N := 10) hx hb hts hX1_clear_X1 tyX1 tyX1_ok nmX1 hown hK hP hD hS 0 rfl rfl 6 (by decide) (hts _ kX1_clear_f31) (fun _ h9 => h9) rfl (by decide +kernel) (rfl) (rfl) (Nat.le_of_ble_eq_true rfl) dX1_clear_7 (fun H locs hP hD hS => ?_)
  have hP : va_P g.1 vwCl [(p_, .inr (1, [.ref q0, .ref q1, .ref q2, .ref q3, .ref q4, .int (nI 4), .int (nI 0), .int (nI n2), .int (nI n3), .int (nI n4)]))] H := hP
  have hD : va_D A [(p_, .inr (1, [.ref q0, .ref q1, .ref q2, .ref q3, .ref q4, .int (nI 4), .int (nI 0), .int (nI n2), .int (nI n3), .int (nI n4)]))] := hD
  refine lv_aload_n hx hb dX1_clear_10 rfl (lv_at hl 0 rfl) ?_
  refine lv_iconst (v := nI 0) hx hb dX1_clear_11 (by decide) ?_
  refine va_put (D := g.1) (cl := vwCl) (ci := 1) (v := .int (nI 0)) (ty := .int) (C := RX1) (T := TX1) (N := 10) hx hb hts hX1_clear_X1 tyX1 tyX1_ok nmX1 hown hK hP hD hS 0 rfl rfl 7 (by decide) (hts _ kX1_clear_f34) (fun _ h9 => h9) rfl (by decide +kernel) (rfl) (rfl) (Nat.le_of_ble_eq_true rfl) dX1_clear_12 (fun H locs hP hD hS => ?_)
  have hP : va_P g.1 vwCl [(p_, .inr (1, [.ref q0, .ref q1, .ref q2, .ref q3, .ref q4, .int (nI 4), .int (nI 0), .int (nI 0), .int (nI n3), .int (nI n4)]))] H := hP
  have hD : va_D A [(p_, .inr (1, [.ref q0, .ref q1, .ref q2, .ref q3, .ref q4, .int (nI 4), .int (nI 0), .int (nI 0), .int (nI n3), .int (nI n4)]))] := hD
  refine lv_aload_n hx hb dX1_clear_15 rfl (lv_at hl 0 rfl) ?_
  refine lv_iconst (v := nI 0) hx hb dX1_clear_16 (by decide) ?_
  refine va_put (D := g.1) (cl := vwCl) (ci := 1) (v := .int (nI 0)) (ty := .int) (C := RX1) (T := TX1) (N := 10) hx hb hts hX1_clear_X1 tyX1 tyX1_ok nmX1 hown hK hP hD hS 0 rfl rfl 8 (by decide) (hts _ kX1_clear_f37) (fun _ h9 => h9) rfl (by decide +kernel) (rfl) (rfl) (Nat.le_of_ble_eq_true rfl) dX1_clear_17 (fun H locs hP hD hS => ?_)
  have hP : va_P g.1 vwCl [(p_, .inr (1, [.ref q0, .ref q1, .ref q2, .ref q3, .ref q4, .int (nI 4), .int (nI 0), .int (nI 0), .int (nI 0), .int (nI n4)]))] H := hP
  have hD : va_D A [(p_, .inr (1, [.ref q0, .ref q1, .ref q2, .ref q3, .ref q4, .int (nI 4), .int (nI 0), .int (nI 0), .int (nI 0), .int (nI n4)]))] := hD
  refine lv_aload_n hx hb dX1_clear_20 rfl (lv_at hl 0 rfl) ?_
  refine lv_iconst (v := nI 3) hx hb dX1_clear_21 (by decide) ?_
  refine va_put (D := g.1) (cl := vwCl) (ci := 1) (v := .int (nI 3)) (ty := .int) (C := RX1) (T := TX1) (N := 10) hx hb hts hX1_clear_X1 tyX1 tyX1_ok nmX1 hown hK hP hD hS 0 rfl rfl 9 (by decide) (hts _ kX1_clear_f40) (fun _ h9 => h9) rfl (by decide +kernel) (rfl) (rfl) (Nat.le_of_ble_eq_true rfl) dX1_clear_22 (fun H locs hP hD hS => ?_)
  have hP : va_P g.1 vwCl [(p_, .inr (1, [.ref q0, .ref q1, .ref q2, .ref q3, .ref q4, .int (nI 4), .int (nI 0), .int (nI 0), .int (nI 0), .int (nI 3)]))] H := hP
  have hD : va_D A [(p_, .inr (1, [.ref q0, .ref q1, .ref q2, .ref q3, .ref q4, .int (nI 4), .int (nI 0), .int (nI 0), .int (nI 0), .int (nI 3)]))] := hD
  exact hret () H locs 25 ls (trivial) (hP) (hD) hS dX1_clear_25
theorem kX1_isWhole_f31 : (Cond.fieldLink RX1 31 "LastCallersWord$Plan" "personsTold" "I" : Cond) ∈ wsX1_isWhole := List.mem_cons_of_mem _ aw_56
theorem hX1_isWhole_X1 : ∀ w ∈ wsX10, w ∈ wsX1_isWhole := fun w h => List.mem_cons_of_mem _ (ac_X1 w h)
theorem kX1_isWhole_f27 : (Cond.fieldLink RX1 27 "LastCallersWord$Plan" "persons" "I" : Cond) ∈ wsX1_isWhole := List.mem_cons_of_mem _ aw_55
theorem kX1_isWhole_f34 : (Cond.fieldLink RX1 34 "LastCallersWord$Plan" "doors" "I" : Cond) ∈ wsX1_isWhole := List.mem_cons_of_mem _ aw_57
set_option maxHeartbeats 4000000 in
set_option maxRecDepth 100000 in
theorem c_X1_isWhole (l : Launch) (g : GG) (p_ : Nat) (q0 : Nat) (q1 : Nat) (q2 : Nat) (q3 : Nat) (q4 : Nat) (n0 : Nat) (n1 : Nat) (n2 : Nat) (n3 : Nat) (n4 : Nat) (h0 : n0 ≤ 8) (h1 : n1 ≤ 8) (h2 : n2 ≤ 5) : Met l yX1_isWhole wsX1_isWhole ({ frames := 0, cells := 0, slots := 0, locals := 0 } : Room) (ro g [.ref p_] [(p_, .inr (1, [.ref q0, .ref q1, .ref q2, .ref q3, .ref q4, .int (nI n0), .int (nI n1), .int (nI n2), .int (nI n3), .int (nI n4)]))]) (vp_Si (fun rr => rr = bI (decide (n1 = n0 ∧ 0 < n2)))) 0 0 (fun _ => False) := by
  refine ro_start (cc := cX1_isWhole) (maxL := 1) (ty := .boolean) (by decide) rfl (Nat.le_of_ble_eq_true rfl) (fun p e s m args below meth c Q C hP hret ls hl => ?_)
  obtain ⟨hx, hb, hml, hr, hown, hts, hlk, hKK⟩ := id C
  have hK := hKK.1
  have hown : s.vm.findClass RX1 = some m.cls := hown
  have ctx : CallFix p m c cX1_isWhole 1 s args wsX1_isWhole RX1 := ⟨hx, hb, hml, hown, hts⟩
  have hl : lv_has ls 1 [(0, .ref p_)] := hl
  refine lv_aload_n hx hb dX1_isWhole_0 rfl (lv_at hl 0 rfl) ?_
  refine va_get (D := g.1) (cl := vwCl) (ci := 1) (v := .int (nI n1)) (C := RX1) (T := TX1) (N := 10) hx hb hts hX1_isWhole_X1 hown hK hP 0 rfl rfl 6 (by decide) (hts _ kX1_isWhole_f31) (fun _ h9 => h9) rfl dX1_isWhole_1 ?_
  refine lv_aload_n hx hb dX1_isWhole_4 rfl (lv_at hl 0 rfl) ?_
  refine va_get (D := g.1) (cl := vwCl) (ci := 1) (v := .int (nI n0)) (C := RX1) (T := TX1) (N := 10) hx hb hts hX1_isWhole_X1 hown hK hP 0 rfl rfl 5 (by decide) (hts _ kX1_isWhole_f27) (fun _ h9 => h9) rfl dX1_isWhole_5 ?_
  refine lv_icmp_ne (tgt := 22) hx hb dX1_isWhole_8 (by decide) (fun c_1 => ?_) (fun c_1 => ?_)
  · replace c_1 : ¬ n1 = n0 := fun h => c_1 ((nI_eq (a := n1) (b := n0) (by omega) (by omega)).mpr h)
    refine lv_iconst (v := nI 0) hx hb dX1_isWhole_22 (by decide) ?_
    exact hret (nI 0) 23 ls (by simp [bI]; omega) (rfl) dX1_isWhole_23
  · replace c_1 : n1 = n0 := (nI_eq (a := n1) (b := n0) (by omega) (by omega)).mp c_1
    refine lv_aload_n hx hb dX1_isWhole_11 rfl (lv_at hl 0 rfl) ?_
    refine va_get (D := g.1) (cl := vwCl) (ci := 1) (v := .int (nI n2)) (C := RX1) (T := TX1) (N := 10) hx hb hts hX1_isWhole_X1 hown hK hP 0 rfl rfl 7 (by decide) (hts _ kX1_isWhole_f34) (fun _ h9 => h9) rfl dX1_isWhole_12 ?_
    refine lv_if_le (tgt := 22) hx hb dX1_isWhole_15 (by decide) (fun c_2 => ?_) (fun c_2 => ?_)
    · replace c_2 : n2 ≤ 0 := (nI_leI (a := n2) (b := 0) (by omega) (by omega)).mp c_2
      refine lv_iconst (v := nI 0) hx hb dX1_isWhole_22 (by decide) ?_
      exact hret (nI 0) 23 ls (by simp [bI]; omega) (rfl) dX1_isWhole_23
    · replace c_2 : ¬ n2 ≤ 0 := fun h => c_2 ((nI_leI (a := n2) (b := 0) (by omega) (by omega)).mpr h)
      refine lv_iconst (v := nI 1) hx hb dX1_isWhole_18 (by decide) ?_
      refine lv_goto (tgt := 23) hx hb dX1_isWhole_19 (by decide) ?_
      exact hret (nI 1) 23 ls (by simp [bI]; omega) (rfl) dX1_isWhole_23
theorem kX1_rankOf_f37 : (Cond.fieldLink RX1 37 "LastCallersWord$Plan" "words" "I" : Cond) ∈ wsX1_rankOf := List.mem_cons_of_mem _ aw_58
theorem hX1_rankOf_X1 : ∀ w ∈ wsX10, w ∈ wsX1_rankOf := fun w h => List.mem_cons_of_mem _ (ac_X1 w h)
theorem kX1_rankOf_f24 : (Cond.fieldLink RX1 24 "LastCallersWord$Plan" "parts" "[I" : Cond) ∈ wsX1_rankOf := List.mem_cons_of_mem _ aw_54
set_option maxHeartbeats 4000000 in
set_option maxRecDepth 100000 in
theorem c_X1_rankOf (l : Launch) (g : GG) (p_ : Nat) (q0 : Nat) (q1 : Nat) (q2 : Nat) (q3 : Nat) (q4 : Nat) (n0 : Nat) (n1 : Nat) (n2 : Nat) (n3 : Nat) (n4 : Nat) (f4 : Nat → Int32) (w : Nat) (h3 : n3 ≤ 6) (hw : w < 6) : Met l yX1_rankOf wsX1_rankOf ({ frames := 0, cells := 0, slots := 0, locals := 0 } : Room) (ro g [.ref p_, .int (nI w)] [(p_, .inr (1, [.ref q0, .ref q1, .ref q2, .ref q3, .ref q4, .int (nI n0), .int (nI n1), .int (nI n2), .int (nI n3), .int (nI n4)])), (q4, .inl (g.2.1, 6, .inl f4))]) (vp_Si (fun rr => rr = nI (rkN f4 w n3))) 0 0 (fun _ => False) := by
  refine ro_start (cc := cX1_rankOf) (maxL := 6) (ty := .int) (by decide) rfl (Nat.le_of_ble_eq_true rfl) (fun p e s m args below meth c Q C hP hret ls hl => ?_)
  obtain ⟨hx, hb, hml, hr, hown, hts, hlk, hKK⟩ := id C
  have hK := hKK.1
  have hown : s.vm.findClass RX1 = some m.cls := hown
  have ctx : CallFix p m c cX1_rankOf 6 s args wsX1_rankOf RX1 := ⟨hx, hb, hml, hown, hts⟩
  have hl : lv_has ls 6 [(0, .ref p_), (1, .int (nI w))] := hl
  refine lv_iconst (v := nI 0) hx hb dX1_rankOf_0 (by decide) ?_
  refine lv_istore_n (lv' := [(2, .int (nI 0)), (0, .ref p_), (1, .int (nI w))]) hx hb dX1_rankOf_1 rfl hl (by decide) rfl (fun ls hl => ?_)
  refine lv_iconst (v := nI 0) hx hb dX1_rankOf_2 (by decide) ?_
  refine lv_istore_n (lv' := [(3, .int (nI 0)), (2, .int (nI 0)), (0, .ref p_), (1, .int (nI w))]) hx hb dX1_rankOf_3 rfl hl (by decide) rfl (fun ls hl => ?_)
  have LP4 : ∀ (fu : Nat) (j : Nat) (x2 : Nat), n3 - j < fu → (j ≤ n3) → (x2 = rkN f4 w j) → ∀ (ls : Array Slot), lv_has ls 6 [(3, .int (nI j)), (2, .int (nI x2)), (0, .ref p_), (1, .int (nI w))] → W p l e ({ frames := 0, cells := 0, slots := 0, locals := 0 } : Room) s m args below meth c s.heap [] 0 0 Q (F0 m 4 ls []) := by
    intro fu
    induction fu with
    | zero => intro j x2 hfu; exact absurd hfu (Nat.not_lt_zero _)
    | succ fu ih4 =>
      intro j x2 hfu hj e2 ls hl
      refine lv_iload_n hx hb dX1_rankOf_4 rfl (lv_at hl 0 rfl) ?_
      refine lv_aload_n hx hb dX1_rankOf_5 rfl (lv_at hl 2 rfl) ?_
      refine va_get (D := g.1) (cl := vwCl) (ci := 1) (v := .int (nI n3)) (C := RX1) (T := TX1) (N := 10) hx hb hts hX1_rankOf_X1 hown hK hP 0 rfl rfl 8 (by decide) (hts _ kX1_rankOf_f37) (fun _ h9 => h9) rfl dX1_rankOf_6 ?_
      refine lv_icmp_ge (tgt := 80) hx hb dX1_rankOf_9 (by decide) (fun c_1 => ?_) (fun c_1 => ?_)
      · replace c_1 : n3 ≤ j := (nI_leI (a := n3) (b := j) (by omega) (by omega)).mp c_1
        refine lv_iload_n hx hb dX1_rankOf_80 rfl (lv_at hl 1 rfl) ?_
        exact hret (nI x2) 81 ls (by rw [e2, show j = n3 by omega]) (rfl) dX1_rankOf_81
      · replace c_1 : ¬ n3 ≤ j := fun h => c_1 ((nI_leI (a := n3) (b := j) (by omega) (by omega)).mpr h)
        refine lv_aload_n hx hb dX1_rankOf_12 rfl (lv_at hl 2 rfl) ?_
        refine va_get (D := g.1) (cl := vwCl) (ci := 1) (v := .ref q4) (C := RX1) (T := TX1) (N := 10) hx hb hts hX1_rankOf_X1 hown hK hP 0 rfl rfl 4 (by decide) (hts _ kX1_rankOf_f24) (fun _ h9 => h9) rfl dX1_rankOf_13 ?_
        refine lv_iload_n hx hb dX1_rankOf_16 rfl (lv_at hl 0 rfl) ?_
        refine ald_i (D := g.1) (cl := vwCl) (f := f4) (i := j) (n := 6) hx hb hK hP 1 0 rfl rfl (by omega) (by decide) dX1_rankOf_17 ?_
        refine lv_aload_n hx hb dX1_rankOf_18 rfl (lv_at hl 2 rfl) ?_
        refine va_get (D := g.1) (cl := vwCl) (ci := 1) (v := .ref q4) (C := RX1) (T := TX1) (N := 10) hx hb hts hX1_rankOf_X1 hown hK hP 0 rfl rfl 4 (by decide) (hts _ kX1_rankOf_f24) (fun _ h9 => h9) rfl dX1_rankOf_19 ?_
        refine lv_iload_n hx hb dX1_rankOf_22 rfl (lv_at hl 3 rfl) ?_
        refine ald_i (D := g.1) (cl := vwCl) (f := f4) (i := w) (n := 6) hx hb hK hP 1 0 rfl rfl (by omega) (by decide) dX1_rankOf_23 ?_
        refine lv_icmp_le (tgt := 31) hx hb dX1_rankOf_24 (by decide) (fun c_2 => ?_) (fun c_2 => ?_)
        · refine lv_iconst (v := nI 0) hx hb dX1_rankOf_31 (by decide) ?_
          refine lv_istore (lv' := [(4, .int (nI 0)), (3, .int (nI j)), (2, .int (nI x2)), (0, .ref p_), (1, .int (nI w))]) hx hb dX1_rankOf_32 hl (by decide) rfl (fun ls hl => ?_)
          refine lv_aload_n hx hb dX1_rankOf_34 rfl (lv_at hl 3 rfl) ?_
          refine va_get (D := g.1) (cl := vwCl) (ci := 1) (v := .ref q4) (C := RX1) (T := TX1) (N := 10) hx hb hts hX1_rankOf_X1 hown hK hP 0 rfl rfl 4 (by decide) (hts _ kX1_rankOf_f24) (fun _ h9 => h9) rfl dX1_rankOf_35 ?_
          refine lv_iload_n hx hb dX1_rankOf_38 rfl (lv_at hl 1 rfl) ?_
          refine ald_i (D := g.1) (cl := vwCl) (f := f4) (i := j) (n := 6) hx hb hK hP 1 0 rfl rfl (by omega) (by decide) dX1_rankOf_39 ?_
          refine lv_aload_n hx hb dX1_rankOf_40 rfl (lv_at hl 3 rfl) ?_
          refine va_get (D := g.1) (cl := vwCl) (ci := 1) (v := .ref q4) (C := RX1) (T := TX1) (N := 10) hx hb hts hX1_rankOf_X1 hown hK hP 0 rfl rfl 4 (by decide) (hts _ kX1_rankOf_f24) (fun _ h9 => h9) rfl dX1_rankOf_41 ?_
          refine lv_iload_n hx hb dX1_rankOf_44 rfl (lv_at hl 4 rfl) ?_
          refine ald_i (D := g.1) (cl := vwCl) (f := f4) (i := w) (n := 6) hx hb hK hP 1 0 rfl rfl (by omega) (by decide) dX1_rankOf_45 ?_
          refine lv_icmp_ne (tgt := 58) hx hb dX1_rankOf_46 (by decide) (fun c_3 => ?_) (fun c_3 => ?_)
          · refine lv_iconst (v := nI 0) hx hb dX1_rankOf_58 (by decide) ?_
            refine lv_istore (lv' := [(5, .int (nI 0)), (4, .int (nI 0)), (3, .int (nI j)), (2, .int (nI x2)), (0, .ref p_), (1, .int (nI w))]) hx hb dX1_rankOf_59 hl (by decide) rfl (fun ls hl => ?_)
            refine lv_iload hx hb dX1_rankOf_61 (lv_at hl 1 rfl) ?_
            refine lv_if_ne (tgt := 71) hx hb dX1_rankOf_63 (by decide) (fun c_4 => absurd c_4 (by decide)) (fun c_4 => ?_)
            refine lv_iload hx hb dX1_rankOf_66 (lv_at hl 0 rfl) ?_
            refine lv_if_eq (tgt := 74) hx hb dX1_rankOf_68 (by decide) (fun c_5 => ?_) (fun c_5 => absurd c_5 (by decide))
            refine lv_iinc (v := nI (j + 1)) (lv' := [(3, .int (nI (j + 1))), (5, .int (nI 0)), (4, .int (nI 0)), (2, .int (nI x2)), (0, .ref p_), (1, .int (nI w))]) hx hb dX1_rankOf_74 hl (k := 2) rfl (iincK j 1) (by decide) rfl (fun ls hl => ?_)
            refine lv_goto (tgt := 4) hx hb dX1_rankOf_77 (by decide) ?_
            exact ih4 (j + 1) x2 (by omega) (by omega) (by rw [rkN, ← e2]; first | (rw [if_pos (Or.inl (by assumption))]; done) | (simp [c_1, c_2, c_3]; done)) ls (lv_sub hl [0, 3, 4, 5] rfl)
          · refine lv_iload_n hx hb dX1_rankOf_49 rfl (lv_at hl 1 rfl) ?_
            refine lv_iload_n hx hb dX1_rankOf_50 rfl (lv_at hl 4 rfl) ?_
            refine lv_icmp_ge (tgt := 58) hx hb dX1_rankOf_51 (by decide) (fun c_6 => ?_) (fun c_6 => ?_)
            · replace c_6 : w ≤ j := (nI_leI (a := w) (b := j) (by omega) (by omega)).mp c_6
              refine lv_iconst (v := nI 0) hx hb dX1_rankOf_58 (by decide) ?_
              refine lv_istore (lv' := [(5, .int (nI 0)), (4, .int (nI 0)), (3, .int (nI j)), (2, .int (nI x2)), (0, .ref p_), (1, .int (nI w))]) hx hb dX1_rankOf_59 hl (by decide) rfl (fun ls hl => ?_)
              refine lv_iload hx hb dX1_rankOf_61 (lv_at hl 1 rfl) ?_
              refine lv_if_ne (tgt := 71) hx hb dX1_rankOf_63 (by decide) (fun c_7 => absurd c_7 (by decide)) (fun c_7 => ?_)
              refine lv_iload hx hb dX1_rankOf_66 (lv_at hl 0 rfl) ?_
              refine lv_if_eq (tgt := 74) hx hb dX1_rankOf_68 (by decide) (fun c_8 => ?_) (fun c_8 => absurd c_8 (by decide))
              refine lv_iinc (v := nI (j + 1)) (lv' := [(3, .int (nI (j + 1))), (5, .int (nI 0)), (4, .int (nI 0)), (2, .int (nI x2)), (0, .ref p_), (1, .int (nI w))]) hx hb dX1_rankOf_74 hl (k := 2) rfl (iincK j 1) (by decide) rfl (fun ls hl => ?_)
              refine lv_goto (tgt := 4) hx hb dX1_rankOf_77 (by decide) ?_
              exact ih4 (j + 1) x2 (by omega) (by omega) (by rw [rkN, ← e2]; first | (rw [if_pos (Or.inl (by assumption))]; done) | (simp [c_1, c_2, c_3, c_6]; done)) ls (lv_sub hl [0, 3, 4, 5] rfl)
            · replace c_6 : ¬ w ≤ j := fun h => c_6 ((nI_leI (a := w) (b := j) (by omega) (by omega)).mpr h)
              refine lv_iconst (v := nI 1) hx hb dX1_rankOf_54 (by decide) ?_
              refine lv_goto (tgt := 59) hx hb dX1_rankOf_55 (by decide) ?_
              refine lv_istore (lv' := [(5, .int (nI 1)), (4, .int (nI 0)), (3, .int (nI j)), (2, .int (nI x2)), (0, .ref p_), (1, .int (nI w))]) hx hb dX1_rankOf_59 hl (by decide) rfl (fun ls hl => ?_)
              refine lv_iload hx hb dX1_rankOf_61 (lv_at hl 1 rfl) ?_
              refine lv_if_ne (tgt := 71) hx hb dX1_rankOf_63 (by decide) (fun c_9 => absurd c_9 (by decide)) (fun c_9 => ?_)
              refine lv_iload hx hb dX1_rankOf_66 (lv_at hl 0 rfl) ?_
              refine lv_if_eq (tgt := 74) hx hb dX1_rankOf_68 (by decide) (fun c_10 => absurd c_10 (by decide)) (fun c_10 => ?_)
              refine lv_iinc (v := nI (x2 + 1)) (lv' := [(2, .int (nI (x2 + 1))), (5, .int (nI 1)), (4, .int (nI 0)), (3, .int (nI j)), (0, .ref p_), (1, .int (nI w))]) hx hb dX1_rankOf_71 hl (k := 3) rfl (iincK x2 1) (by decide) rfl (fun ls hl => ?_)
              refine lv_iinc (v := nI (j + 1)) (lv' := [(3, .int (nI (j + 1))), (2, .int (nI (x2 + 1))), (5, .int (nI 1)), (4, .int (nI 0)), (0, .ref p_), (1, .int (nI w))]) hx hb dX1_rankOf_74 hl (k := 3) rfl (iincK j 1) (by decide) rfl (fun ls hl => ?_)
              refine lv_goto (tgt := 4) hx hb dX1_rankOf_77 (by decide) ?_
              exact ih4 (j + 1) (x2 + 1) (by omega) (by omega) (by rw [rkN, ← e2]; first | (rw [if_pos (Or.inl (by assumption))]; done) | (simp [c_1, c_2, c_3, c_6]; done)) ls (lv_sub hl [0, 1, 4, 5] rfl)
        · refine lv_iconst (v := nI 1) hx hb dX1_rankOf_27 (by decide) ?_
          refine lv_goto (tgt := 32) hx hb dX1_rankOf_28 (by decide) ?_
          refine lv_istore (lv' := [(4, .int (nI 1)), (3, .int (nI j)), (2, .int (nI x2)), (0, .ref p_), (1, .int (nI w))]) hx hb dX1_rankOf_32 hl (by decide) rfl (fun ls hl => ?_)
          refine lv_aload_n hx hb dX1_rankOf_34 rfl (lv_at hl 3 rfl) ?_
          refine va_get (D := g.1) (cl := vwCl) (ci := 1) (v := .ref q4) (C := RX1) (T := TX1) (N := 10) hx hb hts hX1_rankOf_X1 hown hK hP 0 rfl rfl 4 (by decide) (hts _ kX1_rankOf_f24) (fun _ h9 => h9) rfl dX1_rankOf_35 ?_
          refine lv_iload_n hx hb dX1_rankOf_38 rfl (lv_at hl 1 rfl) ?_
          refine ald_i (D := g.1) (cl := vwCl) (f := f4) (i := j) (n := 6) hx hb hK hP 1 0 rfl rfl (by omega) (by decide) dX1_rankOf_39 ?_
          refine lv_aload_n hx hb dX1_rankOf_40 rfl (lv_at hl 3 rfl) ?_
          refine va_get (D := g.1) (cl := vwCl) (ci := 1) (v := .ref q4) (C := RX1) (T := TX1) (N := 10) hx hb hts hX1_rankOf_X1 hown hK hP 0 rfl rfl 4 (by decide) (hts _ kX1_rankOf_f24) (fun _ h9 => h9) rfl dX1_rankOf_41 ?_
          refine lv_iload_n hx hb dX1_rankOf_44 rfl (lv_at hl 4 rfl) ?_
          refine ald_i (D := g.1) (cl := vwCl) (f := f4) (i := w) (n := 6) hx hb hK hP 1 0 rfl rfl (by omega) (by decide) dX1_rankOf_45 ?_
          refine lv_icmp_ne (tgt := 58) hx hb dX1_rankOf_46 (by decide) (fun c_11 => ?_) (fun c_11 => ?_)
          · refine lv_iconst (v := nI 0) hx hb dX1_rankOf_58 (by decide) ?_
            refine lv_istore (lv' := [(5, .int (nI 0)), (4, .int (nI 1)), (3, .int (nI j)), (2, .int (nI x2)), (0, .ref p_), (1, .int (nI w))]) hx hb dX1_rankOf_59 hl (by decide) rfl (fun ls hl => ?_)
            refine lv_iload hx hb dX1_rankOf_61 (lv_at hl 1 rfl) ?_
            refine lv_if_ne (tgt := 71) hx hb dX1_rankOf_63 (by decide) (fun c_12 => ?_) (fun c_12 => absurd c_12 (by decide))
            refine lv_iinc (v := nI (x2 + 1)) (lv' := [(2, .int (nI (x2 + 1))), (5, .int (nI 0)), (4, .int (nI 1)), (3, .int (nI j)), (0, .ref p_), (1, .int (nI w))]) hx hb dX1_rankOf_71 hl (k := 3) rfl (iincK x2 1) (by decide) rfl (fun ls hl => ?_)
            refine lv_iinc (v := nI (j + 1)) (lv' := [(3, .int (nI (j + 1))), (2, .int (nI (x2 + 1))), (5, .int (nI 0)), (4, .int (nI 1)), (0, .ref p_), (1, .int (nI w))]) hx hb dX1_rankOf_74 hl (k := 3) rfl (iincK j 1) (by decide) rfl (fun ls hl => ?_)
            refine lv_goto (tgt := 4) hx hb dX1_rankOf_77 (by decide) ?_
            exact ih4 (j + 1) (x2 + 1) (by omega) (by omega) (by rw [rkN, ← e2]; first | (rw [if_pos (Or.inl (by assumption))]; done) | (simp [c_1, c_2, c_11]; done)) ls (lv_sub hl [0, 1, 4, 5] rfl)
          · refine lv_iload_n hx hb dX1_rankOf_49 rfl (lv_at hl 1 rfl) ?_
            refine lv_iload_n hx hb dX1_rankOf_50 rfl (lv_at hl 4 rfl) ?_
            refine lv_icmp_ge (tgt := 58) hx hb dX1_rankOf_51 (by decide) (fun c_13 => ?_) (fun c_13 => ?_)
            · replace c_13 : w ≤ j := (nI_leI (a := w) (b := j) (by omega) (by omega)).mp c_13
              refine lv_iconst (v := nI 0) hx hb dX1_rankOf_58 (by decide) ?_
              refine lv_istore (lv' := [(5, .int (nI 0)), (4, .int (nI 1)), (3, .int (nI j)), (2, .int (nI x2)), (0, .ref p_), (1, .int (nI w))]) hx hb dX1_rankOf_59 hl (by decide) rfl (fun ls hl => ?_)
              refine lv_iload hx hb dX1_rankOf_61 (lv_at hl 1 rfl) ?_
              refine lv_if_ne (tgt := 71) hx hb dX1_rankOf_63 (by decide) (fun c_14 => ?_) (fun c_14 => absurd c_14 (by decide))
              refine lv_iinc (v := nI (x2 + 1)) (lv' := [(2, .int (nI (x2 + 1))), (5, .int (nI 0)), (4, .int (nI 1)), (3, .int (nI j)), (0, .ref p_), (1, .int (nI w))]) hx hb dX1_rankOf_71 hl (k := 3) rfl (iincK x2 1) (by decide) rfl (fun ls hl => ?_)
              refine lv_iinc (v := nI (j + 1)) (lv' := [(3, .int (nI (j + 1))), (2, .int (nI (x2 + 1))), (5, .int (nI 0)), (4, .int (nI 1)), (0, .ref p_), (1, .int (nI w))]) hx hb dX1_rankOf_74 hl (k := 3) rfl (iincK j 1) (by decide) rfl (fun ls hl => ?_)
              refine lv_goto (tgt := 4) hx hb dX1_rankOf_77 (by decide) ?_
              exact ih4 (j + 1) (x2 + 1) (by omega) (by omega) (by rw [rkN, ← e2]; first | (rw [if_pos (Or.inl (by assumption))]; done) | (simp [c_1, c_2, c_11, c_13]; done)) ls (lv_sub hl [0, 1, 4, 5] rfl)
            · replace c_13 : ¬ w ≤ j := fun h => c_13 ((nI_leI (a := w) (b := j) (by omega) (by omega)).mpr h)
              refine lv_iconst (v := nI 1) hx hb dX1_rankOf_54 (by decide) ?_
              refine lv_goto (tgt := 59) hx hb dX1_rankOf_55 (by decide) ?_
              refine lv_istore (lv' := [(5, .int (nI 1)), (4, .int (nI 1)), (3, .int (nI j)), (2, .int (nI x2)), (0, .ref p_), (1, .int (nI w))]) hx hb dX1_rankOf_59 hl (by decide) rfl (fun ls hl => ?_)
              refine lv_iload hx hb dX1_rankOf_61 (lv_at hl 1 rfl) ?_
              refine lv_if_ne (tgt := 71) hx hb dX1_rankOf_63 (by decide) (fun c_15 => ?_) (fun c_15 => absurd c_15 (by decide))
              refine lv_iinc (v := nI (x2 + 1)) (lv' := [(2, .int (nI (x2 + 1))), (5, .int (nI 1)), (4, .int (nI 1)), (3, .int (nI j)), (0, .ref p_), (1, .int (nI w))]) hx hb dX1_rankOf_71 hl (k := 3) rfl (iincK x2 1) (by decide) rfl (fun ls hl => ?_)
              refine lv_iinc (v := nI (j + 1)) (lv' := [(3, .int (nI (j + 1))), (2, .int (nI (x2 + 1))), (5, .int (nI 1)), (4, .int (nI 1)), (0, .ref p_), (1, .int (nI w))]) hx hb dX1_rankOf_74 hl (k := 3) rfl (iincK j 1) (by decide) rfl (fun ls hl => ?_)
              refine lv_goto (tgt := 4) hx hb dX1_rankOf_77 (by decide) ?_
              exact ih4 (j + 1) (x2 + 1) (by omega) (by omega) (by rw [rkN, ← e2]; first | (rw [if_pos (Or.inl (by assumption))]; done) | (simp [c_1, c_2, c_11, c_13]; done)) ls (lv_sub hl [0, 1, 4, 5] rfl)
  exact LP4 (n3 + 1) 0 0 (by omega) (by omega) (rfl) ls (lv_sub hl [0, 1, 2, 3] rfl)
theorem kX1_allParts_f37 : (Cond.fieldLink RX1 37 "LastCallersWord$Plan" "words" "I" : Cond) ∈ wsX1_allParts := List.mem_cons_of_mem _ aw_58
theorem hX1_allParts_X1 : ∀ w ∈ wsX10, w ∈ wsX1_allParts := fun w h => List.mem_cons_of_mem _ (ac_X1 w h)
theorem kX1_allParts_f24 : (Cond.fieldLink RX1 24 "LastCallersWord$Plan" "parts" "[I" : Cond) ∈ wsX1_allParts := List.mem_cons_of_mem _ aw_54
set_option maxHeartbeats 4000000 in
set_option maxRecDepth 100000 in
theorem c_X1_allParts (l : Launch) (g : GG) (p_ : Nat) (q0 : Nat) (q1 : Nat) (q2 : Nat) (q3 : Nat) (q4 : Nat) (n0 : Nat) (n1 : Nat) (n2 : Nat) (n3 : Nat) (n4 : Nat) (f4 : Nat → Int32) (h3 : n3 ≤ 6) : Met l yX1_allParts wsX1_allParts ({ frames := 0, cells := 0, slots := 0, locals := 0 } : Room) (ro g [.ref p_] [(p_, .inr (1, [.ref q0, .ref q1, .ref q2, .ref q3, .ref q4, .int (nI n0), .int (nI n1), .int (nI n2), .int (nI n3), .int (nI n4)])), (q4, .inl (g.2.1, 6, .inl f4))]) (vp_Si (fun rr => rr = sumP f4 n3)) 0 0 (fun _ => False) := by
  refine ro_start (cc := cX1_allParts) (maxL := 3) (ty := .int) (by decide) rfl (Nat.le_of_ble_eq_true rfl) (fun p e s m args below meth c Q C hP hret ls hl => ?_)
  obtain ⟨hx, hb, hml, hr, hown, hts, hlk, hKK⟩ := id C
  have hK := hKK.1
  have hown : s.vm.findClass RX1 = some m.cls := hown
  have ctx : CallFix p m c cX1_allParts 3 s args wsX1_allParts RX1 := ⟨hx, hb, hml, hown, hts⟩
  have hl : lv_has ls 3 [(0, .ref p_)] := hl
  refine lv_iconst (v := nI 0) hx hb dX1_allParts_0 (by decide) ?_
  refine lv_istore_n (lv' := [(1, .int (nI 0)), (0, .ref p_)]) hx hb dX1_allParts_1 rfl hl (by decide) rfl (fun ls hl => ?_)
  refine lv_iconst (v := nI 0) hx hb dX1_allParts_2 (by decide) ?_
  refine lv_istore_n (lv' := [(2, .int (nI 0)), (1, .int (nI 0)), (0, .ref p_)]) hx hb dX1_allParts_3 rfl hl (by decide) rfl (fun ls hl => ?_)
  have LP4 : ∀ (fu : Nat) (j : Nat) (x1 : Int32), n3 - j < fu → (j ≤ n3) → (x1 = sumP f4 j) → ∀ (ls : Array Slot), lv_has ls 3 [(2, .int (nI j)), (1, .int x1), (0, .ref p_)] → W p l e ({ frames := 0, cells := 0, slots := 0, locals := 0 } : Room) s m args below meth c s.heap [] 0 0 Q (F0 m 4 ls []) := by
    intro fu
    induction fu with
    | zero => intro j x1 hfu; exact absurd hfu (Nat.not_lt_zero _)
    | succ fu ih4 =>
      intro j x1 hfu hj e1 ls hl
      refine lv_iload_n hx hb dX1_allParts_4 rfl (lv_at hl 0 rfl) ?_
      refine lv_aload_n hx hb dX1_allParts_5 rfl (lv_at hl 2 rfl) ?_
      refine va_get (D := g.1) (cl := vwCl) (ci := 1) (v := .int (nI n3)) (C := RX1) (T := TX1) (N := 10) hx hb hts hX1_allParts_X1 hown hK hP 0 rfl rfl 8 (by decide) (hts _ kX1_allParts_f37) (fun _ h9 => h9) rfl dX1_allParts_6 ?_
      refine lv_icmp_ge (tgt := 27) hx hb dX1_allParts_9 (by decide) (fun c_1 => ?_) (fun c_1 => ?_)
      · replace c_1 : n3 ≤ j := (nI_leI (a := n3) (b := j) (by omega) (by omega)).mp c_1
        refine lv_iload_n hx hb dX1_allParts_27 rfl (lv_at hl 1 rfl) ?_
        exact hret x1 28 ls (by rw [e1, show j = n3 by omega]) (rfl) dX1_allParts_28
      · replace c_1 : ¬ n3 ≤ j := fun h => c_1 ((nI_leI (a := n3) (b := j) (by omega) (by omega)).mpr h)
        refine lv_iload_n hx hb dX1_allParts_12 rfl (lv_at hl 1 rfl) ?_
        refine lv_aload_n hx hb dX1_allParts_13 rfl (lv_at hl 2 rfl) ?_
        refine va_get (D := g.1) (cl := vwCl) (ci := 1) (v := .ref q4) (C := RX1) (T := TX1) (N := 10) hx hb hts hX1_allParts_X1 hown hK hP 0 rfl rfl 4 (by decide) (hts _ kX1_allParts_f24) (fun _ h9 => h9) rfl dX1_allParts_14 ?_
        refine lv_iload_n hx hb dX1_allParts_17 rfl (lv_at hl 0 rfl) ?_
        refine ald_i (D := g.1) (cl := vwCl) (f := f4) (i := j) (n := 6) hx hb hK hP 1 0 rfl rfl (by omega) (by decide) dX1_allParts_18 ?_
        refine lv_iadd hx hb dX1_allParts_19 ?_
        refine lv_istore_n (lv' := [(1, .int (x1 + (f4 j))), (2, .int (nI j)), (0, .ref p_)]) hx hb dX1_allParts_20 rfl hl (by decide) rfl (fun ls hl => ?_)
        refine lv_iinc (v := nI (j + 1)) (lv' := [(2, .int (nI (j + 1))), (1, .int (x1 + (f4 j))), (0, .ref p_)]) hx hb dX1_allParts_21 hl (k := 1) rfl (iincK j 1) (by decide) rfl (fun ls hl => ?_)
        refine lv_goto (tgt := 4) hx hb dX1_allParts_24 (by decide) ?_
        exact ih4 (j + 1) (x1 + (f4 j)) (by omega) (by omega) (by rw [sumP, ← e1]) ls (lv_sub hl [0, 1, 2] rfl)
  exact LP4 (n3 + 1) 0 (nI 0) (by omega) (by omega) (rfl) ls (lv_sub hl [0, 1, 2] rfl)
theorem kX1_copyFrom_f9 : (Cond.fieldLink RX1 9 "LastCallersWord$Plan" "kinds" "[I" : Cond) ∈ wsX1_copyFrom := List.mem_cons_of_mem _ aw_50
theorem hX1_copyFrom_X1 : ∀ w ∈ wsX10, w ∈ wsX1_copyFrom := fun w h => List.mem_cons_of_mem _ (ac_X1 w h)
theorem kX1_copyFrom_m43 : (Cond.methodLink RX1 43 arraycopyName : Cond) ∈ wsX1_copyFrom := List.mem_cons_of_mem _ aw_229
theorem kX1_copyFrom_acN : (Cond.native arraycopyName : Cond) ∈ wsX1_copyFrom := List.mem_cons_of_mem _ aw_230
theorem kX1_copyFrom_acS : (Cond.static arraycopyName : Cond) ∈ wsX1_copyFrom := List.mem_cons_of_mem _ aw_231
theorem kX1_copyFrom_acI : (Cond.initialized "java/lang/System" : Cond) ∈ wsX1_copyFrom := List.mem_cons_of_mem _ aw_232
theorem kX1_copyFrom_f15 : (Cond.fieldLink RX1 15 "LastCallersWord$Plan" "likings" "[I" : Cond) ∈ wsX1_copyFrom := List.mem_cons_of_mem _ aw_51
theorem kX1_copyFrom_f18 : (Cond.fieldLink RX1 18 "LastCallersWord$Plan" "hosts" "[I" : Cond) ∈ wsX1_copyFrom := List.mem_cons_of_mem _ aw_52
theorem kX1_copyFrom_f21 : (Cond.fieldLink RX1 21 "LastCallersWord$Plan" "callers" "[I" : Cond) ∈ wsX1_copyFrom := List.mem_cons_of_mem _ aw_53
theorem kX1_copyFrom_f24 : (Cond.fieldLink RX1 24 "LastCallersWord$Plan" "parts" "[I" : Cond) ∈ wsX1_copyFrom := List.mem_cons_of_mem _ aw_54
theorem kX1_copyFrom_f27 : (Cond.fieldLink RX1 27 "LastCallersWord$Plan" "persons" "I" : Cond) ∈ wsX1_copyFrom := List.mem_cons_of_mem _ aw_55
theorem kX1_copyFrom_f31 : (Cond.fieldLink RX1 31 "LastCallersWord$Plan" "personsTold" "I" : Cond) ∈ wsX1_copyFrom := List.mem_cons_of_mem _ aw_56
theorem kX1_copyFrom_f34 : (Cond.fieldLink RX1 34 "LastCallersWord$Plan" "doors" "I" : Cond) ∈ wsX1_copyFrom := List.mem_cons_of_mem _ aw_57
theorem kX1_copyFrom_f37 : (Cond.fieldLink RX1 37 "LastCallersWord$Plan" "words" "I" : Cond) ∈ wsX1_copyFrom := List.mem_cons_of_mem _ aw_58
theorem kX1_copyFrom_f40 : (Cond.fieldLink RX1 40 "LastCallersWord$Plan" "limit" "I" : Cond) ∈ wsX1_copyFrom := List.mem_cons_of_mem _ aw_59
def wd_X1_copyFrom (g : GG) (p_ : Nat) (q0 : Nat) (q1 : Nat) (q2 : Nat) (q3 : Nat) (q4 : Nat) (f0 : Nat → Int32) (f1 : Nat → Int32) (f2 : Nat → Int32) (f3 : Nat → Int32) (f4 : Nat → Int32) (n0 : Nat) (n1 : Nat) (n2 : Nat) (n3 : Nat) (n4 : Nat) (o_ : Nat) (r0 : Nat) (r1 : Nat) (r2 : Nat) (r3 : Nat) (r4 : Nat) (h0 : Nat → Int32) (h1 : Nat → Int32) (h2 : Nat → Int32) (h3 : Nat → Int32) (h4 : Nat → Int32) (m0 : Nat) (m1 : Nat) (m2 : Nat) (m3 : Nat) (m4 : Nat) : va_W := [(p_, .inr (1, [.ref q0, .ref q1, .ref q2, .ref q3, .ref q4, .int (nI n0), .int (nI n1), .int (nI n2), .int (nI n3), .int (nI n4)])), (q0, .inl (g.2.1, 8, .inl f0)), (q1, .inl (g.2.1, 64, .inl f1)), (q2, .inl (g.2.1, 5, .inl f2)), (q3, .inl (g.2.1, 5, .inl f3)), (q4, .inl (g.2.1, 6, .inl f4)), (o_, .inr (1, [.ref r0, .ref r1, .ref r2, .ref r3, .ref r4, .int (nI m0), .int (nI m1), .int (nI m2), .int (nI m3), .int (nI m4)])), (r0, .inl (g.2.1, 8, .inl h0)), (r1, .inl (g.2.1, 64, .inl h1)), (r2, .inl (g.2.1, 5, .inl h2)), (r3, .inl (g.2.1, 5, .inl h3)), (r4, .inl (g.2.1, 6, .inl h4))]
set_option maxHeartbeats 4000000 in
set_option maxRecDepth 100000 in
theorem c_X1_copyFrom (l : Launch) (g : GG) (p_ : Nat) (q0 : Nat) (q1 : Nat) (q2 : Nat) (q3 : Nat) (q4 : Nat) (f0 : Nat → Int32) (f1 : Nat → Int32) (f2 : Nat → Int32) (f3 : Nat → Int32) (f4 : Nat → Int32) (n0 : Nat) (n1 : Nat) (n2 : Nat) (n3 : Nat) (n4 : Nat) (o_ : Nat) (r0 : Nat) (r1 : Nat) (r2 : Nat) (r3 : Nat) (r4 : Nat) (h0 : Nat → Int32) (h1 : Nat → Int32) (h2 : Nat → Int32) (h3 : Nat → Int32) (h4 : Nat → Int32) (m0 : Nat) (m1 : Nat) (m2 : Nat) (m3 : Nat) (m4 : Nat) : Met l yX1_copyFrom wsX1_copyFrom ({ frames := 1, cells := 0, slots := 0, locals := 18 } : Room) (wr g [.ref p_, .ref o_] (wd_X1_copyFrom g p_ q0 q1 q2 q3 q4 f0 f1 f2 f3 f4 n0 n1 n2 n3 n4 o_ r0 r1 r2 r3 r4 h0 h1 h2 h3 h4 m0 m1 m2 m3 m4)) (wQv g (wd_X1_copyFrom g p_ q0 q1 q2 q3 q4 f0 f1 f2 f3 f4 n0 n1 n2 n3 n4 o_ r0 r1 r2 r3 r4 h0 h1 h2 h3 h4 m0 m1 m2 m3 m4) (fun u : Unit => [(p_, .inr (1, [.ref q0, .ref q1, .ref q2, .ref q3, .ref q4, .int (nI m0), .int (nI m1), .int (nI m2), .int (nI m3), .int (nI m4)])), (q0, .inl (g.2.1, 8, .inl h0)), (q1, .inl (g.2.1, 64, .inl h1)), (q2, .inl (g.2.1, 5, .inl h2)), (q3, .inl (g.2.1, 5, .inl h3)), (q4, .inl (g.2.1, 6, .inl h4)), (o_, .inr (1, [.ref r0, .ref r1, .ref r2, .ref r3, .ref r4, .int (nI m0), .int (nI m1), .int (nI m2), .int (nI m3), .int (nI m4)])), (r0, .inl (g.2.1, 8, .inl h0)), (r1, .inl (g.2.1, 64, .inl h1)), (r2, .inl (g.2.1, 5, .inl h2)), (r3, .inl (g.2.1, 5, .inl h3)), (r4, .inl (g.2.1, 6, .inl h4))]) (fun u => True)) 0 0 (cA (wd_X1_copyFrom g p_ q0 q1 q2 q3 q4 f0 f1 f2 f3 f4 n0 n1 n2 n3 n4 o_ r0 r1 r2 r3 r4 h0 h1 h2 h3 h4 m0 m1 m2 m3 m4)) := by
  refine wr_startv (cc := cX1_copyFrom) (maxL := 2) (by decide) rfl (Nat.le_of_ble_eq_true rfl) (fun p e s m args below meth c Q A C hP hD hS hret ls hl => ?_)
  obtain ⟨hx, hb, hml, hr, hown, hts, hlk, hKK⟩ := id C
  have hK := hKK.1
  have hown : s.vm.findClass RX1 = some m.cls := hown
  have ctx : CallFix p m c cX1_copyFrom 2 s args wsX1_copyFrom RX1 := ⟨hx, hb, hml, hown, hts⟩
  have hl : lv_has ls 2 [(0, .ref p_), (1, .ref o_)] := hl
  obtain ⟨H, hHe⟩ : ∃ H, H = s.heap := ⟨_, rfl⟩
  obtain ⟨locs, hLe⟩ : ∃ L : List Loc, L = [] := ⟨_, rfl⟩
  have hP : va_P g.1 vwCl (wd_X1_copyFrom g p_ q0 q1 q2 q3 q4 f0 f1 f2 f3 f4 n0 n1 n2 n3 n4 o_ r0 r1 r2 r3 r4 h0 h1 h2 h3 h4 m0 m1 m2 m3 m4) H := by rw [hHe]; exact hP
  have hS : va_S A s.heap H locs := by rw [hHe, hLe]; exact hS
  suffices hgo : W p l e ({ frames := 1, cells := 0, slots := 0, locals := 18 } : Room) s m args below meth c H locs 0 0 Q (F0 m 0 ls []) by rw [hHe, hLe] at hgo; exact hgo
  clear hHe hLe
  refine lv_aload_n hx hb dX1_copyFrom_0 rfl (lv_at hl 1 rfl) ?_
  refine va_get (D := g.1) (cl := vwCl) (ci := 1) (v := .ref r0) (C := RX1) (T := TX1) (N := 10) hx hb hts hX1_copyFrom_X1 hown hK hP 6 rfl rfl 0 (by decide) (hts _ kX1_copyFrom_f9) (fun _ h9 => h9) rfl dX1_copyFrom_1 ?_
  refine lv_iconst (v := nI 0) hx hb dX1_copyFrom_4 (by decide) ?_
  refine lv_aload_n hx hb dX1_copyFrom_5 rfl (lv_at hl 0 rfl) ?_
  refine va_get (D := g.1) (cl := vwCl) (ci := 1) (v := .ref q0) (C := RX1) (T := TX1) (N := 10) hx hb hts hX1_copyFrom_X1 hown hK hP 0 rfl rfl 0 (by decide) (hts _ kX1_copyFrom_f9) (fun _ h9 => h9) rfl dX1_copyFrom_6 ?_
  refine lv_iconst (v := nI 0) hx hb dX1_copyFrom_9 (by decide) ?_
  refine lv_aload_n hx hb dX1_copyFrom_10 rfl (lv_at hl 0 rfl) ?_
  refine va_get (D := g.1) (cl := vwCl) (ci := 1) (v := .ref q0) (C := RX1) (T := TX1) (N := 10) hx hb hts hX1_copyFrom_X1 hown hK hP 0 rfl rfl 0 (by decide) (hts _ kX1_copyFrom_f9) (fun _ h9 => h9) rfl dX1_copyFrom_11 ?_
  refine va_alen (D := g.1) (cl := vwCl) (v := nI 8) hx hb hK hP 1 0 rfl (ty := .int) rfl rfl dX1_copyFrom_14 ?_
  refine cpy_i (D := g.1) (cl := vwCl) (n := 8) (f := h0) (g := f0) hx hb hml hl.1 hown (hts _ kX1_copyFrom_m43) (hts _ kX1_copyFrom_acN) (hts _ kX1_copyFrom_acS) (hts _ kX1_copyFrom_acI) hK hP hD hS 7 1 0 rfl rfl rfl (by decide) (Nat.le_of_ble_eq_true rfl) (Nat.le_of_ble_eq_true rfl) dX1_copyFrom_15 (fun H locs hP hD hS => ?_)
  obtain ⟨hP, hD⟩ := re2 [(p_, .inr (1, [.ref q0, .ref q1, .ref q2, .ref q3, .ref q4, .int (nI n0), .int (nI n1), .int (nI n2), .int (nI n3), .int (nI n4)])), (q0, .inl (g.2.1, 8, .inl h0)), (q1, .inl (g.2.1, 64, .inl f1)), (q2, .inl (g.2.1, 5, .inl f2)), (q3, .inl (g.2.1, 5, .inl f3)), (q4, .inl (g.2.1, 6, .inl f4)), (o_, .inr (1, [.ref r0, .ref r1, .ref r2, .ref r3, .ref r4, .int (nI m0), .int (nI m1), .int (nI m2), .int (nI m3), .int (nI m4)])), (r0, .inl (g.2.1, 8, .inl h0)), (r1, .inl (g.2.1, 64, .inl h1)), (r2, .inl (g.2.1, 5, .inl h2)), (r3, .inl (g.2.1, 5, .inl h3)), (r4, .inl (g.2.1, 6, .inl h4))] hP hD rfl
  refine lv_aload_n hx hb dX1_copyFrom_18 rfl (lv_at hl 1 rfl) ?_
  refine va_get (D := g.1) (cl := vwCl) (ci := 1) (v := .ref r1) (C := RX1) (T := TX1) (N := 10) hx hb hts hX1_copyFrom_X1 hown hK hP 6 rfl rfl 1 (by decide) (hts _ kX1_copyFrom_f15) (fun _ h9 => h9) rfl dX1_copyFrom_19 ?_
  refine lv_iconst (v := nI 0) hx hb dX1_copyFrom_22 (by decide) ?_
  refine lv_aload_n hx hb dX1_copyFrom_23 rfl (lv_at hl 0 rfl) ?_
  refine va_get (D := g.1) (cl := vwCl) (ci := 1) (v := .ref q1) (C := RX1) (T := TX1) (N := 10) hx hb hts hX1_copyFrom_X1 hown hK hP 0 rfl rfl 1 (by decide) (hts _ kX1_copyFrom_f15) (fun _ h9 => h9) rfl dX1_copyFrom_24 ?_
  refine lv_iconst (v := nI 0) hx hb dX1_copyFrom_27 (by decide) ?_
  refine lv_aload_n hx hb dX1_copyFrom_28 rfl (lv_at hl 0 rfl) ?_
  refine va_get (D := g.1) (cl := vwCl) (ci := 1) (v := .ref q1) (C := RX1) (T := TX1) (N := 10) hx hb hts hX1_copyFrom_X1 hown hK hP 0 rfl rfl 1 (by decide) (hts _ kX1_copyFrom_f15) (fun _ h9 => h9) rfl dX1_copyFrom_29 ?_
  refine va_alen (D := g.1) (cl := vwCl) (v := nI 64) hx hb hK hP 2 0 rfl (ty := .int) rfl rfl dX1_copyFrom_32 ?_
  refine cpy_i (D := g.1) (cl := vwCl) (n := 64) (f := h1) (g := f1) hx hb hml hl.1 hown (hts _ kX1_copyFrom_m43) (hts _ kX1_copyFrom_acN) (hts _ kX1_copyFrom_acS) (hts _ kX1_copyFrom_acI) hK hP hD hS 8 2 0 rfl rfl rfl (by decide) (Nat.le_of_ble_eq_true rfl) (Nat.le_of_ble_eq_true rfl) dX1_copyFrom_33 (fun H locs hP hD hS => ?_)
  obtain ⟨hP, hD⟩ := re2 [(p_, .inr (1, [.ref q0, .ref q1, .ref q2, .ref q3, .ref q4, .int (nI n0), .int (nI n1), .int (nI n2), .int (nI n3), .int (nI n4)])), (q0, .inl (g.2.1, 8, .inl h0)), (q1, .inl (g.2.1, 64, .inl h1)), (q2, .inl (g.2.1, 5, .inl f2)), (q3, .inl (g.2.1, 5, .inl f3)), (q4, .inl (g.2.1, 6, .inl f4)), (o_, .inr (1, [.ref r0, .ref r1, .ref r2, .ref r3, .ref r4, .int (nI m0), .int (nI m1), .int (nI m2), .int (nI m3), .int (nI m4)])), (r0, .inl (g.2.1, 8, .inl h0)), (r1, .inl (g.2.1, 64, .inl h1)), (r2, .inl (g.2.1, 5, .inl h2)), (r3, .inl (g.2.1, 5, .inl h3)), (r4, .inl (g.2.1, 6, .inl h4))] hP hD rfl
  refine lv_aload_n hx hb dX1_copyFrom_36 rfl (lv_at hl 1 rfl) ?_
  refine va_get (D := g.1) (cl := vwCl) (ci := 1) (v := .ref r2) (C := RX1) (T := TX1) (N := 10) hx hb hts hX1_copyFrom_X1 hown hK hP 6 rfl rfl 2 (by decide) (hts _ kX1_copyFrom_f18) (fun _ h9 => h9) rfl dX1_copyFrom_37 ?_
  refine lv_iconst (v := nI 0) hx hb dX1_copyFrom_40 (by decide) ?_
  refine lv_aload_n hx hb dX1_copyFrom_41 rfl (lv_at hl 0 rfl) ?_
  refine va_get (D := g.1) (cl := vwCl) (ci := 1) (v := .ref q2) (C := RX1) (T := TX1) (N := 10) hx hb hts hX1_copyFrom_X1 hown hK hP 0 rfl rfl 2 (by decide) (hts _ kX1_copyFrom_f18) (fun _ h9 => h9) rfl dX1_copyFrom_42 ?_
  refine lv_iconst (v := nI 0) hx hb dX1_copyFrom_45 (by decide) ?_
  refine lv_aload_n hx hb dX1_copyFrom_46 rfl (lv_at hl 0 rfl) ?_
  refine va_get (D := g.1) (cl := vwCl) (ci := 1) (v := .ref q2) (C := RX1) (T := TX1) (N := 10) hx hb hts hX1_copyFrom_X1 hown hK hP 0 rfl rfl 2 (by decide) (hts _ kX1_copyFrom_f18) (fun _ h9 => h9) rfl dX1_copyFrom_47 ?_
  refine va_alen (D := g.1) (cl := vwCl) (v := nI 5) hx hb hK hP 3 0 rfl (ty := .int) rfl rfl dX1_copyFrom_50 ?_
  refine cpy_i (D := g.1) (cl := vwCl) (n := 5) (f := h2) (g := f2) hx hb hml hl.1 hown (hts _ kX1_copyFrom_m43) (hts _ kX1_copyFrom_acN) (hts _ kX1_copyFrom_acS) (hts _ kX1_copyFrom_acI) hK hP hD hS 9 3 0 rfl rfl rfl (by decide) (Nat.le_of_ble_eq_true rfl) (Nat.le_of_ble_eq_true rfl) dX1_copyFrom_51 (fun H locs hP hD hS => ?_)
  obtain ⟨hP, hD⟩ := re2 [(p_, .inr (1, [.ref q0, .ref q1, .ref q2, .ref q3, .ref q4, .int (nI n0), .int (nI n1), .int (nI n2), .int (nI n3), .int (nI n4)])), (q0, .inl (g.2.1, 8, .inl h0)), (q1, .inl (g.2.1, 64, .inl h1)), (q2, .inl (g.2.1, 5, .inl h2)), (q3, .inl (g.2.1, 5, .inl f3)), (q4, .inl (g.2.1, 6, .inl f4)), (o_, .inr (1, [.ref r0, .ref r1, .ref r2, .ref r3, .ref r4, .int (nI m0), .int (nI m1), .int (nI m2), .int (nI m3), .int (nI m4)])), (r0, .inl (g.2.1, 8, .inl h0)), (r1, .inl (g.2.1, 64, .inl h1)), (r2, .inl (g.2.1, 5, .inl h2)), (r3, .inl (g.2.1, 5, .inl h3)), (r4, .inl (g.2.1, 6, .inl h4))] hP hD rfl
  refine lv_aload_n hx hb dX1_copyFrom_54 rfl (lv_at hl 1 rfl) ?_
  refine va_get (D := g.1) (cl := vwCl) (ci := 1) (v := .ref r3) (C := RX1) (T := TX1) (N := 10) hx hb hts hX1_copyFrom_X1 hown hK hP 6 rfl rfl 3 (by decide) (hts _ kX1_copyFrom_f21) (fun _ h9 => h9) rfl dX1_copyFrom_55 ?_
  refine lv_iconst (v := nI 0) hx hb dX1_copyFrom_58 (by decide) ?_
  refine lv_aload_n hx hb dX1_copyFrom_59 rfl (lv_at hl 0 rfl) ?_
  refine va_get (D := g.1) (cl := vwCl) (ci := 1) (v := .ref q3) (C := RX1) (T := TX1) (N := 10) hx hb hts hX1_copyFrom_X1 hown hK hP 0 rfl rfl 3 (by decide) (hts _ kX1_copyFrom_f21) (fun _ h9 => h9) rfl dX1_copyFrom_60 ?_
  refine lv_iconst (v := nI 0) hx hb dX1_copyFrom_63 (by decide) ?_
  refine lv_aload_n hx hb dX1_copyFrom_64 rfl (lv_at hl 0 rfl) ?_
  refine va_get (D := g.1) (cl := vwCl) (ci := 1) (v := .ref q3) (C := RX1) (T := TX1) (N := 10) hx hb hts hX1_copyFrom_X1 hown hK hP 0 rfl rfl 3 (by decide) (hts _ kX1_copyFrom_f21) (fun _ h9 => h9) rfl dX1_copyFrom_65 ?_
  refine va_alen (D := g.1) (cl := vwCl) (v := nI 5) hx hb hK hP 4 0 rfl (ty := .int) rfl rfl dX1_copyFrom_68 ?_
  refine cpy_i (D := g.1) (cl := vwCl) (n := 5) (f := h3) (g := f3) hx hb hml hl.1 hown (hts _ kX1_copyFrom_m43) (hts _ kX1_copyFrom_acN) (hts _ kX1_copyFrom_acS) (hts _ kX1_copyFrom_acI) hK hP hD hS 10 4 0 rfl rfl rfl (by decide) (Nat.le_of_ble_eq_true rfl) (Nat.le_of_ble_eq_true rfl) dX1_copyFrom_69 (fun H locs hP hD hS => ?_)
  obtain ⟨hP, hD⟩ := re2 [(p_, .inr (1, [.ref q0, .ref q1, .ref q2, .ref q3, .ref q4, .int (nI n0), .int (nI n1), .int (nI n2), .int (nI n3), .int (nI n4)])), (q0, .inl (g.2.1, 8, .inl h0)), (q1, .inl (g.2.1, 64, .inl h1)), (q2, .inl (g.2.1, 5, .inl h2)), (q3, .inl (g.2.1, 5, .inl h3)), (q4, .inl (g.2.1, 6, .inl f4)), (o_, .inr (1, [.ref r0, .ref r1, .ref r2, .ref r3, .ref r4, .int (nI m0), .int (nI m1), .int (nI m2), .int (nI m3), .int (nI m4)])), (r0, .inl (g.2.1, 8, .inl h0)), (r1, .inl (g.2.1, 64, .inl h1)), (r2, .inl (g.2.1, 5, .inl h2)), (r3, .inl (g.2.1, 5, .inl h3)), (r4, .inl (g.2.1, 6, .inl h4))] hP hD rfl
  refine lv_aload_n hx hb dX1_copyFrom_72 rfl (lv_at hl 1 rfl) ?_
  refine va_get (D := g.1) (cl := vwCl) (ci := 1) (v := .ref r4) (C := RX1) (T := TX1) (N := 10) hx hb hts hX1_copyFrom_X1 hown hK hP 6 rfl rfl 4 (by decide) (hts _ kX1_copyFrom_f24) (fun _ h9 => h9) rfl dX1_copyFrom_73 ?_
  refine lv_iconst (v := nI 0) hx hb dX1_copyFrom_76 (by decide) ?_
  refine lv_aload_n hx hb dX1_copyFrom_77 rfl (lv_at hl 0 rfl) ?_
  refine va_get (D := g.1) (cl := vwCl) (ci := 1) (v := .ref q4) (C := RX1) (T := TX1) (N := 10) hx hb hts hX1_copyFrom_X1 hown hK hP 0 rfl rfl 4 (by decide) (hts _ kX1_copyFrom_f24) (fun _ h9 => h9) rfl dX1_copyFrom_78 ?_
  refine lv_iconst (v := nI 0) hx hb dX1_copyFrom_81 (by decide) ?_
  refine lv_aload_n hx hb dX1_copyFrom_82 rfl (lv_at hl 0 rfl) ?_
  refine va_get (D := g.1) (cl := vwCl) (ci := 1) (v := .ref q4) (C := RX1) (T := TX1) (N := 10) hx hb hts hX1_copyFrom_X1 hown hK hP 0 rfl rfl 4 (by decide) (hts _ kX1_copyFrom_f24) (fun _ h9 => h9) rfl dX1_copyFrom_83 ?_
  refine va_alen (D := g.1) (cl := vwCl) (v := nI 6) hx hb hK hP 5 0 rfl (ty := .int) rfl rfl dX1_copyFrom_86 ?_
  refine cpy_i (D := g.1) (cl := vwCl) (n := 6) (f := h4) (g := f4) hx hb hml hl.1 hown (hts _ kX1_copyFrom_m43) (hts _ kX1_copyFrom_acN) (hts _ kX1_copyFrom_acS) (hts _ kX1_copyFrom_acI) hK hP hD hS 11 5 0 rfl rfl rfl (by decide) (Nat.le_of_ble_eq_true rfl) (Nat.le_of_ble_eq_true rfl) dX1_copyFrom_87 (fun H locs hP hD hS => ?_)
  obtain ⟨hP, hD⟩ := re2 [(p_, .inr (1, [.ref q0, .ref q1, .ref q2, .ref q3, .ref q4, .int (nI n0), .int (nI n1), .int (nI n2), .int (nI n3), .int (nI n4)])), (q0, .inl (g.2.1, 8, .inl h0)), (q1, .inl (g.2.1, 64, .inl h1)), (q2, .inl (g.2.1, 5, .inl h2)), (q3, .inl (g.2.1, 5, .inl h3)), (q4, .inl (g.2.1, 6, .inl h4)), (o_, .inr (1, [.ref r0, .ref r1, .ref r2, .ref r3, .ref r4, .int (nI m0), .int (nI m1), .int (nI m2), .int (nI m3), .int (nI m4)])), (r0, .inl (g.2.1, 8, .inl h0)), (r1, .inl (g.2.1, 64, .inl h1)), (r2, .inl (g.2.1, 5, .inl h2)), (r3, .inl (g.2.1, 5, .inl h3)), (r4, .inl (g.2.1, 6, .inl h4))] hP hD rfl
  refine lv_aload_n hx hb dX1_copyFrom_90 rfl (lv_at hl 0 rfl) ?_
  refine lv_aload_n hx hb dX1_copyFrom_91 rfl (lv_at hl 1 rfl) ?_
  refine va_get (D := g.1) (cl := vwCl) (ci := 1) (v := .int (nI m0)) (C := RX1) (T := TX1) (N := 10) hx hb hts hX1_copyFrom_X1 hown hK hP 6 rfl rfl 5 (by decide) (hts _ kX1_copyFrom_f27) (fun _ h9 => h9) rfl dX1_copyFrom_92 ?_
  refine va_put (D := g.1) (cl := vwCl) (ci := 1) (v := .int (nI m0)) (ty := .int) (C := RX1) (T := TX1) (N := 10) hx hb hts hX1_copyFrom_X1 tyX1 tyX1_ok nmX1 hown hK hP hD hS 0 rfl rfl 5 (by decide) (hts _ kX1_copyFrom_f27) (fun _ h9 => h9) rfl (by decide +kernel) (rfl) (rfl) (Nat.le_of_ble_eq_true rfl) dX1_copyFrom_95 (fun H locs hP hD hS => ?_)
  obtain ⟨hP, hD⟩ := re2 [(p_, .inr (1, [.ref q0, .ref q1, .ref q2, .ref q3, .ref q4, .int (nI m0), .int (nI n1), .int (nI n2), .int (nI n3), .int (nI n4)])), (q0, .inl (g.2.1, 8, .inl h0)), (q1, .inl (g.2.1, 64, .inl h1)), (q2, .inl (g.2.1, 5, .inl h2)), (q3, .inl (g.2.1, 5, .inl h3)), (q4, .inl (g.2.1, 6, .inl h4)), (o_, .inr (1, [.ref r0, .ref r1, .ref r2, .ref r3, .ref r4, .int (nI m0), .int (nI m1), .int (nI m2), .int (nI m3), .int (nI m4)])), (r0, .inl (g.2.1, 8, .inl h0)), (r1, .inl (g.2.1, 64, .inl h1)), (r2, .inl (g.2.1, 5, .inl h2)), (r3, .inl (g.2.1, 5, .inl h3)), (r4, .inl (g.2.1, 6, .inl h4))] hP hD rfl
  refine lv_aload_n hx hb dX1_copyFrom_98 rfl (lv_at hl 0 rfl) ?_
  refine lv_aload_n hx hb dX1_copyFrom_99 rfl (lv_at hl 1 rfl) ?_
  refine va_get (D := g.1) (cl := vwCl) (ci := 1) (v := .int (nI m1)) (C := RX1) (T := TX1) (N := 10) hx hb hts hX1_copyFrom_X1 hown hK hP 6 rfl rfl 6 (by decide) (hts _ kX1_copyFrom_f31) (fun _ h9 => h9) rfl dX1_copyFrom_100 ?_
  refine va_put (D := g.1) (cl := vwCl) (ci := 1) (v := .int (nI m1)) (ty := .int) (C := RX1) (T := TX1) (N := 10) hx hb hts hX1_copyFrom_X1 tyX1 tyX1_ok nmX1 hown hK hP hD hS 0 rfl rfl 6 (by decide) (hts _ kX1_copyFrom_f31) (fun _ h9 => h9) rfl (by decide +kernel) (rfl) (rfl) (Nat.le_of_ble_eq_true rfl) dX1_copyFrom_103 (fun H locs hP hD hS => ?_)
  obtain ⟨hP, hD⟩ := re2 [(p_, .inr (1, [.ref q0, .ref q1, .ref q2, .ref q3, .ref q4, .int (nI m0), .int (nI m1), .int (nI n2), .int (nI n3), .int (nI n4)])), (q0, .inl (g.2.1, 8, .inl h0)), (q1, .inl (g.2.1, 64, .inl h1)), (q2, .inl (g.2.1, 5, .inl h2)), (q3, .inl (g.2.1, 5, .inl h3)), (q4, .inl (g.2.1, 6, .inl h4)), (o_, .inr (1, [.ref r0, .ref r1, .ref r2, .ref r3, .ref r4, .int (nI m0), .int (nI m1), .int (nI m2), .int (nI m3), .int (nI m4)])), (r0, .inl (g.2.1, 8, .inl h0)), (r1, .inl (g.2.1, 64, .inl h1)), (r2, .inl (g.2.1, 5, .inl h2)), (r3, .inl (g.2.1, 5, .inl h3)), (r4, .inl (g.2.1, 6, .inl h4))] hP hD rfl
  refine lv_aload_n hx hb dX1_copyFrom_106 rfl (lv_at hl 0 rfl) ?_
  refine lv_aload_n hx hb dX1_copyFrom_107 rfl (lv_at hl 1 rfl) ?_
  refine va_get (D := g.1) (cl := vwCl) (ci := 1) (v := .int (nI m2)) (C := RX1) (T := TX1) (N := 10) hx hb hts hX1_copyFrom_X1 hown hK hP 6 rfl rfl 7 (by decide) (hts _ kX1_copyFrom_f34) (fun _ h9 => h9) rfl dX1_copyFrom_108 ?_
  refine va_put (D := g.1) (cl := vwCl) (ci := 1) (v := .int (nI m2)) (ty := .int) (C := RX1) (T := TX1) (N := 10) hx hb hts hX1_copyFrom_X1 tyX1 tyX1_ok nmX1 hown hK hP hD hS 0 rfl rfl 7 (by decide) (hts _ kX1_copyFrom_f34) (fun _ h9 => h9) rfl (by decide +kernel) (rfl) (rfl) (Nat.le_of_ble_eq_true rfl) dX1_copyFrom_111 (fun H locs hP hD hS => ?_)
  obtain ⟨hP, hD⟩ := re2 [(p_, .inr (1, [.ref q0, .ref q1, .ref q2, .ref q3, .ref q4, .int (nI m0), .int (nI m1), .int (nI m2), .int (nI n3), .int (nI n4)])), (q0, .inl (g.2.1, 8, .inl h0)), (q1, .inl (g.2.1, 64, .inl h1)), (q2, .inl (g.2.1, 5, .inl h2)), (q3, .inl (g.2.1, 5, .inl h3)), (q4, .inl (g.2.1, 6, .inl h4)), (o_, .inr (1, [.ref r0, .ref r1, .ref r2, .ref r3, .ref r4, .int (nI m0), .int (nI m1), .int (nI m2), .int (nI m3), .int (nI m4)])), (r0, .inl (g.2.1, 8, .inl h0)), (r1, .inl (g.2.1, 64, .inl h1)), (r2, .inl (g.2.1, 5, .inl h2)), (r3, .inl (g.2.1, 5, .inl h3)), (r4, .inl (g.2.1, 6, .inl h4))] hP hD rfl
  refine lv_aload_n hx hb dX1_copyFrom_114 rfl (lv_at hl 0 rfl) ?_
  refine lv_aload_n hx hb dX1_copyFrom_115 rfl (lv_at hl 1 rfl) ?_
  refine va_get (D := g.1) (cl := vwCl) (ci := 1) (v := .int (nI m3)) (C := RX1) (T := TX1) (N := 10) hx hb hts hX1_copyFrom_X1 hown hK hP 6 rfl rfl 8 (by decide) (hts _ kX1_copyFrom_f37) (fun _ h9 => h9) rfl dX1_copyFrom_116 ?_
  refine va_put (D := g.1) (cl := vwCl) (ci := 1) (v := .int (nI m3)) (ty := .int) (C := RX1) (T := TX1) (N := 10) hx hb hts hX1_copyFrom_X1 tyX1 tyX1_ok nmX1 hown hK hP hD hS 0 rfl rfl 8 (by decide) (hts _ kX1_copyFrom_f37) (fun _ h9 => h9) rfl (by decide +kernel) (rfl) (rfl) (Nat.le_of_ble_eq_true rfl) dX1_copyFrom_119 (fun H locs hP hD hS => ?_)
  obtain ⟨hP, hD⟩ := re2 [(p_, .inr (1, [.ref q0, .ref q1, .ref q2, .ref q3, .ref q4, .int (nI m0), .int (nI m1), .int (nI m2), .int (nI m3), .int (nI n4)])), (q0, .inl (g.2.1, 8, .inl h0)), (q1, .inl (g.2.1, 64, .inl h1)), (q2, .inl (g.2.1, 5, .inl h2)), (q3, .inl (g.2.1, 5, .inl h3)), (q4, .inl (g.2.1, 6, .inl h4)), (o_, .inr (1, [.ref r0, .ref r1, .ref r2, .ref r3, .ref r4, .int (nI m0), .int (nI m1), .int (nI m2), .int (nI m3), .int (nI m4)])), (r0, .inl (g.2.1, 8, .inl h0)), (r1, .inl (g.2.1, 64, .inl h1)), (r2, .inl (g.2.1, 5, .inl h2)), (r3, .inl (g.2.1, 5, .inl h3)), (r4, .inl (g.2.1, 6, .inl h4))] hP hD rfl
  refine lv_aload_n hx hb dX1_copyFrom_122 rfl (lv_at hl 0 rfl) ?_
  refine lv_aload_n hx hb dX1_copyFrom_123 rfl (lv_at hl 1 rfl) ?_
  refine va_get (D := g.1) (cl := vwCl) (ci := 1) (v := .int (nI m4)) (C := RX1) (T := TX1) (N := 10) hx hb hts hX1_copyFrom_X1 hown hK hP 6 rfl rfl 9 (by decide) (hts _ kX1_copyFrom_f40) (fun _ h9 => h9) rfl dX1_copyFrom_124 ?_
  refine va_put (D := g.1) (cl := vwCl) (ci := 1) (v := .int (nI m4)) (ty := .int) (C := RX1) (T := TX1) (N := 10) hx hb hts hX1_copyFrom_X1 tyX1 tyX1_ok nmX1 hown hK hP hD hS 0 rfl rfl 9 (by decide) (hts _ kX1_copyFrom_f40) (fun _ h9 => h9) rfl (by decide +kernel) (rfl) (rfl) (Nat.le_of_ble_eq_true rfl) dX1_copyFrom_127 (fun H locs hP hD hS => ?_)
  obtain ⟨hP, hD⟩ := re2 [(p_, .inr (1, [.ref q0, .ref q1, .ref q2, .ref q3, .ref q4, .int (nI m0), .int (nI m1), .int (nI m2), .int (nI m3), .int (nI m4)])), (q0, .inl (g.2.1, 8, .inl h0)), (q1, .inl (g.2.1, 64, .inl h1)), (q2, .inl (g.2.1, 5, .inl h2)), (q3, .inl (g.2.1, 5, .inl h3)), (q4, .inl (g.2.1, 6, .inl h4)), (o_, .inr (1, [.ref r0, .ref r1, .ref r2, .ref r3, .ref r4, .int (nI m0), .int (nI m1), .int (nI m2), .int (nI m3), .int (nI m4)])), (r0, .inl (g.2.1, 8, .inl h0)), (r1, .inl (g.2.1, 64, .inl h1)), (r2, .inl (g.2.1, 5, .inl h2)), (r3, .inl (g.2.1, 5, .inl h3)), (r4, .inl (g.2.1, 6, .inl h4))] hP hD rfl
  exact hret () H locs 130 ls (trivial) (hP) (hD) hS dX1_copyFrom_130
theorem kX5_forgiveAll_f21 : (Cond.fieldLink RX5 21 "LastCallersWord$State" "wrongs" "[I" : Cond) ∈ wsX5_forgiveAll := List.mem_cons_of_mem _ aw_74
theorem hX5_forgiveAll_X5 : ∀ w ∈ wsX50, w ∈ wsX5_forgiveAll := fun w h => List.mem_cons_of_mem _ (ac_X5 w h)
set_option maxHeartbeats 4000000 in
set_option maxRecDepth 100000 in
theorem c_X5_forgiveAll (l : Launch) (g : GG) (s_ : Nat) (q0 : Nat) (q1 : Nat) (q2 : Nat) (q3 : Nat) (f3 : Nat → Int32) (dy : Nat) : Met l yX5_forgiveAll wsX5_forgiveAll ({ frames := 0, cells := 0, slots := 0, locals := 0 } : Room) (wr g [.ref s_] [(s_, .inr (5, [.ref q0, .ref q1, .ref q2, .ref q3, .int (nI dy)])), (q3, .inl (g.2.1, 40, .inl f3))]) (wQv g [(s_, .inr (5, [.ref q0, .ref q1, .ref q2, .ref q3, .int (nI dy)])), (q3, .inl (g.2.1, 40, .inl f3))] (fun u : Unit => [(s_, .inr (5, [.ref q0, .ref q1, .ref q2, .ref q3, .int (nI dy)])), (q3, .inl (g.2.1, 40, .inl zF))]) (fun u => True)) 0 0 (cA [(s_, .inr (5, [.ref q0, .ref q1, .ref q2, .ref q3, .int (nI dy)])), (q3, .inl (g.2.1, 40, .inl f3))]) := by
  refine wr_startv (cc := cX5_forgiveAll) (maxL := 2) (by decide) rfl (Nat.le_of_ble_eq_true rfl) (fun p e s m args below meth c Q A C hP hD hS hret ls hl => ?_)
  obtain ⟨hx, hb, hml, hr, hown, hts, hlk, hKK⟩ := id C
  have hK := hKK.1
  have hown : s.vm.findClass RX5 = some m.cls := hown
  have ctx : CallFix p m c cX5_forgiveAll 2 s args wsX5_forgiveAll RX5 := ⟨hx, hb, hml, hown, hts⟩
  have hl : lv_has ls 2 [(0, .ref s_)] := hl
  obtain ⟨H, hHe⟩ : ∃ H, H = s.heap := ⟨_, rfl⟩
  obtain ⟨locs, hLe⟩ : ∃ L : List Loc, L = [] := ⟨_, rfl⟩
  have hP : va_P g.1 vwCl [(s_, .inr (5, [.ref q0, .ref q1, .ref q2, .ref q3, .int (nI dy)])), (q3, .inl (g.2.1, 40, .inl f3))] H := by rw [hHe]; exact hP
  have hS : va_S A s.heap H locs := by rw [hHe, hLe]; exact hS
  suffices hgo : W p l e ({ frames := 0, cells := 0, slots := 0, locals := 0 } : Room) s m args below meth c H locs 0 0 Q (F0 m 0 ls []) by rw [hHe, hLe] at hgo; exact hgo
  clear hHe hLe
  refine lv_iconst (v := nI 0) hx hb dX5_forgiveAll_0 (by decide) ?_
  refine lv_istore_n (lv' := [(1, .int (nI 0)), (0, .ref s_)]) hx hb dX5_forgiveAll_1 rfl hl (by decide) rfl (fun ls hl => ?_)
  have LP2 : ∀ (fu : Nat) (j : Nat) (f : Nat → Int32), 40 - j < fu → (j ≤ 40) → (∀ k, k < j → f k = nI 0) → ∀ (H : Heap) (locs : List Loc), va_P g.1 vwCl [(s_, .inr (5, [.ref q0, .ref q1, .ref q2, .ref q3, .int (nI dy)])), (q3, .inl (g.2.1, 40, .inl f))] H → va_D A [(s_, .inr (5, [.ref q0, .ref q1, .ref q2, .ref q3, .int (nI dy)])), (q3, .inl (g.2.1, 40, .inl f))] → va_S A s.heap H locs → ∀ (ls : Array Slot), lv_has ls 2 [(1, .int (nI j)), (0, .ref s_)] → W p l e ({ frames := 0, cells := 0, slots := 0, locals := 0 } : Room) s m args below meth c H locs 0 0 Q (F0 m 2 ls []) := by
    intro fu
    induction fu with
    | zero => intro j f hfu; exact absurd hfu (Nat.not_lt_zero _)
    | succ fu ih2 =>
      intro j f hfu hj ef H locs hP hD hS ls hl
      refine lv_iload_n hx hb dX5_forgiveAll_2 rfl (lv_at hl 0 rfl) ?_
      refine lv_aload_n hx hb dX5_forgiveAll_3 rfl (lv_at hl 1 rfl) ?_
      refine va_get (D := g.1) (cl := vwCl) (ci := 5) (v := .ref q3) (C := RX5) (T := TX5) (N := 5) hx hb hts hX5_forgiveAll_X5 hown hK hP 0 rfl rfl 3 (by decide) (hts _ kX5_forgiveAll_f21) (fun _ h9 => h9) rfl dX5_forgiveAll_4 ?_
      refine va_alen (D := g.1) (cl := vwCl) (v := nI 40) hx hb hK hP 1 0 rfl (ty := .int) rfl rfl dX5_forgiveAll_7 ?_
      refine lv_icmp_ge (tgt := 24) hx hb dX5_forgiveAll_8 (by decide) (fun c_1 => ?_) (fun c_1 => ?_)
      · replace c_1 : 40 ≤ j := (nI_leI (a := 40) (b := j) (by omega) (by omega)).mp c_1
        replace hP := P_at (f := f) hP 1 rfl zF (fun k hk => ef k (by omega))
        replace hD := D_at hD 1 rfl (.inl (g.2.1, 40, .inl zF))
        have hP : va_P g.1 vwCl [(s_, .inr (5, [.ref q0, .ref q1, .ref q2, .ref q3, .int (nI dy)])), (q3, .inl (g.2.1, 40, .inl zF))] H := hP
        have hD : va_D A [(s_, .inr (5, [.ref q0, .ref q1, .ref q2, .ref q3, .int (nI dy)])), (q3, .inl (g.2.1, 40, .inl zF))] := hD
        exact hret () H locs 24 ls (trivial) (hP) (hD) hS dX5_forgiveAll_24
      · replace c_1 : ¬ 40 ≤ j := fun h => c_1 ((nI_leI (a := 40) (b := j) (by omega) (by omega)).mpr h)
        refine lv_aload_n hx hb dX5_forgiveAll_11 rfl (lv_at hl 1 rfl) ?_
        refine va_get (D := g.1) (cl := vwCl) (ci := 5) (v := .ref q3) (C := RX5) (T := TX5) (N := 5) hx hb hts hX5_forgiveAll_X5 hown hK hP 0 rfl rfl 3 (by decide) (hts _ kX5_forgiveAll_f21) (fun _ h9 => h9) rfl dX5_forgiveAll_12 ?_
        refine lv_iload_n hx hb dX5_forgiveAll_15 rfl (lv_at hl 0 rfl) ?_
        refine lv_iconst (v := nI 0) hx hb dX5_forgiveAll_16 (by decide) ?_
        refine ast_i (D := g.1) (cl := vwCl) (f := f) (i := j) (n := 40) (x := nI 0) hx hb hK hP hD hS 1 0 rfl rfl (by omega) (by decide) dX5_forgiveAll_17 (fun H locs hP hD hS => ?_)
        have hP : va_P g.1 vwCl [(s_, .inr (5, [.ref q0, .ref q1, .ref q2, .ref q3, .int (nI dy)])), (q3, .inl (g.2.1, 40, .inl (upd f j (nI 0))))] H := hP
        have hD : va_D A [(s_, .inr (5, [.ref q0, .ref q1, .ref q2, .ref q3, .int (nI dy)])), (q3, .inl (g.2.1, 40, .inl (upd f j (nI 0))))] := hD
        refine lv_iinc (v := nI (j + 1)) (lv' := [(1, .int (nI (j + 1))), (0, .ref s_)]) hx hb dX5_forgiveAll_18 hl (k := 0) rfl (iincK j 1) (by decide) rfl (fun ls hl => ?_)
        refine lv_goto (tgt := 2) hx hb dX5_forgiveAll_21 (by decide) ?_
        exact ih2 (j + 1) (upd f j (nI 0)) (by omega) (by omega) (fun k hk => by by_cases hkj : k = j; (subst hkj; exact pk_us); (rw [pk_un hkj]; exact ef k (by omega))) _ _ hP hD hS ls (lv_sub hl [0, 1] rfl)
  exact LP2 41 0 f3 (by omega) (by omega) (fun k hk => absurd hk (Nat.not_lt_zero k)) _ _ hP hD hS ls (lv_sub hl [0, 1] rfl)
theorem kX5_copyFrom_f9 : (Cond.fieldLink RX5 9 "LastCallersWord$State" "likings" "[I" : Cond) ∈ wsX5_copyFrom := List.mem_cons_of_mem _ aw_71
theorem hX5_copyFrom_X5 : ∀ w ∈ wsX50, w ∈ wsX5_copyFrom := fun w h => List.mem_cons_of_mem _ (ac_X5 w h)
theorem kX5_copyFrom_m31 : (Cond.methodLink RX5 31 arraycopyName : Cond) ∈ wsX5_copyFrom := List.mem_cons_of_mem _ aw_238
theorem kX5_copyFrom_acN : (Cond.native arraycopyName : Cond) ∈ wsX5_copyFrom := List.mem_cons_of_mem _ aw_230
theorem kX5_copyFrom_acS : (Cond.static arraycopyName : Cond) ∈ wsX5_copyFrom := List.mem_cons_of_mem _ aw_231
theorem kX5_copyFrom_acI : (Cond.initialized "java/lang/System" : Cond) ∈ wsX5_copyFrom := List.mem_cons_of_mem _ aw_232
theorem kX5_copyFrom_f15 : (Cond.fieldLink RX5 15 "LastCallersWord$State" "callers" "[I" : Cond) ∈ wsX5_copyFrom := List.mem_cons_of_mem _ aw_72
theorem kX5_copyFrom_f18 : (Cond.fieldLink RX5 18 "LastCallersWord$State" "knowers" "[I" : Cond) ∈ wsX5_copyFrom := List.mem_cons_of_mem _ aw_73
theorem kX5_copyFrom_f21 : (Cond.fieldLink RX5 21 "LastCallersWord$State" "wrongs" "[I" : Cond) ∈ wsX5_copyFrom := List.mem_cons_of_mem _ aw_74
theorem kX5_copyFrom_f24 : (Cond.fieldLink RX5 24 "LastCallersWord$State" "days" "I" : Cond) ∈ wsX5_copyFrom := List.mem_cons_of_mem _ aw_75
set_option maxHeartbeats 4000000 in
set_option maxRecDepth 100000 in
theorem c_X5_copyFrom (l : Launch) (g : GG) (s_ : Nat) (q0 : Nat) (q1 : Nat) (q2 : Nat) (q3 : Nat) (f0 : Nat → Int32) (f1 : Nat → Int32) (f2 : Nat → Int32) (f3 : Nat → Int32) (dy : Nat) (o_ : Nat) (r0 : Nat) (r1 : Nat) (r2 : Nat) (r3 : Nat) (h0 : Nat → Int32) (h1 : Nat → Int32) (h2 : Nat → Int32) (h3 : Nat → Int32) (d2 : Nat) : Met l yX5_copyFrom wsX5_copyFrom ({ frames := 1, cells := 0, slots := 0, locals := 18 } : Room) (wr g [.ref s_, .ref o_] [(s_, .inr (5, [.ref q0, .ref q1, .ref q2, .ref q3, .int (nI dy)])), (q0, .inl (g.2.1, 64, .inl f0)), (q1, .inl (g.2.1, 5, .inl f1)), (q2, .inl (g.2.1, 5, .inl f2)), (q3, .inl (g.2.1, 40, .inl f3)), (o_, .inr (5, [.ref r0, .ref r1, .ref r2, .ref r3, .int (nI d2)])), (r0, .inl (g.2.1, 64, .inl h0)), (r1, .inl (g.2.1, 5, .inl h1)), (r2, .inl (g.2.1, 5, .inl h2)), (r3, .inl (g.2.1, 40, .inl h3))]) (wQv g [(s_, .inr (5, [.ref q0, .ref q1, .ref q2, .ref q3, .int (nI dy)])), (q0, .inl (g.2.1, 64, .inl f0)), (q1, .inl (g.2.1, 5, .inl f1)), (q2, .inl (g.2.1, 5, .inl f2)), (q3, .inl (g.2.1, 40, .inl f3)), (o_, .inr (5, [.ref r0, .ref r1, .ref r2, .ref r3, .int (nI d2)])), (r0, .inl (g.2.1, 64, .inl h0)), (r1, .inl (g.2.1, 5, .inl h1)), (r2, .inl (g.2.1, 5, .inl h2)), (r3, .inl (g.2.1, 40, .inl h3))] (fun u : Unit => [(s_, .inr (5, [.ref q0, .ref q1, .ref q2, .ref q3, .int (nI d2)])), (q0, .inl (g.2.1, 64, .inl h0)), (q1, .inl (g.2.1, 5, .inl h1)), (q2, .inl (g.2.1, 5, .inl h2)), (q3, .inl (g.2.1, 40, .inl h3)), (o_, .inr (5, [.ref r0, .ref r1, .ref r2, .ref r3, .int (nI d2)])), (r0, .inl (g.2.1, 64, .inl h0)), (r1, .inl (g.2.1, 5, .inl h1)), (r2, .inl (g.2.1, 5, .inl h2)), (r3, .inl (g.2.1, 40, .inl h3))]) (fun u => True)) 0 0 (cA [(s_, .inr (5, [.ref q0, .ref q1, .ref q2, .ref q3, .int (nI dy)])), (q0, .inl (g.2.1, 64, .inl f0)), (q1, .inl (g.2.1, 5, .inl f1)), (q2, .inl (g.2.1, 5, .inl f2)), (q3, .inl (g.2.1, 40, .inl f3)), (o_, .inr (5, [.ref r0, .ref r1, .ref r2, .ref r3, .int (nI d2)])), (r0, .inl (g.2.1, 64, .inl h0)), (r1, .inl (g.2.1, 5, .inl h1)), (r2, .inl (g.2.1, 5, .inl h2)), (r3, .inl (g.2.1, 40, .inl h3))]) := by
  refine wr_startv (cc := cX5_copyFrom) (maxL := 2) (by decide) rfl (Nat.le_of_ble_eq_true rfl) (fun p e s m args below meth c Q A C hP hD hS hret ls hl => ?_)
  obtain ⟨hx, hb, hml, hr, hown, hts, hlk, hKK⟩ := id C
  have hK := hKK.1
  have hown : s.vm.findClass RX5 = some m.cls := hown
  have ctx : CallFix p m c cX5_copyFrom 2 s args wsX5_copyFrom RX5 := ⟨hx, hb, hml, hown, hts⟩
  have hl : lv_has ls 2 [(0, .ref s_), (1, .ref o_)] := hl
  obtain ⟨H, hHe⟩ : ∃ H, H = s.heap := ⟨_, rfl⟩
  obtain ⟨locs, hLe⟩ : ∃ L : List Loc, L = [] := ⟨_, rfl⟩
  have hP : va_P g.1 vwCl [(s_, .inr (5, [.ref q0, .ref q1, .ref q2, .ref q3, .int (nI dy)])), (q0, .inl (g.2.1, 64, .inl f0)), (q1, .inl (g.2.1, 5, .inl f1)), (q2, .inl (g.2.1, 5, .inl f2)), (q3, .inl (g.2.1, 40, .inl f3)), (o_, .inr (5, [.ref r0, .ref r1, .ref r2, .ref r3, .int (nI d2)])), (r0, .inl (g.2.1, 64, .inl h0)), (r1, .inl (g.2.1, 5, .inl h1)), (r2, .inl (g.2.1, 5, .inl h2)), (r3, .inl (g.2.1, 40, .inl h3))] H := by rw [hHe]; exact hP
  have hS : va_S A s.heap H locs := by rw [hHe, hLe]; exact hS
  suffices hgo : W p l e ({ frames := 1, cells := 0, slots := 0, locals := 18 } : Room) s m args below meth c H locs 0 0 Q (F0 m 0 ls []) by rw [hHe, hLe] at hgo; exact hgo
  clear hHe hLe
  refine lv_aload_n hx hb dX5_copyFrom_0 rfl (lv_at hl 1 rfl) ?_
  refine va_get (D := g.1) (cl := vwCl) (ci := 5) (v := .ref r0) (C := RX5) (T := TX5) (N := 5) hx hb hts hX5_copyFrom_X5 hown hK hP 5 rfl rfl 0 (by decide) (hts _ kX5_copyFrom_f9) (fun _ h9 => h9) rfl dX5_copyFrom_1 ?_
  refine lv_iconst (v := nI 0) hx hb dX5_copyFrom_4 (by decide) ?_
  refine lv_aload_n hx hb dX5_copyFrom_5 rfl (lv_at hl 0 rfl) ?_
  refine va_get (D := g.1) (cl := vwCl) (ci := 5) (v := .ref q0) (C := RX5) (T := TX5) (N := 5) hx hb hts hX5_copyFrom_X5 hown hK hP 0 rfl rfl 0 (by decide) (hts _ kX5_copyFrom_f9) (fun _ h9 => h9) rfl dX5_copyFrom_6 ?_
  refine lv_iconst (v := nI 0) hx hb dX5_copyFrom_9 (by decide) ?_
  refine lv_aload_n hx hb dX5_copyFrom_10 rfl (lv_at hl 0 rfl) ?_
  refine va_get (D := g.1) (cl := vwCl) (ci := 5) (v := .ref q0) (C := RX5) (T := TX5) (N := 5) hx hb hts hX5_copyFrom_X5 hown hK hP 0 rfl rfl 0 (by decide) (hts _ kX5_copyFrom_f9) (fun _ h9 => h9) rfl dX5_copyFrom_11 ?_
  refine va_alen (D := g.1) (cl := vwCl) (v := nI 64) hx hb hK hP 1 0 rfl (ty := .int) rfl rfl dX5_copyFrom_14 ?_
  refine cpy_i (D := g.1) (cl := vwCl) (n := 64) (f := h0) (g := f0) hx hb hml hl.1 hown (hts _ kX5_copyFrom_m31) (hts _ kX5_copyFrom_acN) (hts _ kX5_copyFrom_acS) (hts _ kX5_copyFrom_acI) hK hP hD hS 6 1 0 rfl rfl rfl (by decide) (Nat.le_of_ble_eq_true rfl) (Nat.le_of_ble_eq_true rfl) dX5_copyFrom_15 (fun H locs hP hD hS => ?_)
  have hP : va_P g.1 vwCl [(s_, .inr (5, [.ref q0, .ref q1, .ref q2, .ref q3, .int (nI dy)])), (q0, .inl (g.2.1, 64, .inl h0)), (q1, .inl (g.2.1, 5, .inl f1)), (q2, .inl (g.2.1, 5, .inl f2)), (q3, .inl (g.2.1, 40, .inl f3)), (o_, .inr (5, [.ref r0, .ref r1, .ref r2, .ref r3, .int (nI d2)])), (r0, .inl (g.2.1, 64, .inl h0)), (r1, .inl (g.2.1, 5, .inl h1)), (r2, .inl (g.2.1, 5, .inl h2)), (r3, .inl (g.2.1, 40, .inl h3))] H := hP
  have hD : va_D A [(s_, .inr (5, [.ref q0, .ref q1, .ref q2, .ref q3, .int (nI dy)])), (q0, .inl (g.2.1, 64, .inl h0)), (q1, .inl (g.2.1, 5, .inl f1)), (q2, .inl (g.2.1, 5, .inl f2)), (q3, .inl (g.2.1, 40, .inl f3)), (o_, .inr (5, [.ref r0, .ref r1, .ref r2, .ref r3, .int (nI d2)])), (r0, .inl (g.2.1, 64, .inl h0)), (r1, .inl (g.2.1, 5, .inl h1)), (r2, .inl (g.2.1, 5, .inl h2)), (r3, .inl (g.2.1, 40, .inl h3))] := hD
  refine lv_aload_n hx hb dX5_copyFrom_18 rfl (lv_at hl 1 rfl) ?_
  refine va_get (D := g.1) (cl := vwCl) (ci := 5) (v := .ref r1) (C := RX5) (T := TX5) (N := 5) hx hb hts hX5_copyFrom_X5 hown hK hP 5 rfl rfl 1 (by decide) (hts _ kX5_copyFrom_f15) (fun _ h9 => h9) rfl dX5_copyFrom_19 ?_
  refine lv_iconst (v := nI 0) hx hb dX5_copyFrom_22 (by decide) ?_
  refine lv_aload_n hx hb dX5_copyFrom_23 rfl (lv_at hl 0 rfl) ?_
  refine va_get (D := g.1) (cl := vwCl) (ci := 5) (v := .ref q1) (C := RX5) (T := TX5) (N := 5) hx hb hts hX5_copyFrom_X5 hown hK hP 0 rfl rfl 1 (by decide) (hts _ kX5_copyFrom_f15) (fun _ h9 => h9) rfl dX5_copyFrom_24 ?_
  refine lv_iconst (v := nI 0) hx hb dX5_copyFrom_27 (by decide) ?_
  refine lv_aload_n hx hb dX5_copyFrom_28 rfl (lv_at hl 0 rfl) ?_
  refine va_get (D := g.1) (cl := vwCl) (ci := 5) (v := .ref q1) (C := RX5) (T := TX5) (N := 5) hx hb hts hX5_copyFrom_X5 hown hK hP 0 rfl rfl 1 (by decide) (hts _ kX5_copyFrom_f15) (fun _ h9 => h9) rfl dX5_copyFrom_29 ?_
  refine va_alen (D := g.1) (cl := vwCl) (v := nI 5) hx hb hK hP 2 0 rfl (ty := .int) rfl rfl dX5_copyFrom_32 ?_
  refine cpy_i (D := g.1) (cl := vwCl) (n := 5) (f := h1) (g := f1) hx hb hml hl.1 hown (hts _ kX5_copyFrom_m31) (hts _ kX5_copyFrom_acN) (hts _ kX5_copyFrom_acS) (hts _ kX5_copyFrom_acI) hK hP hD hS 7 2 0 rfl rfl rfl (by decide) (Nat.le_of_ble_eq_true rfl) (Nat.le_of_ble_eq_true rfl) dX5_copyFrom_33 (fun H locs hP hD hS => ?_)
  have hP : va_P g.1 vwCl [(s_, .inr (5, [.ref q0, .ref q1, .ref q2, .ref q3, .int (nI dy)])), (q0, .inl (g.2.1, 64, .inl h0)), (q1, .inl (g.2.1, 5, .inl h1)), (q2, .inl (g.2.1, 5, .inl f2)), (q3, .inl (g.2.1, 40, .inl f3)), (o_, .inr (5, [.ref r0, .ref r1, .ref r2, .ref r3, .int (nI d2)])), (r0, .inl (g.2.1, 64, .inl h0)), (r1, .inl (g.2.1, 5, .inl h1)), (r2, .inl (g.2.1, 5, .inl h2)), (r3, .inl (g.2.1, 40, .inl h3))] H := hP
  have hD : va_D A [(s_, .inr (5, [.ref q0, .ref q1, .ref q2, .ref q3, .int (nI dy)])), (q0, .inl (g.2.1, 64, .inl h0)), (q1, .inl (g.2.1, 5, .inl h1)), (q2, .inl (g.2.1, 5, .inl f2)), (q3, .inl (g.2.1, 40, .inl f3)), (o_, .inr (5, [.ref r0, .ref r1, .ref r2, .ref r3, .int (nI d2)])), (r0, .inl (g.2.1, 64, .inl h0)), (r1, .inl (g.2.1, 5, .inl h1)), (r2, .inl (g.2.1, 5, .inl h2)), (r3, .inl (g.2.1, 40, .inl h3))] := hD
  refine lv_aload_n hx hb dX5_copyFrom_36 rfl (lv_at hl 1 rfl) ?_
  refine va_get (D := g.1) (cl := vwCl) (ci := 5) (v := .ref r2) (C := RX5) (T := TX5) (N := 5) hx hb hts hX5_copyFrom_X5 hown hK hP 5 rfl rfl 2 (by decide) (hts _ kX5_copyFrom_f18) (fun _ h9 => h9) rfl dX5_copyFrom_37 ?_
  refine lv_iconst (v := nI 0) hx hb dX5_copyFrom_40 (by decide) ?_
  refine lv_aload_n hx hb dX5_copyFrom_41 rfl (lv_at hl 0 rfl) ?_
  refine va_get (D := g.1) (cl := vwCl) (ci := 5) (v := .ref q2) (C := RX5) (T := TX5) (N := 5) hx hb hts hX5_copyFrom_X5 hown hK hP 0 rfl rfl 2 (by decide) (hts _ kX5_copyFrom_f18) (fun _ h9 => h9) rfl dX5_copyFrom_42 ?_
  refine lv_iconst (v := nI 0) hx hb dX5_copyFrom_45 (by decide) ?_
  refine lv_aload_n hx hb dX5_copyFrom_46 rfl (lv_at hl 0 rfl) ?_
  refine va_get (D := g.1) (cl := vwCl) (ci := 5) (v := .ref q2) (C := RX5) (T := TX5) (N := 5) hx hb hts hX5_copyFrom_X5 hown hK hP 0 rfl rfl 2 (by decide) (hts _ kX5_copyFrom_f18) (fun _ h9 => h9) rfl dX5_copyFrom_47 ?_
  refine va_alen (D := g.1) (cl := vwCl) (v := nI 5) hx hb hK hP 3 0 rfl (ty := .int) rfl rfl dX5_copyFrom_50 ?_
  refine cpy_i (D := g.1) (cl := vwCl) (n := 5) (f := h2) (g := f2) hx hb hml hl.1 hown (hts _ kX5_copyFrom_m31) (hts _ kX5_copyFrom_acN) (hts _ kX5_copyFrom_acS) (hts _ kX5_copyFrom_acI) hK hP hD hS 8 3 0 rfl rfl rfl (by decide) (Nat.le_of_ble_eq_true rfl) (Nat.le_of_ble_eq_true rfl) dX5_copyFrom_51 (fun H locs hP hD hS => ?_)
  have hP : va_P g.1 vwCl [(s_, .inr (5, [.ref q0, .ref q1, .ref q2, .ref q3, .int (nI dy)])), (q0, .inl (g.2.1, 64, .inl h0)), (q1, .inl (g.2.1, 5, .inl h1)), (q2, .inl (g.2.1, 5, .inl h2)), (q3, .inl (g.2.1, 40, .inl f3)), (o_, .inr (5, [.ref r0, .ref r1, .ref r2, .ref r3, .int (nI d2)])), (r0, .inl (g.2.1, 64, .inl h0)), (r1, .inl (g.2.1, 5, .inl h1)), (r2, .inl (g.2.1, 5, .inl h2)), (r3, .inl (g.2.1, 40, .inl h3))] H := hP
  have hD : va_D A [(s_, .inr (5, [.ref q0, .ref q1, .ref q2, .ref q3, .int (nI dy)])), (q0, .inl (g.2.1, 64, .inl h0)), (q1, .inl (g.2.1, 5, .inl h1)), (q2, .inl (g.2.1, 5, .inl h2)), (q3, .inl (g.2.1, 40, .inl f3)), (o_, .inr (5, [.ref r0, .ref r1, .ref r2, .ref r3, .int (nI d2)])), (r0, .inl (g.2.1, 64, .inl h0)), (r1, .inl (g.2.1, 5, .inl h1)), (r2, .inl (g.2.1, 5, .inl h2)), (r3, .inl (g.2.1, 40, .inl h3))] := hD
  refine lv_aload_n hx hb dX5_copyFrom_54 rfl (lv_at hl 1 rfl) ?_
  refine va_get (D := g.1) (cl := vwCl) (ci := 5) (v := .ref r3) (C := RX5) (T := TX5) (N := 5) hx hb hts hX5_copyFrom_X5 hown hK hP 5 rfl rfl 3 (by decide) (hts _ kX5_copyFrom_f21) (fun _ h9 => h9) rfl dX5_copyFrom_55 ?_
  refine lv_iconst (v := nI 0) hx hb dX5_copyFrom_58 (by decide) ?_
  refine lv_aload_n hx hb dX5_copyFrom_59 rfl (lv_at hl 0 rfl) ?_
  refine va_get (D := g.1) (cl := vwCl) (ci := 5) (v := .ref q3) (C := RX5) (T := TX5) (N := 5) hx hb hts hX5_copyFrom_X5 hown hK hP 0 rfl rfl 3 (by decide) (hts _ kX5_copyFrom_f21) (fun _ h9 => h9) rfl dX5_copyFrom_60 ?_
  refine lv_iconst (v := nI 0) hx hb dX5_copyFrom_63 (by decide) ?_
  refine lv_aload_n hx hb dX5_copyFrom_64 rfl (lv_at hl 0 rfl) ?_
  refine va_get (D := g.1) (cl := vwCl) (ci := 5) (v := .ref q3) (C := RX5) (T := TX5) (N := 5) hx hb hts hX5_copyFrom_X5 hown hK hP 0 rfl rfl 3 (by decide) (hts _ kX5_copyFrom_f21) (fun _ h9 => h9) rfl dX5_copyFrom_65 ?_
  refine va_alen (D := g.1) (cl := vwCl) (v := nI 40) hx hb hK hP 4 0 rfl (ty := .int) rfl rfl dX5_copyFrom_68 ?_
  refine cpy_i (D := g.1) (cl := vwCl) (n := 40) (f := h3) (g := f3) hx hb hml hl.1 hown (hts _ kX5_copyFrom_m31) (hts _ kX5_copyFrom_acN) (hts _ kX5_copyFrom_acS) (hts _ kX5_copyFrom_acI) hK hP hD hS 9 4 0 rfl rfl rfl (by decide) (Nat.le_of_ble_eq_true rfl) (Nat.le_of_ble_eq_true rfl) dX5_copyFrom_69 (fun H locs hP hD hS => ?_)
  have hP : va_P g.1 vwCl [(s_, .inr (5, [.ref q0, .ref q1, .ref q2, .ref q3, .int (nI dy)])), (q0, .inl (g.2.1, 64, .inl h0)), (q1, .inl (g.2.1, 5, .inl h1)), (q2, .inl (g.2.1, 5, .inl h2)), (q3, .inl (g.2.1, 40, .inl h3)), (o_, .inr (5, [.ref r0, .ref r1, .ref r2, .ref r3, .int (nI d2)])), (r0, .inl (g.2.1, 64, .inl h0)), (r1, .inl (g.2.1, 5, .inl h1)), (r2, .inl (g.2.1, 5, .inl h2)), (r3, .inl (g.2.1, 40, .inl h3))] H := hP
  have hD : va_D A [(s_, .inr (5, [.ref q0, .ref q1, .ref q2, .ref q3, .int (nI dy)])), (q0, .inl (g.2.1, 64, .inl h0)), (q1, .inl (g.2.1, 5, .inl h1)), (q2, .inl (g.2.1, 5, .inl h2)), (q3, .inl (g.2.1, 40, .inl h3)), (o_, .inr (5, [.ref r0, .ref r1, .ref r2, .ref r3, .int (nI d2)])), (r0, .inl (g.2.1, 64, .inl h0)), (r1, .inl (g.2.1, 5, .inl h1)), (r2, .inl (g.2.1, 5, .inl h2)), (r3, .inl (g.2.1, 40, .inl h3))] := hD
  refine lv_aload_n hx hb dX5_copyFrom_72 rfl (lv_at hl 0 rfl) ?_
  refine lv_aload_n hx hb dX5_copyFrom_73 rfl (lv_at hl 1 rfl) ?_
  refine va_get (D := g.1) (cl := vwCl) (ci := 5) (v := .int (nI d2)) (C := RX5) (T := TX5) (N := 5) hx hb hts hX5_copyFrom_X5 hown hK hP 5 rfl rfl 4 (by decide) (hts _ kX5_copyFrom_f24) (fun _ h9 => h9) rfl dX5_copyFrom_74 ?_
  refine va_put (D := g.1) (cl := vwCl) (ci := 5) (v := .int (nI d2)) (ty := .int) (C := RX5) (T := TX5) (N := 5) hx hb hts hX5_copyFrom_X5 tyX5 tyX5_ok nmX5 hown hK hP hD hS 0 rfl rfl 4 (by decide) (hts _ kX5_copyFrom_f24) (fun _ h9 => h9) rfl (by decide +kernel) (rfl) (rfl) (Nat.le_of_ble_eq_true rfl) dX5_copyFrom_77 (fun H locs hP hD hS => ?_)
  have hP : va_P g.1 vwCl [(s_, .inr (5, [.ref q0, .ref q1, .ref q2, .ref q3, .int (nI d2)])), (q0, .inl (g.2.1, 64, .inl h0)), (q1, .inl (g.2.1, 5, .inl h1)), (q2, .inl (g.2.1, 5, .inl h2)), (q3, .inl (g.2.1, 40, .inl h3)), (o_, .inr (5, [.ref r0, .ref r1, .ref r2, .ref r3, .int (nI d2)])), (r0, .inl (g.2.1, 64, .inl h0)), (r1, .inl (g.2.1, 5, .inl h1)), (r2, .inl (g.2.1, 5, .inl h2)), (r3, .inl (g.2.1, 40, .inl h3))] H := hP
  have hD : va_D A [(s_, .inr (5, [.ref q0, .ref q1, .ref q2, .ref q3, .int (nI d2)])), (q0, .inl (g.2.1, 64, .inl h0)), (q1, .inl (g.2.1, 5, .inl h1)), (q2, .inl (g.2.1, 5, .inl h2)), (q3, .inl (g.2.1, 40, .inl h3)), (o_, .inr (5, [.ref r0, .ref r1, .ref r2, .ref r3, .int (nI d2)])), (r0, .inl (g.2.1, 64, .inl h0)), (r1, .inl (g.2.1, 5, .inl h1)), (r2, .inl (g.2.1, 5, .inl h2)), (r3, .inl (g.2.1, 40, .inl h3))] := hD
  exact hret () H locs 80 ls (trivial) (hP) (hD) hS dX5_copyFrom_80
theorem kX5_begin_f28 : (Cond.fieldLink RX5 28 "LastCallersWord$Plan" "likings" "[I" : Cond) ∈ wsX5_begin := List.mem_cons_of_mem _ aw_237
theorem hX5_begin_X1 : ∀ w ∈ wsX10, w ∈ wsX5_begin := fun w h => List.mem_cons_of_mem _ (ac_X1 w h)
theorem kX5_begin_f9 : (Cond.fieldLink RX5 9 "LastCallersWord$State" "likings" "[I" : Cond) ∈ wsX5_begin := List.mem_cons_of_mem _ aw_71
theorem hX5_begin_X5 : ∀ w ∈ wsX50, w ∈ wsX5_begin := fun w h => List.mem_cons_of_mem _ (ac_X5 w h)
theorem kX5_begin_m31 : (Cond.methodLink RX5 31 arraycopyName : Cond) ∈ wsX5_begin := List.mem_cons_of_mem _ aw_238
theorem kX5_begin_acN : (Cond.native arraycopyName : Cond) ∈ wsX5_begin := List.mem_cons_of_mem _ aw_230
theorem kX5_begin_acS : (Cond.static arraycopyName : Cond) ∈ wsX5_begin := List.mem_cons_of_mem _ aw_231
theorem kX5_begin_acI : (Cond.initialized "java/lang/System" : Cond) ∈ wsX5_begin := List.mem_cons_of_mem _ aw_232
theorem kX5_begin_f37 : (Cond.fieldLink RX5 37 "LastCallersWord$Plan" "callers" "[I" : Cond) ∈ wsX5_begin := List.mem_cons_of_mem _ aw_239
theorem kX5_begin_f15 : (Cond.fieldLink RX5 15 "LastCallersWord$State" "callers" "[I" : Cond) ∈ wsX5_begin := List.mem_cons_of_mem _ aw_72
theorem kX5_begin_f24 : (Cond.fieldLink RX5 24 "LastCallersWord$State" "days" "I" : Cond) ∈ wsX5_begin := List.mem_cons_of_mem _ aw_75
set_option maxHeartbeats 4000000 in
set_option maxRecDepth 100000 in
theorem c_X5_begin (l : Launch) (g : GG) (s_ : Nat) (q0 : Nat) (q1 : Nat) (q2 : Nat) (q3 : Nat) (f0 : Nat → Int32) (f1 : Nat → Int32) (f2 : Nat → Int32) (f3 : Nat → Int32) (dy : Nat) (o_ : Nat) (r0 : Nat) (r1 : Nat) (r2 : Nat) (r3 : Nat) (r4 : Nat) (h1 : Nat → Int32) (h3 : Nat → Int32) (m0 : Nat) (m1 : Nat) (m2 : Nat) (m3 : Nat) (m4 : Nat) : Met l yX5_begin wsX5_begin ({ frames := 1, cells := 0, slots := 0, locals := 21 } : Room) (wr g [.ref s_, .ref o_] [(s_, .inr (5, [.ref q0, .ref q1, .ref q2, .ref q3, .int (nI dy)])), (q0, .inl (g.2.1, 64, .inl f0)), (q1, .inl (g.2.1, 5, .inl f1)), (q2, .inl (g.2.1, 5, .inl f2)), (q3, .inl (g.2.1, 40, .inl f3)), (o_, .inr (1, [.ref r0, .ref r1, .ref r2, .ref r3, .ref r4, .int (nI m0), .int (nI m1), .int (nI m2), .int (nI m3), .int (nI m4)])), (r1, .inl (g.2.1, 64, .inl h1)), (r3, .inl (g.2.1, 5, .inl h3))]) (wQv g [(s_, .inr (5, [.ref q0, .ref q1, .ref q2, .ref q3, .int (nI dy)])), (q0, .inl (g.2.1, 64, .inl f0)), (q1, .inl (g.2.1, 5, .inl f1)), (q2, .inl (g.2.1, 5, .inl f2)), (q3, .inl (g.2.1, 40, .inl f3)), (o_, .inr (1, [.ref r0, .ref r1, .ref r2, .ref r3, .ref r4, .int (nI m0), .int (nI m1), .int (nI m2), .int (nI m3), .int (nI m4)])), (r1, .inl (g.2.1, 64, .inl h1)), (r3, .inl (g.2.1, 5, .inl h3))] (fun u : Unit => [(s_, .inr (5, [.ref q0, .ref q1, .ref q2, .ref q3, .int (nI 0)])), (q0, .inl (g.2.1, 64, .inl h1)), (q1, .inl (g.2.1, 5, .inl h3)), (q2, .inl (g.2.1, 5, .inl f2)), (q3, .inl (g.2.1, 40, .inl zF)), (o_, .inr (1, [.ref r0, .ref r1, .ref r2, .ref r3, .ref r4, .int (nI m0), .int (nI m1), .int (nI m2), .int (nI m3), .int (nI m4)])), (r1, .inl (g.2.1, 64, .inl h1)), (r3, .inl (g.2.1, 5, .inl h3))]) (fun u => True)) 0 0 (cA [(s_, .inr (5, [.ref q0, .ref q1, .ref q2, .ref q3, .int (nI dy)])), (q0, .inl (g.2.1, 64, .inl f0)), (q1, .inl (g.2.1, 5, .inl f1)), (q2, .inl (g.2.1, 5, .inl f2)), (q3, .inl (g.2.1, 40, .inl f3)), (o_, .inr (1, [.ref r0, .ref r1, .ref r2, .ref r3, .ref r4, .int (nI m0), .int (nI m1), .int (nI m2), .int (nI m3), .int (nI m4)])), (r1, .inl (g.2.1, 64, .inl h1)), (r3, .inl (g.2.1, 5, .inl h3))]) := by
  refine wr_startv (cc := cX5_begin) (maxL := 2) (by decide) rfl (Nat.le_of_ble_eq_true rfl) (fun p e s m args below meth c Q A C hP hD hS hret ls hl => ?_)
  obtain ⟨hx, hb, hml, hr, hown, hts, hlk, hKK⟩ := id C
  have hK := hKK.1
  have hown : s.vm.findClass RX5 = some m.cls := hown
  have ctx : CallFix p m c cX5_begin 2 s args wsX5_begin RX5 := ⟨hx, hb, hml, hown, hts⟩
  have hl : lv_has ls 2 [(0, .ref s_), (1, .ref o_)] := hl
  obtain ⟨H, hHe⟩ : ∃ H, H = s.heap := ⟨_, rfl⟩
  obtain ⟨locs, hLe⟩ : ∃ L : List Loc, L = [] := ⟨_, rfl⟩
  have hP : va_P g.1 vwCl [(s_, .inr (5, [.ref q0, .ref q1, .ref q2, .ref q3, .int (nI dy)])), (q0, .inl (g.2.1, 64, .inl f0)), (q1, .inl (g.2.1, 5, .inl f1)), (q2, .inl (g.2.1, 5, .inl f2)), (q3, .inl (g.2.1, 40, .inl f3)), (o_, .inr (1, [.ref r0, .ref r1, .ref r2, .ref r3, .ref r4, .int (nI m0), .int (nI m1), .int (nI m2), .int (nI m3), .int (nI m4)])), (r1, .inl (g.2.1, 64, .inl h1)), (r3, .inl (g.2.1, 5, .inl h3))] H := by rw [hHe]; exact hP
  have hS : va_S A s.heap H locs := by rw [hHe, hLe]; exact hS
  suffices hgo : W p l e ({ frames := 1, cells := 0, slots := 0, locals := 21 } : Room) s m args below meth c H locs 0 0 Q (F0 m 0 ls []) by rw [hHe, hLe] at hgo; exact hgo
  clear hHe hLe
  refine lv_aload_n hx hb dX5_begin_0 rfl (lv_at hl 1 rfl) ?_
  refine va_get (D := g.1) (cl := vwCl) (ci := 1) (v := .ref r1) (C := RX1) (T := TX1) (N := 10) hx hb hts hX5_begin_X1 hown hK hP 5 rfl rfl 1 (by decide) (hts _ kX5_begin_f28) (fun _ h9 => h9) rfl dX5_begin_1 ?_
  refine lv_iconst (v := nI 0) hx hb dX5_begin_4 (by decide) ?_
  refine lv_aload_n hx hb dX5_begin_5 rfl (lv_at hl 0 rfl) ?_
  refine va_get (D := g.1) (cl := vwCl) (ci := 5) (v := .ref q0) (C := RX5) (T := TX5) (N := 5) hx hb hts hX5_begin_X5 hown hK hP 0 rfl rfl 0 (by decide) (hts _ kX5_begin_f9) (fun _ h9 => h9) rfl dX5_begin_6 ?_
  refine lv_iconst (v := nI 0) hx hb dX5_begin_9 (by decide) ?_
  refine lv_aload_n hx hb dX5_begin_10 rfl (lv_at hl 0 rfl) ?_
  refine va_get (D := g.1) (cl := vwCl) (ci := 5) (v := .ref q0) (C := RX5) (T := TX5) (N := 5) hx hb hts hX5_begin_X5 hown hK hP 0 rfl rfl 0 (by decide) (hts _ kX5_begin_f9) (fun _ h9 => h9) rfl dX5_begin_11 ?_
  refine va_alen (D := g.1) (cl := vwCl) (v := nI 64) hx hb hK hP 1 0 rfl (ty := .int) rfl rfl dX5_begin_14 ?_
  refine cpy_i (D := g.1) (cl := vwCl) (n := 64) (f := h1) (g := f0) hx hb hml hl.1 hown (hts _ kX5_begin_m31) (hts _ kX5_begin_acN) (hts _ kX5_begin_acS) (hts _ kX5_begin_acI) hK hP hD hS 6 1 0 rfl rfl rfl (by decide) (Nat.le_of_ble_eq_true rfl) (Nat.le_of_ble_eq_true rfl) dX5_begin_15 (fun H locs hP hD hS => ?_)
  have hP : va_P g.1 vwCl [(s_, .inr (5, [.ref q0, .ref q1, .ref q2, .ref q3, .int (nI dy)])), (q0, .inl (g.2.1, 64, .inl h1)), (q1, .inl (g.2.1, 5, .inl f1)), (q2, .inl (g.2.1, 5, .inl f2)), (q3, .inl (g.2.1, 40, .inl f3)), (o_, .inr (1, [.ref r0, .ref r1, .ref r2, .ref r3, .ref r4, .int (nI m0), .int (nI m1), .int (nI m2), .int (nI m3), .int (nI m4)])), (r1, .inl (g.2.1, 64, .inl h1)), (r3, .inl (g.2.1, 5, .inl h3))] H := hP
  have hD : va_D A [(s_, .inr (5, [.ref q0, .ref q1, .ref q2, .ref q3, .int (nI dy)])), (q0, .inl (g.2.1, 64, .inl h1)), (q1, .inl (g.2.1, 5, .inl f1)), (q2, .inl (g.2.1, 5, .inl f2)), (q3, .inl (g.2.1, 40, .inl f3)), (o_, .inr (1, [.ref r0, .ref r1, .ref r2, .ref r3, .ref r4, .int (nI m0), .int (nI m1), .int (nI m2), .int (nI m3), .int (nI m4)])), (r1, .inl (g.2.1, 64, .inl h1)), (r3, .inl (g.2.1, 5, .inl h3))] := hD
  refine lv_aload_n hx hb dX5_begin_18 rfl (lv_at hl 1 rfl) ?_
  refine va_get (D := g.1) (cl := vwCl) (ci := 1) (v := .ref r3) (C := RX1) (T := TX1) (N := 10) hx hb hts hX5_begin_X1 hown hK hP 5 rfl rfl 3 (by decide) (hts _ kX5_begin_f37) (fun _ h9 => h9) rfl dX5_begin_19 ?_
  refine lv_iconst (v := nI 0) hx hb dX5_begin_22 (by decide) ?_
  refine lv_aload_n hx hb dX5_begin_23 rfl (lv_at hl 0 rfl) ?_
  refine va_get (D := g.1) (cl := vwCl) (ci := 5) (v := .ref q1) (C := RX5) (T := TX5) (N := 5) hx hb hts hX5_begin_X5 hown hK hP 0 rfl rfl 1 (by decide) (hts _ kX5_begin_f15) (fun _ h9 => h9) rfl dX5_begin_24 ?_
  refine lv_iconst (v := nI 0) hx hb dX5_begin_27 (by decide) ?_
  refine lv_aload_n hx hb dX5_begin_28 rfl (lv_at hl 0 rfl) ?_
  refine va_get (D := g.1) (cl := vwCl) (ci := 5) (v := .ref q1) (C := RX5) (T := TX5) (N := 5) hx hb hts hX5_begin_X5 hown hK hP 0 rfl rfl 1 (by decide) (hts _ kX5_begin_f15) (fun _ h9 => h9) rfl dX5_begin_29 ?_
  refine va_alen (D := g.1) (cl := vwCl) (v := nI 5) hx hb hK hP 2 0 rfl (ty := .int) rfl rfl dX5_begin_32 ?_
  refine cpy_i (D := g.1) (cl := vwCl) (n := 5) (f := h3) (g := f1) hx hb hml hl.1 hown (hts _ kX5_begin_m31) (hts _ kX5_begin_acN) (hts _ kX5_begin_acS) (hts _ kX5_begin_acI) hK hP hD hS 7 2 0 rfl rfl rfl (by decide) (Nat.le_of_ble_eq_true rfl) (Nat.le_of_ble_eq_true rfl) dX5_begin_33 (fun H locs hP hD hS => ?_)
  have hP : va_P g.1 vwCl [(s_, .inr (5, [.ref q0, .ref q1, .ref q2, .ref q3, .int (nI dy)])), (q0, .inl (g.2.1, 64, .inl h1)), (q1, .inl (g.2.1, 5, .inl h3)), (q2, .inl (g.2.1, 5, .inl f2)), (q3, .inl (g.2.1, 40, .inl f3)), (o_, .inr (1, [.ref r0, .ref r1, .ref r2, .ref r3, .ref r4, .int (nI m0), .int (nI m1), .int (nI m2), .int (nI m3), .int (nI m4)])), (r1, .inl (g.2.1, 64, .inl h1)), (r3, .inl (g.2.1, 5, .inl h3))] H := hP
  have hD : va_D A [(s_, .inr (5, [.ref q0, .ref q1, .ref q2, .ref q3, .int (nI dy)])), (q0, .inl (g.2.1, 64, .inl h1)), (q1, .inl (g.2.1, 5, .inl h3)), (q2, .inl (g.2.1, 5, .inl f2)), (q3, .inl (g.2.1, 40, .inl f3)), (o_, .inr (1, [.ref r0, .ref r1, .ref r2, .ref r3, .ref r4, .int (nI m0), .int (nI m1), .int (nI m2), .int (nI m3), .int (nI m4)])), (r1, .inl (g.2.1, 64, .inl h1)), (r3, .inl (g.2.1, 5, .inl h3))] := hD
  refine lv_aload_n hx hb dX5_begin_36 rfl (lv_at hl 0 rfl) ?_
  refine wr_callVv (As := []) (rest := []) (b := s_) ctx hKK hP hD hS (c_X5_forgiveAll l g s_ q0 q1 q2 q3 f3 dy) gX5_begin_X5_forgiveAll rfl rfl rfl hdX5_forgiveAll ⟨Nat.le_of_ble_eq_true rfl, Nat.le_of_ble_eq_true rfl⟩ [0, 4] rfl rfl (fun _ _ => rfl) (ci := 5) (q0 := 0) rfl rfl hl.1 rfl rfl (Nat.le_of_ble_eq_true rfl) dX5_begin_37 (fun u_2 H locs hr_1 hP hD hS => ?_)
  have hP : va_P g.1 vwCl [(s_, .inr (5, [.ref q0, .ref q1, .ref q2, .ref q3, .int (nI dy)])), (q0, .inl (g.2.1, 64, .inl h1)), (q1, .inl (g.2.1, 5, .inl h3)), (q2, .inl (g.2.1, 5, .inl f2)), (q3, .inl (g.2.1, 40, .inl zF)), (o_, .inr (1, [.ref r0, .ref r1, .ref r2, .ref r3, .ref r4, .int (nI m0), .int (nI m1), .int (nI m2), .int (nI m3), .int (nI m4)])), (r1, .inl (g.2.1, 64, .inl h1)), (r3, .inl (g.2.1, 5, .inl h3))] H := hP
  have hD : va_D A [(s_, .inr (5, [.ref q0, .ref q1, .ref q2, .ref q3, .int (nI dy)])), (q0, .inl (g.2.1, 64, .inl h1)), (q1, .inl (g.2.1, 5, .inl h3)), (q2, .inl (g.2.1, 5, .inl f2)), (q3, .inl (g.2.1, 40, .inl zF)), (o_, .inr (1, [.ref r0, .ref r1, .ref r2, .ref r3, .ref r4, .int (nI m0), .int (nI m1), .int (nI m2), .int (nI m3), .int (nI m4)])), (r1, .inl (g.2.1, 64, .inl h1)), (r3, .inl (g.2.1, 5, .inl h3))] := hD
  refine lv_aload_n hx hb dX5_begin_40 rfl (lv_at hl 0 rfl) ?_
  refine lv_iconst (v := nI 0) hx hb dX5_begin_41 (by decide) ?_
  refine va_put (D := g.1) (cl := vwCl) (ci := 5) (v := .int (nI 0)) (ty := .int) (C := RX5) (T := TX5) (N := 5) hx hb hts hX5_begin_X5 tyX5 tyX5_ok nmX5 hown hK hP hD hS 0 rfl rfl 4 (by decide) (hts _ kX5_begin_f24) (fun _ h9 => h9) rfl (by decide +kernel) (rfl) (rfl) (Nat.le_of_ble_eq_true rfl) dX5_begin_42 (fun H locs hP hD hS => ?_)
  have hP : va_P g.1 vwCl [(s_, .inr (5, [.ref q0, .ref q1, .ref q2, .ref q3, .int (nI 0)])), (q0, .inl (g.2.1, 64, .inl h1)), (q1, .inl (g.2.1, 5, .inl h3)), (q2, .inl (g.2.1, 5, .inl f2)), (q3, .inl (g.2.1, 40, .inl zF)), (o_, .inr (1, [.ref r0, .ref r1, .ref r2, .ref r3, .ref r4, .int (nI m0), .int (nI m1), .int (nI m2), .int (nI m3), .int (nI m4)])), (r1, .inl (g.2.1, 64, .inl h1)), (r3, .inl (g.2.1, 5, .inl h3))] H := hP
  have hD : va_D A [(s_, .inr (5, [.ref q0, .ref q1, .ref q2, .ref q3, .int (nI 0)])), (q0, .inl (g.2.1, 64, .inl h1)), (q1, .inl (g.2.1, 5, .inl h3)), (q2, .inl (g.2.1, 5, .inl f2)), (q3, .inl (g.2.1, 40, .inl zF)), (o_, .inr (1, [.ref r0, .ref r1, .ref r2, .ref r3, .ref r4, .int (nI m0), .int (nI m1), .int (nI m2), .int (nI m3), .int (nI m4)])), (r1, .inl (g.2.1, 64, .inl h1)), (r3, .inl (g.2.1, 5, .inl h3))] := hD
  exact hret () H locs 45 ls (trivial) (hP) (hD) hS dX5_begin_45
theorem kX4_add_f21 : (Cond.fieldLink RX4 21 "LastCallersWord$Sightings" "size" "I" : Cond) ∈ wsX4_add := List.mem_cons_of_mem _ aw_88
theorem hX4_add_X4 : ∀ w ∈ wsX40, w ∈ wsX4_add := fun w h => List.mem_cons_of_mem _ (ac_X4 w h)
theorem kX4_add_f9 : (Cond.fieldLink RX4 9 "LastCallersWord$Sightings" "persons" "[I" : Cond) ∈ wsX4_add := List.mem_cons_of_mem _ aw_85
theorem kX4_add_f15 : (Cond.fieldLink RX4 15 "LastCallersWord$Sightings" "doors" "[I" : Cond) ∈ wsX4_add := List.mem_cons_of_mem _ aw_86
theorem kX4_add_f18 : (Cond.fieldLink RX4 18 "LastCallersWord$Sightings" "coulds" "[I" : Cond) ∈ wsX4_add := List.mem_cons_of_mem _ aw_87
set_option maxHeartbeats 4000000 in
set_option maxRecDepth 100000 in
theorem c_X4_add (l : Launch) (g : GG) (g_ : Nat) (q0 : Nat) (q1 : Nat) (q2 : Nat) (f0 : Nat → Int32) (f1 : Nat → Int32) (f2 : Nat → Int32) (sz : Nat) (i1 : Int32) (i2 : Int32) (i3 : Int32) (hsz : sz < 8) : Met l yX4_add wsX4_add ({ frames := 0, cells := 0, slots := 0, locals := 0 } : Room) (wr g [.ref g_, .int i1, .int i2, .int i3] [(g_, .inr (4, [.ref q0, .ref q1, .ref q2, .int (nI sz)])), (q0, .inl (g.2.1, 8, .inl f0)), (q1, .inl (g.2.1, 8, .inl f1)), (q2, .inl (g.2.1, 8, .inl f2))]) (wQv g [(g_, .inr (4, [.ref q0, .ref q1, .ref q2, .int (nI sz)])), (q0, .inl (g.2.1, 8, .inl f0)), (q1, .inl (g.2.1, 8, .inl f1)), (q2, .inl (g.2.1, 8, .inl f2))] (fun u : Unit => [(g_, .inr (4, [.ref q0, .ref q1, .ref q2, .int (nI (sz + 1))])), (q0, .inl (g.2.1, 8, .inl (upd f0 sz i1))), (q1, .inl (g.2.1, 8, .inl (upd f1 sz i2))), (q2, .inl (g.2.1, 8, .inl (upd f2 sz i3)))]) (fun u => True)) 0 0 (cA [(g_, .inr (4, [.ref q0, .ref q1, .ref q2, .int (nI sz)])), (q0, .inl (g.2.1, 8, .inl f0)), (q1, .inl (g.2.1, 8, .inl f1)), (q2, .inl (g.2.1, 8, .inl f2))]) := by
  refine wr_startv (cc := cX4_add) (maxL := 4) (by decide) rfl (Nat.le_of_ble_eq_true rfl) (fun p e s m args below meth c Q A C hP hD hS hret ls hl => ?_)
  obtain ⟨hx, hb, hml, hr, hown, hts, hlk, hKK⟩ := id C
  have hK := hKK.1
  have hown : s.vm.findClass RX4 = some m.cls := hown
  have ctx : CallFix p m c cX4_add 4 s args wsX4_add RX4 := ⟨hx, hb, hml, hown, hts⟩
  have hl : lv_has ls 4 [(0, .ref g_), (1, .int i1), (2, .int i2), (3, .int i3)] := hl
  obtain ⟨H, hHe⟩ : ∃ H, H = s.heap := ⟨_, rfl⟩
  obtain ⟨locs, hLe⟩ : ∃ L : List Loc, L = [] := ⟨_, rfl⟩
  have hP : va_P g.1 vwCl [(g_, .inr (4, [.ref q0, .ref q1, .ref q2, .int (nI sz)])), (q0, .inl (g.2.1, 8, .inl f0)), (q1, .inl (g.2.1, 8, .inl f1)), (q2, .inl (g.2.1, 8, .inl f2))] H := by rw [hHe]; exact hP
  have hS : va_S A s.heap H locs := by rw [hHe, hLe]; exact hS
  suffices hgo : W p l e ({ frames := 0, cells := 0, slots := 0, locals := 0 } : Room) s m args below meth c H locs 0 0 Q (F0 m 0 ls []) by rw [hHe, hLe] at hgo; exact hgo
  clear hHe hLe
  refine lv_aload_n hx hb dX4_add_0 rfl (lv_at hl 0 rfl) ?_
  refine va_get (D := g.1) (cl := vwCl) (ci := 4) (v := .int (nI sz)) (C := RX4) (T := TX4) (N := 4) hx hb hts hX4_add_X4 hown hK hP 0 rfl rfl 3 (by decide) (hts _ kX4_add_f21) (fun _ h9 => h9) rfl dX4_add_1 ?_
  refine lv_bipush (v := nI 8) hx hb dX4_add_4 (by decide) ?_
  refine lv_icmp_ge (tgt := 49) hx hb dX4_add_6 (by decide) (fun c_1 => ?_) (fun c_1 => ?_)
  · replace c_1 : 8 ≤ sz := (nI_leI (a := 8) (b := sz) (by omega) (by omega)).mp c_1; omega
  · replace c_1 : ¬ 8 ≤ sz := fun h => c_1 ((nI_leI (a := 8) (b := sz) (by omega) (by omega)).mpr h)
    refine lv_aload_n hx hb dX4_add_9 rfl (lv_at hl 0 rfl) ?_
    refine va_get (D := g.1) (cl := vwCl) (ci := 4) (v := .ref q0) (C := RX4) (T := TX4) (N := 4) hx hb hts hX4_add_X4 hown hK hP 0 rfl rfl 0 (by decide) (hts _ kX4_add_f9) (fun _ h9 => h9) rfl dX4_add_10 ?_
    refine lv_aload_n hx hb dX4_add_13 rfl (lv_at hl 0 rfl) ?_
    refine va_get (D := g.1) (cl := vwCl) (ci := 4) (v := .int (nI sz)) (C := RX4) (T := TX4) (N := 4) hx hb hts hX4_add_X4 hown hK hP 0 rfl rfl 3 (by decide) (hts _ kX4_add_f21) (fun _ h9 => h9) rfl dX4_add_14 ?_
    refine lv_iload_n hx hb dX4_add_17 rfl (lv_at hl 1 rfl) ?_
    refine ast_i (D := g.1) (cl := vwCl) (f := f0) (i := sz) (n := 8) (x := i1) hx hb hK hP hD hS 1 0 rfl rfl (by omega) (by decide) dX4_add_18 (fun H locs hP hD hS => ?_)
    have hP : va_P g.1 vwCl [(g_, .inr (4, [.ref q0, .ref q1, .ref q2, .int (nI sz)])), (q0, .inl (g.2.1, 8, .inl (upd f0 sz i1))), (q1, .inl (g.2.1, 8, .inl f1)), (q2, .inl (g.2.1, 8, .inl f2))] H := hP
    have hD : va_D A [(g_, .inr (4, [.ref q0, .ref q1, .ref q2, .int (nI sz)])), (q0, .inl (g.2.1, 8, .inl (upd f0 sz i1))), (q1, .inl (g.2.1, 8, .inl f1)), (q2, .inl (g.2.1, 8, .inl f2))] := hD
    refine lv_aload_n hx hb dX4_add_19 rfl (lv_at hl 0 rfl) ?_
    refine va_get (D := g.1) (cl := vwCl) (ci := 4) (v := .ref q1) (C := RX4) (T := TX4) (N := 4) hx hb hts hX4_add_X4 hown hK hP 0 rfl rfl 1 (by decide) (hts _ kX4_add_f15) (fun _ h9 => h9) rfl dX4_add_20 ?_
    refine lv_aload_n hx hb dX4_add_23 rfl (lv_at hl 0 rfl) ?_
    refine va_get (D := g.1) (cl := vwCl) (ci := 4) (v := .int (nI sz)) (C := RX4) (T := TX4) (N := 4) hx hb hts hX4_add_X4 hown hK hP 0 rfl rfl 3 (by decide) (hts _ kX4_add_f21) (fun _ h9 => h9) rfl dX4_add_24 ?_
    refine lv_iload_n hx hb dX4_add_27 rfl (lv_at hl 2 rfl) ?_
    refine ast_i (D := g.1) (cl := vwCl) (f := f1) (i := sz) (n := 8) (x := i2) hx hb hK hP hD hS 2 0 rfl rfl (by omega) (by decide) dX4_add_28 (fun H locs hP hD hS => ?_)
    have hP : va_P g.1 vwCl [(g_, .inr (4, [.ref q0, .ref q1, .ref q2, .int (nI sz)])), (q0, .inl (g.2.1, 8, .inl (upd f0 sz i1))), (q1, .inl (g.2.1, 8, .inl (upd f1 sz i2))), (q2, .inl (g.2.1, 8, .inl f2))] H := hP
    have hD : va_D A [(g_, .inr (4, [.ref q0, .ref q1, .ref q2, .int (nI sz)])), (q0, .inl (g.2.1, 8, .inl (upd f0 sz i1))), (q1, .inl (g.2.1, 8, .inl (upd f1 sz i2))), (q2, .inl (g.2.1, 8, .inl f2))] := hD
    refine lv_aload_n hx hb dX4_add_29 rfl (lv_at hl 0 rfl) ?_
    refine va_get (D := g.1) (cl := vwCl) (ci := 4) (v := .ref q2) (C := RX4) (T := TX4) (N := 4) hx hb hts hX4_add_X4 hown hK hP 0 rfl rfl 2 (by decide) (hts _ kX4_add_f18) (fun _ h9 => h9) rfl dX4_add_30 ?_
    refine lv_aload_n hx hb dX4_add_33 rfl (lv_at hl 0 rfl) ?_
    refine va_get (D := g.1) (cl := vwCl) (ci := 4) (v := .int (nI sz)) (C := RX4) (T := TX4) (N := 4) hx hb hts hX4_add_X4 hown hK hP 0 rfl rfl 3 (by decide) (hts _ kX4_add_f21) (fun _ h9 => h9) rfl dX4_add_34 ?_
    refine lv_iload_n hx hb dX4_add_37 rfl (lv_at hl 3 rfl) ?_
    refine ast_i (D := g.1) (cl := vwCl) (f := f2) (i := sz) (n := 8) (x := i3) hx hb hK hP hD hS 3 0 rfl rfl (by omega) (by decide) dX4_add_38 (fun H locs hP hD hS => ?_)
    have hP : va_P g.1 vwCl [(g_, .inr (4, [.ref q0, .ref q1, .ref q2, .int (nI sz)])), (q0, .inl (g.2.1, 8, .inl (upd f0 sz i1))), (q1, .inl (g.2.1, 8, .inl (upd f1 sz i2))), (q2, .inl (g.2.1, 8, .inl (upd f2 sz i3)))] H := hP
    have hD : va_D A [(g_, .inr (4, [.ref q0, .ref q1, .ref q2, .int (nI sz)])), (q0, .inl (g.2.1, 8, .inl (upd f0 sz i1))), (q1, .inl (g.2.1, 8, .inl (upd f1 sz i2))), (q2, .inl (g.2.1, 8, .inl (upd f2 sz i3)))] := hD
    refine lv_aload_n hx hb dX4_add_39 rfl (lv_at hl 0 rfl) ?_
    refine lv_dup hx hb dX4_add_40 rfl ?_
    refine va_get (D := g.1) (cl := vwCl) (ci := 4) (v := .int (nI sz)) (C := RX4) (T := TX4) (N := 4) hx hb hts hX4_add_X4 hown hK hP 0 rfl rfl 3 (by decide) (hts _ kX4_add_f21) (fun _ h9 => h9) rfl dX4_add_41 ?_
    refine lv_iconst (v := nI 1) hx hb dX4_add_44 (by decide) ?_
    refine lv_iadd hx hb dX4_add_45 ?_
    refine lv_is (nI_add sz 1) ?_
    refine va_put (D := g.1) (cl := vwCl) (ci := 4) (v := .int (nI (sz + 1))) (ty := .int) (C := RX4) (T := TX4) (N := 4) hx hb hts hX4_add_X4 tyX4 tyX4_ok nmX4 hown hK hP hD hS 0 rfl rfl 3 (by decide) (hts _ kX4_add_f21) (fun _ h9 => h9) rfl (by decide +kernel) (rfl) (rfl) (Nat.le_of_ble_eq_true rfl) dX4_add_46 (fun H locs hP hD hS => ?_)
    have hP : va_P g.1 vwCl [(g_, .inr (4, [.ref q0, .ref q1, .ref q2, .int (nI (sz + 1))])), (q0, .inl (g.2.1, 8, .inl (upd f0 sz i1))), (q1, .inl (g.2.1, 8, .inl (upd f1 sz i2))), (q2, .inl (g.2.1, 8, .inl (upd f2 sz i3)))] H := hP
    have hD : va_D A [(g_, .inr (4, [.ref q0, .ref q1, .ref q2, .int (nI (sz + 1))])), (q0, .inl (g.2.1, 8, .inl (upd f0 sz i1))), (q1, .inl (g.2.1, 8, .inl (upd f1 sz i2))), (q2, .inl (g.2.1, 8, .inl (upd f2 sz i3)))] := hD
    exact hret () H locs 49 ls (trivial) (hP) (hD) hS dX4_add_49
theorem kX4_clear_f21 : (Cond.fieldLink RX4 21 "LastCallersWord$Sightings" "size" "I" : Cond) ∈ wsX4_clear := List.mem_cons_of_mem _ aw_88
theorem hX4_clear_X4 : ∀ w ∈ wsX40, w ∈ wsX4_clear := fun w h => List.mem_cons_of_mem _ (ac_X4 w h)
set_option maxHeartbeats 4000000 in
set_option maxRecDepth 100000 in
theorem c_X4_clear (l : Launch) (g : GG) (g_ : Nat) (q0 : Nat) (q1 : Nat) (q2 : Nat) (sz : Nat) : Met l yX4_clear wsX4_clear ({ frames := 0, cells := 0, slots := 0, locals := 0 } : Room) (wr g [.ref g_] [(g_, .inr (4, [.ref q0, .ref q1, .ref q2, .int (nI sz)]))]) (wQv g [(g_, .inr (4, [.ref q0, .ref q1, .ref q2, .int (nI sz)]))] (fun u : Unit => [(g_, .inr (4, [.ref q0, .ref q1, .ref q2, .int (nI 0)]))]) (fun u => True)) 0 0 (cA [(g_, .inr (4, [.ref q0, .ref q1, .ref q2, .int (nI sz)]))]) := by
  refine wr_startv (cc := cX4_clear) (maxL := 1) (by decide) rfl (Nat.le_of_ble_eq_true rfl) (fun p e s m args below meth c Q A C hP hD hS hret ls hl => ?_)
  obtain ⟨hx, hb, hml, hr, hown, hts, hlk, hKK⟩ := id C
  have hK := hKK.1
  have hown : s.vm.findClass RX4 = some m.cls := hown
  have ctx : CallFix p m c cX4_clear 1 s args wsX4_clear RX4 := ⟨hx, hb, hml, hown, hts⟩
  have hl : lv_has ls 1 [(0, .ref g_)] := hl
  obtain ⟨H, hHe⟩ : ∃ H, H = s.heap := ⟨_, rfl⟩
  obtain ⟨locs, hLe⟩ : ∃ L : List Loc, L = [] := ⟨_, rfl⟩
  have hP : va_P g.1 vwCl [(g_, .inr (4, [.ref q0, .ref q1, .ref q2, .int (nI sz)]))] H := by rw [hHe]; exact hP
  have hS : va_S A s.heap H locs := by rw [hHe, hLe]; exact hS
  suffices hgo : W p l e ({ frames := 0, cells := 0, slots := 0, locals := 0 } : Room) s m args below meth c H locs 0 0 Q (F0 m 0 ls []) by rw [hHe, hLe] at hgo; exact hgo
  clear hHe hLe
  refine lv_aload_n hx hb dX4_clear_0 rfl (lv_at hl 0 rfl) ?_
  refine lv_iconst (v := nI 0) hx hb dX4_clear_1 (by decide) ?_
  refine va_put (D := g.1) (cl := vwCl) (ci := 4) (v := .int (nI 0)) (ty := .int) (C := RX4) (T := TX4) (N := 4) hx hb hts hX4_clear_X4 tyX4 tyX4_ok nmX4 hown hK hP hD hS 0 rfl rfl 3 (by decide) (hts _ kX4_clear_f21) (fun _ h9 => h9) rfl (by decide +kernel) (rfl) (rfl) (Nat.le_of_ble_eq_true rfl) dX4_clear_2 (fun H locs hP hD hS => ?_)
  have hP : va_P g.1 vwCl [(g_, .inr (4, [.ref q0, .ref q1, .ref q2, .int (nI 0)]))] H := hP
  have hD : va_D A [(g_, .inr (4, [.ref q0, .ref q1, .ref q2, .int (nI 0)]))] := hD
  exact hret () H locs 5 ls (trivial) (hP) (hD) hS dX4_clear_5
theorem kX4_lookedAt_f21 : (Cond.fieldLink RX4 21 "LastCallersWord$Sightings" "size" "I" : Cond) ∈ wsX4_lookedAt := List.mem_cons_of_mem _ aw_88
theorem hX4_lookedAt_X4 : ∀ w ∈ wsX40, w ∈ wsX4_lookedAt := fun w h => List.mem_cons_of_mem _ (ac_X4 w h)
theorem kX4_lookedAt_f15 : (Cond.fieldLink RX4 15 "LastCallersWord$Sightings" "doors" "[I" : Cond) ∈ wsX4_lookedAt := List.mem_cons_of_mem _ aw_86
theorem kX4_lookedAt_f9 : (Cond.fieldLink RX4 9 "LastCallersWord$Sightings" "persons" "[I" : Cond) ∈ wsX4_lookedAt := List.mem_cons_of_mem _ aw_85
set_option maxHeartbeats 4000000 in
set_option maxRecDepth 100000 in
theorem c_X4_lookedAt (l : Launch) (g : GG) (g_ : Nat) (q0 : Nat) (q1 : Nat) (q2 : Nat) (f0 : Nat → Int32) (f1 : Nat → Int32) (f2 : Nat → Int32) (sz : Nat) (dv : Int32) (hsz : sz ≤ 8) : Met l yX4_lookedAt wsX4_lookedAt ({ frames := 0, cells := 0, slots := 0, locals := 0 } : Room) (ro g [.ref g_, .int dv] [(g_, .inr (4, [.ref q0, .ref q1, .ref q2, .int (nI sz)])), (q0, .inl (g.2.1, 8, .inl f0)), (q1, .inl (g.2.1, 8, .inl f1)), (q2, .inl (g.2.1, 8, .inl f2))]) (vp_Si (fun rr => rr = lkA f0 f1 dv sz)) 0 0 (fun _ => False) := by
  refine ro_start (cc := cX4_lookedAt) (maxL := 4) (ty := .int) (by decide) rfl (Nat.le_of_ble_eq_true rfl) (fun p e s m args below meth c Q C hP hret ls hl => ?_)
  obtain ⟨hx, hb, hml, hr, hown, hts, hlk, hKK⟩ := id C
  have hK := hKK.1
  have hown : s.vm.findClass RX4 = some m.cls := hown
  have ctx : CallFix p m c cX4_lookedAt 4 s args wsX4_lookedAt RX4 := ⟨hx, hb, hml, hown, hts⟩
  have hl : lv_has ls 4 [(0, .ref g_), (1, .int dv)] := hl
  refine lv_iconst (v := nI 0) hx hb dX4_lookedAt_0 (by decide) ?_
  refine lv_istore_n (lv' := [(2, .int (nI 0)), (0, .ref g_), (1, .int dv)]) hx hb dX4_lookedAt_1 rfl hl (by decide) rfl (fun ls hl => ?_)
  refine lv_iconst (v := nI 0) hx hb dX4_lookedAt_2 (by decide) ?_
  refine lv_istore_n (lv' := [(3, .int (nI 0)), (2, .int (nI 0)), (0, .ref g_), (1, .int dv)]) hx hb dX4_lookedAt_3 rfl hl (by decide) rfl (fun ls hl => ?_)
  have LP4 : ∀ (fu : Nat) (j : Nat) (x2 : Int32), sz - j < fu → (j ≤ sz) → (x2 = lkA f0 f1 dv j) → ∀ (ls : Array Slot), lv_has ls 4 [(3, .int (nI j)), (2, .int x2), (0, .ref g_), (1, .int dv)] → W p l e ({ frames := 0, cells := 0, slots := 0, locals := 0 } : Room) s m args below meth c s.heap [] 0 0 Q (F0 m 4 ls []) := by
    intro fu
    induction fu with
    | zero => intro j x2 hfu; exact absurd hfu (Nat.not_lt_zero _)
    | succ fu ih4 =>
      intro j x2 hfu hj e2 ls hl
      refine lv_iload_n hx hb dX4_lookedAt_4 rfl (lv_at hl 0 rfl) ?_
      refine lv_aload_n hx hb dX4_lookedAt_5 rfl (lv_at hl 2 rfl) ?_
      refine va_get (D := g.1) (cl := vwCl) (ci := 4) (v := .int (nI sz)) (C := RX4) (T := TX4) (N := 4) hx hb hts hX4_lookedAt_X4 hown hK hP 0 rfl rfl 3 (by decide) (hts _ kX4_lookedAt_f21) (fun _ h9 => h9) rfl dX4_lookedAt_6 ?_
      refine lv_icmp_ge (tgt := 39) hx hb dX4_lookedAt_9 (by decide) (fun c_1 => ?_) (fun c_1 => ?_)
      · replace c_1 : sz ≤ j := (nI_leI (a := sz) (b := j) (by omega) (by omega)).mp c_1
        refine lv_iload_n hx hb dX4_lookedAt_39 rfl (lv_at hl 1 rfl) ?_
        exact hret x2 40 ls (by rw [e2, show j = sz by omega]) (rfl) dX4_lookedAt_40
      · replace c_1 : ¬ sz ≤ j := fun h => c_1 ((nI_leI (a := sz) (b := j) (by omega) (by omega)).mpr h)
        refine lv_aload_n hx hb dX4_lookedAt_12 rfl (lv_at hl 2 rfl) ?_
        refine va_get (D := g.1) (cl := vwCl) (ci := 4) (v := .ref q1) (C := RX4) (T := TX4) (N := 4) hx hb hts hX4_lookedAt_X4 hown hK hP 0 rfl rfl 1 (by decide) (hts _ kX4_lookedAt_f15) (fun _ h9 => h9) rfl dX4_lookedAt_13 ?_
        refine lv_iload_n hx hb dX4_lookedAt_16 rfl (lv_at hl 0 rfl) ?_
        refine ald_i (D := g.1) (cl := vwCl) (f := f1) (i := j) (n := 8) hx hb hK hP 2 0 rfl rfl (by omega) (by decide) dX4_lookedAt_17 ?_
        refine lv_iload_n hx hb dX4_lookedAt_18 rfl (lv_at hl 3 rfl) ?_
        refine lv_icmp_ne (tgt := 33) hx hb dX4_lookedAt_19 (by decide) (fun c_2 => ?_) (fun c_2 => ?_)
        · refine lv_iinc (v := nI (j + 1)) (lv' := [(3, .int (nI (j + 1))), (2, .int x2), (0, .ref g_), (1, .int dv)]) hx hb dX4_lookedAt_33 hl (k := 0) rfl (iincK j 1) (by decide) rfl (fun ls hl => ?_)
          refine lv_goto (tgt := 4) hx hb dX4_lookedAt_36 (by decide) ?_
          exact ih4 (j + 1) x2 (by omega) (by omega) (by rw [lkA, ← e2]; simp [c_1, c_2]) ls (lv_sub hl [0, 1, 2, 3] rfl)
        · refine lv_iload_n hx hb dX4_lookedAt_22 rfl (lv_at hl 1 rfl) ?_
          refine lv_iconst (v := nI 1) hx hb dX4_lookedAt_23 (by decide) ?_
          refine lv_aload_n hx hb dX4_lookedAt_24 rfl (lv_at hl 2 rfl) ?_
          refine va_get (D := g.1) (cl := vwCl) (ci := 4) (v := .ref q0) (C := RX4) (T := TX4) (N := 4) hx hb hts hX4_lookedAt_X4 hown hK hP 0 rfl rfl 0 (by decide) (hts _ kX4_lookedAt_f9) (fun _ h9 => h9) rfl dX4_lookedAt_25 ?_
          refine lv_iload_n hx hb dX4_lookedAt_28 rfl (lv_at hl 0 rfl) ?_
          refine ald_i (D := g.1) (cl := vwCl) (f := f0) (i := j) (n := 8) hx hb hK hP 1 0 rfl rfl (by omega) (by decide) dX4_lookedAt_29 ?_
          refine lv_ishl hx hb dX4_lookedAt_30 ?_
          refine lv_ior hx hb dX4_lookedAt_31 ?_
          refine lv_istore_n (lv' := [(2, .int (x2 ||| ((nI 1) <<< ((f0 j) &&& 31)))), (3, .int (nI j)), (0, .ref g_), (1, .int dv)]) hx hb dX4_lookedAt_32 rfl hl (by decide) rfl (fun ls hl => ?_)
          refine lv_iinc (v := nI (j + 1)) (lv' := [(3, .int (nI (j + 1))), (2, .int (x2 ||| ((nI 1) <<< ((f0 j) &&& 31)))), (0, .ref g_), (1, .int dv)]) hx hb dX4_lookedAt_33 hl (k := 1) rfl (iincK j 1) (by decide) rfl (fun ls hl => ?_)
          refine lv_goto (tgt := 4) hx hb dX4_lookedAt_36 (by decide) ?_
          exact ih4 (j + 1) (x2 ||| ((nI 1) <<< ((f0 j) &&& 31))) (by omega) (by omega) (by rw [lkA, ← e2]; simp [c_1, c_2]) ls (lv_sub hl [0, 1, 2, 3] rfl)
  exact LP4 (sz + 1) 0 (nI 0) (by omega) (by omega) (rfl) ls (lv_sub hl [0, 1, 2, 3] rfl)
theorem kX4_cameInAt_f21 : (Cond.fieldLink RX4 21 "LastCallersWord$Sightings" "size" "I" : Cond) ∈ wsX4_cameInAt := List.mem_cons_of_mem _ aw_88
theorem hX4_cameInAt_X4 : ∀ w ∈ wsX40, w ∈ wsX4_cameInAt := fun w h => List.mem_cons_of_mem _ (ac_X4 w h)
theorem kX4_cameInAt_f15 : (Cond.fieldLink RX4 15 "LastCallersWord$Sightings" "doors" "[I" : Cond) ∈ wsX4_cameInAt := List.mem_cons_of_mem _ aw_86
theorem kX4_cameInAt_f18 : (Cond.fieldLink RX4 18 "LastCallersWord$Sightings" "coulds" "[I" : Cond) ∈ wsX4_cameInAt := List.mem_cons_of_mem _ aw_87
theorem kX4_cameInAt_f9 : (Cond.fieldLink RX4 9 "LastCallersWord$Sightings" "persons" "[I" : Cond) ∈ wsX4_cameInAt := List.mem_cons_of_mem _ aw_85
set_option maxHeartbeats 4000000 in
set_option maxRecDepth 100000 in
theorem c_X4_cameInAt (l : Launch) (g : GG) (g_ : Nat) (q0 : Nat) (q1 : Nat) (q2 : Nat) (f0 : Nat → Int32) (f1 : Nat → Int32) (f2 : Nat → Int32) (sz : Nat) (dv : Int32) (hsz : sz ≤ 8) : Met l yX4_cameInAt wsX4_cameInAt ({ frames := 0, cells := 0, slots := 0, locals := 0 } : Room) (ro g [.ref g_, .int dv] [(g_, .inr (4, [.ref q0, .ref q1, .ref q2, .int (nI sz)])), (q0, .inl (g.2.1, 8, .inl f0)), (q1, .inl (g.2.1, 8, .inl f1)), (q2, .inl (g.2.1, 8, .inl f2))]) (vp_Si (fun rr => rr = ciA f0 f1 f2 dv sz)) 0 0 (fun _ => False) := by
  refine ro_start (cc := cX4_cameInAt) (maxL := 4) (ty := .int) (by decide) rfl (Nat.le_of_ble_eq_true rfl) (fun p e s m args below meth c Q C hP hret ls hl => ?_)
  obtain ⟨hx, hb, hml, hr, hown, hts, hlk, hKK⟩ := id C
  have hK := hKK.1
  have hown : s.vm.findClass RX4 = some m.cls := hown
  have ctx : CallFix p m c cX4_cameInAt 4 s args wsX4_cameInAt RX4 := ⟨hx, hb, hml, hown, hts⟩
  have hl : lv_has ls 4 [(0, .ref g_), (1, .int dv)] := hl
  refine lv_iconst (v := nI 0) hx hb dX4_cameInAt_0 (by decide) ?_
  refine lv_istore_n (lv' := [(2, .int (nI 0)), (0, .ref g_), (1, .int dv)]) hx hb dX4_cameInAt_1 rfl hl (by decide) rfl (fun ls hl => ?_)
  refine lv_iconst (v := nI 0) hx hb dX4_cameInAt_2 (by decide) ?_
  refine lv_istore_n (lv' := [(3, .int (nI 0)), (2, .int (nI 0)), (0, .ref g_), (1, .int dv)]) hx hb dX4_cameInAt_3 rfl hl (by decide) rfl (fun ls hl => ?_)
  have LP4 : ∀ (fu : Nat) (j : Nat) (x2 : Int32), sz - j < fu → (j ≤ sz) → (x2 = ciA f0 f1 f2 dv j) → ∀ (ls : Array Slot), lv_has ls 4 [(3, .int (nI j)), (2, .int x2), (0, .ref g_), (1, .int dv)] → W p l e ({ frames := 0, cells := 0, slots := 0, locals := 0 } : Room) s m args below meth c s.heap [] 0 0 Q (F0 m 4 ls []) := by
    intro fu
    induction fu with
    | zero => intro j x2 hfu; exact absurd hfu (Nat.not_lt_zero _)
    | succ fu ih4 =>
      intro j x2 hfu hj e2 ls hl
      refine lv_iload_n hx hb dX4_cameInAt_4 rfl (lv_at hl 0 rfl) ?_
      refine lv_aload_n hx hb dX4_cameInAt_5 rfl (lv_at hl 2 rfl) ?_
      refine va_get (D := g.1) (cl := vwCl) (ci := 4) (v := .int (nI sz)) (C := RX4) (T := TX4) (N := 4) hx hb hts hX4_cameInAt_X4 hown hK hP 0 rfl rfl 3 (by decide) (hts _ kX4_cameInAt_f21) (fun _ h9 => h9) rfl dX4_cameInAt_6 ?_
      refine lv_icmp_ge (tgt := 49) hx hb dX4_cameInAt_9 (by decide) (fun c_1 => ?_) (fun c_1 => ?_)
      · replace c_1 : sz ≤ j := (nI_leI (a := sz) (b := j) (by omega) (by omega)).mp c_1
        refine lv_iload_n hx hb dX4_cameInAt_49 rfl (lv_at hl 1 rfl) ?_
        exact hret x2 50 ls (by rw [e2, show j = sz by omega]) (rfl) dX4_cameInAt_50
      · replace c_1 : ¬ sz ≤ j := fun h => c_1 ((nI_leI (a := sz) (b := j) (by omega) (by omega)).mpr h)
        refine lv_aload_n hx hb dX4_cameInAt_12 rfl (lv_at hl 2 rfl) ?_
        refine va_get (D := g.1) (cl := vwCl) (ci := 4) (v := .ref q1) (C := RX4) (T := TX4) (N := 4) hx hb hts hX4_cameInAt_X4 hown hK hP 0 rfl rfl 1 (by decide) (hts _ kX4_cameInAt_f15) (fun _ h9 => h9) rfl dX4_cameInAt_13 ?_
        refine lv_iload_n hx hb dX4_cameInAt_16 rfl (lv_at hl 0 rfl) ?_
        refine ald_i (D := g.1) (cl := vwCl) (f := f1) (i := j) (n := 8) hx hb hK hP 2 0 rfl rfl (by omega) (by decide) dX4_cameInAt_17 ?_
        refine lv_iload_n hx hb dX4_cameInAt_18 rfl (lv_at hl 3 rfl) ?_
        refine lv_icmp_ne (tgt := 43) hx hb dX4_cameInAt_19 (by decide) (fun c_2 => ?_) (fun c_2 => ?_)
        · refine lv_iinc (v := nI (j + 1)) (lv' := [(3, .int (nI (j + 1))), (2, .int x2), (0, .ref g_), (1, .int dv)]) hx hb dX4_cameInAt_43 hl (k := 0) rfl (iincK j 1) (by decide) rfl (fun ls hl => ?_)
          refine lv_goto (tgt := 4) hx hb dX4_cameInAt_46 (by decide) ?_
          exact ih4 (j + 1) x2 (by omega) (by omega) (by rw [ciA, ← e2]; simp [c_1, c_2]) ls (lv_sub hl [0, 1, 2, 3] rfl)
        · refine lv_aload_n hx hb dX4_cameInAt_22 rfl (lv_at hl 2 rfl) ?_
          refine va_get (D := g.1) (cl := vwCl) (ci := 4) (v := .ref q2) (C := RX4) (T := TX4) (N := 4) hx hb hts hX4_cameInAt_X4 hown hK hP 0 rfl rfl 2 (by decide) (hts _ kX4_cameInAt_f18) (fun _ h9 => h9) rfl dX4_cameInAt_23 ?_
          refine lv_iload_n hx hb dX4_cameInAt_26 rfl (lv_at hl 0 rfl) ?_
          refine ald_i (D := g.1) (cl := vwCl) (f := f2) (i := j) (n := 8) hx hb hK hP 3 0 rfl rfl (by omega) (by decide) dX4_cameInAt_27 ?_
          refine lv_iconst (v := nI 1) hx hb dX4_cameInAt_28 (by decide) ?_
          refine lv_icmp_ne (tgt := 43) hx hb dX4_cameInAt_29 (by decide) (fun c_3 => ?_) (fun c_3 => ?_)
          · refine lv_iinc (v := nI (j + 1)) (lv' := [(3, .int (nI (j + 1))), (2, .int x2), (0, .ref g_), (1, .int dv)]) hx hb dX4_cameInAt_43 hl (k := 0) rfl (iincK j 1) (by decide) rfl (fun ls hl => ?_)
            refine lv_goto (tgt := 4) hx hb dX4_cameInAt_46 (by decide) ?_
            exact ih4 (j + 1) x2 (by omega) (by omega) (by rw [ciA, ← e2]; simp [c_1, c_2, c_3]) ls (lv_sub hl [0, 1, 2, 3] rfl)
          · refine lv_iload_n hx hb dX4_cameInAt_32 rfl (lv_at hl 1 rfl) ?_
            refine lv_iconst (v := nI 1) hx hb dX4_cameInAt_33 (by decide) ?_
            refine lv_aload_n hx hb dX4_cameInAt_34 rfl (lv_at hl 2 rfl) ?_
            refine va_get (D := g.1) (cl := vwCl) (ci := 4) (v := .ref q0) (C := RX4) (T := TX4) (N := 4) hx hb hts hX4_cameInAt_X4 hown hK hP 0 rfl rfl 0 (by decide) (hts _ kX4_cameInAt_f9) (fun _ h9 => h9) rfl dX4_cameInAt_35 ?_
            refine lv_iload_n hx hb dX4_cameInAt_38 rfl (lv_at hl 0 rfl) ?_
            refine ald_i (D := g.1) (cl := vwCl) (f := f0) (i := j) (n := 8) hx hb hK hP 1 0 rfl rfl (by omega) (by decide) dX4_cameInAt_39 ?_
            refine lv_ishl hx hb dX4_cameInAt_40 ?_
            refine lv_ior hx hb dX4_cameInAt_41 ?_
            refine lv_istore_n (lv' := [(2, .int (x2 ||| ((nI 1) <<< ((f0 j) &&& 31)))), (3, .int (nI j)), (0, .ref g_), (1, .int dv)]) hx hb dX4_cameInAt_42 rfl hl (by decide) rfl (fun ls hl => ?_)
            refine lv_iinc (v := nI (j + 1)) (lv' := [(3, .int (nI (j + 1))), (2, .int (x2 ||| ((nI 1) <<< ((f0 j) &&& 31)))), (0, .ref g_), (1, .int dv)]) hx hb dX4_cameInAt_43 hl (k := 1) rfl (iincK j 1) (by decide) rfl (fun ls hl => ?_)
            refine lv_goto (tgt := 4) hx hb dX4_cameInAt_46 (by decide) ?_
            exact ih4 (j + 1) (x2 ||| ((nI 1) <<< ((f0 j) &&& 31))) (by omega) (by omega) (by rw [ciA, ← e2]; simp [c_1, c_2, c_3]) ls (lv_sub hl [0, 1, 2, 3] rfl)
  exact LP4 (sz + 1) 0 (nI 0) (by omega) (by omega) (rfl) ls (lv_sub hl [0, 1, 2, 3] rfl)
