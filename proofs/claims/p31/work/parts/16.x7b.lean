
def soB (hs f : Nat → Int32) : Nat → Int32
  | 0 => nI 0
  | d + 1 => if hasB (f d) (hs d) = true then soB hs f d else soB hs f d ||| (nI 1 <<< (nI d &&& 31))
def brB (wr : Nat → Int32) (B : Nat) (d : Nat) : Nat → Int32
  | 0 => nI 0
  | i + 1 => if wr (d * 8 + i) < nI B then brB wr B d i else brB wr B d i ||| (nI 1 <<< (nI i &&& 31))
def cwr (kd lk : Nat → Int32) (P : Nat) (hv : Int32) (n : Nat) : Nat → Int32
  | 0 => nI 0
  | c + 1 => if hasB (aDs kd lk P (kbc kd lk P (nI c)) n) hv = true then cwr kd lk P hv n c ||| (nI 1 <<< (nI c &&& 31)) else cwr kd lk P hv n c
def kbv (kd lk : Nat → Int32) (P : Nat) (kn : Int32) (way : Nat) : Nat → Int32 × Nat
  | 0 => (kn, way)
  | t + 1 => (aDay kd lk P (if hasB (kbv kd lk P kn way t).1 (nI (reN (kbv kd lk P kn way t).2 P)) = true then kbc kd lk P (nI (reN (kbv kd lk P kn way t).2 P)) else (kbv kd lk P kn way t).1), quN (kbv kd lk P kn way t).2 P)
def shN (kd lk : Nat → Int32) (P : Nat) (kn hv : Int32) (n : Nat) : Nat → Nat
  | 0 => 0
  | w + 1 => if hasB (kbv kd lk P kn w n).1 hv = true then shN kd lk P kn hv n w else shN kd lk P kn hv n w + 1
def frL (lk : Nat → Int32) (i : Nat) : Nat → Int32 × Int32
  | 0 => (-4, -1)
  | j + 1 => if ¬ j = i ∧ ¬ lk (j * 8 + i) ≤ (frL lk i j).2 then (nI j, lk (j * 8 + i)) else frL lk i j
def caL (kd lk : Nat → Int32) (P : Nat) (lo ci : Int32) : Nat → Int32
  | 0 => nI 0
  | i + 1 => if kbc kd lk P (nI i) &&& lo = ci then caL kd lk P lo ci i ||| (nI 1 <<< (nI i &&& 31)) else caL kd lk P lo ci i
def guL (pt : Nat → Int32) (W : Nat) (kv : Int32) : Nat → Int32
  | 0 => -4
  | f + 1 => if nI (rkN pt (W - (f + 1)) W) = kv then nI (W - (f + 1)) else guL pt W kv f
def whL (kd lk : Nat → Int32) (P : Nat) (iv : Int32) : Nat → Nat → Int32 → Int32
  | 0, _, _ => -4
  | f + 1, n, kn => if hasB kn iv = true then nI n else whL kd lk P iv f (n + 1) (aDay kd lk P kn)
def mnA (pt : Nat → Int32) (W : Nat) : Nat → Int32
  | 0 => nI 0
  | w + 1 => mnA pt W w + pt w * nI (rkN pt w W + 1)
def itA (pt : Nat → Int32) (W B : Nat) : Nat → Int32
  | 0 => nI 0
  | w + 1 => if nI B ≤ nI (rkN pt w W) then itA pt W B w else itA pt W B w + pt w
theorem isPb_0 : isPb 0 = true := by decide
/-- the answers of the reading calls: plan pa ps, state x dy, sightings ga gz -/
def xPerson (pa : Nat → Nat → Int32) (ps : Nat → Nat) (x : Nat → Nat → Int32) (iv wv : Int32) : Int32 := if inPb (ps 0) iv = true ∧ isPb wv = true then (if wv = 0 then pa 0 iv.toNatClampNeg else bcI (lst (pa 0) (x 0) (ps 0) iv)) else -1
def xLikes (ps : Nat → Nat) (x : Nat → Nat → Int32) (iv jv : Int32) : Int32 := if inPb (ps 0) iv = true ∧ inPb (ps 0) jv = true then x 0 (iv.toNatClampNeg * 8 + jv.toNatClampNeg) else -1
def xDoor (pa : Nat → Nat → Int32) (ps : Nat → Nat) (x : Nat → Nat → Int32) (dv wv : Int32) : Int32 := if inPb (ps 2) dv = true then (if wv = nI 0 then pa 2 dv.toNatClampNeg else if wv = nI 1 then x 1 dv.toNatClampNeg else if wv = nI 2 then x 2 dv.toNatClampNeg else if wv = nI 3 then brB (x 3) (ps 4) dv.toNatClampNeg (ps 0) else -1) else -1
def xKnowsBy (pa : Nat → Nat → Int32) (ps : Nat → Nat) (x : Nat → Nat → Int32) (dv nv : Int32) : Int32 := if inPb (ps 2) dv = true ∧ ¬ nv < 0 ∧ nv ≤ nI 20 then aDs (pa 0) (x 0) (ps 0) (x 2 dv.toNatClampNeg) nv.toNatClampNeg else -1
def xWhen (pa : Nat → Nat → Int32) (ps : Nat → Nat) (x : Nat → Nat → Int32) (iv dv : Int32) : Int32 := if inPb (ps 0) iv = true ∧ inPb (ps 2) dv = true then whL (pa 0) (x 0) (ps 0) iv 21 0 (x 2 dv.toNatClampNeg) else -1
def xLets (pa : Nat → Nat → Int32) (ps : Nat → Nat) (x : Nat → Nat → Int32) (dv nv : Int32) : Int32 := if inPb (ps 2) dv = true ∧ ¬ nv < 0 ∧ nv ≤ nI 5 then cwr (pa 0) (x 0) (ps 0) (pa 2 dv.toNatClampNeg) nv.toNatClampNeg (ps 0) else -1
def xKeeps (pa : Nat → Nat → Int32) (ps : Nat → Nat) (x : Nat → Nat → Int32) (iv dv nv : Int32) : Int32 := if inPb (ps 0) iv = true ∧ inPb (ps 2) dv = true ∧ ¬ nv < 0 ∧ nv ≤ nI 5 then allB (ps 0) &&& (cwr (pa 0) (x 0) (ps 0) iv nv.toNatClampNeg (ps 0) ^^^ (-1)) else -1
def xAllIn (pa : Nat → Nat → Int32) (ps : Nat → Nat) (x : Nat → Nat → Int32) (dv : Int32) : Int32 := if dv = -1 then bcI (soB (pa 2) (x 2) (ps 2)) else if inPb (ps 2) dv = true then (if hasB (soB (pa 2) (x 2) (ps 2)) dv = true then lwI (cwr (pa 0) (x 0) (ps 0) (pa 2 dv.toNatClampNeg) 0 (ps 0)) else -4) else -1
def xFriend (ps : Nat → Nat) (x : Nat → Nat → Int32) (iv wv : Int32) : Int32 := if inPb (ps 0) iv = true ∧ isPb wv = true then (if wv = 0 then (frL (x 0) iv.toNatClampNeg (ps 0)).1 else (frL (x 0) iv.toNatClampNeg (ps 0)).2) else -1
def xCalled (pa : Nat → Nat → Int32) (ps : Nat → Nat) (x ga : Nat → Nat → Int32) (gz : Nat) (dv : Int32) : Int32 := if inPb (ps 2) dv = true then caL (pa 0) (x 0) (ps 0) (lkA (ga 0) (ga 1) dv gz) (ciA (ga 0) (ga 1) (ga 2) dv gz) (ps 0) else -1
def xGuess (pa : Nat → Nat → Int32) (ps : Nat → Nat) (kv : Int32) : Int32 := if 0 ≤ kv then guL (pa 4) (ps 3) kv (ps 3) else -1
def xMean (pa : Nat → Nat → Int32) (ps : Nat → Nat) (pv : Int32) : Int32 := if isPb pv = true then (if ps 3 = 0 then -4 else ltI (mnA (pa 4) (ps 3) (ps 3)) (sumP (pa 4) (ps 3)) pv) else -1
def xInTime (pa : Nat → Nat → Int32) (ps : Nat → Nat) (pv : Int32) : Int32 := if isPb pv = true then (if ps 3 = 0 then -4 else ltI (itA (pa 4) (ps 3) (ps 4) (ps 3)) (sumP (pa 4) (ps 3)) pv) else -1
def xLikely (pa : Nat → Nat → Int32) (ps : Nat → Nat) (x : Nat → Nat → Int32) (dv nv pv : Int32) : Int32 := if inPb (ps 2) dv = true ∧ ¬ nv < 0 ∧ ¬ nI 3 < nv ∧ isPb pv = true then ltI (nI (shN (pa 0) (x 0) (ps 0) (x 2 dv.toNatClampNeg) (pa 2 dv.toNatClampNeg) nv.toNatClampNeg (ps 0 ^ nv.toNatClampNeg))) (nI (ps 0 ^ nv.toNatClampNeg)) pv else -1
def xCount (ps : Nat → Nat) (dy gz uk kk len : Nat) (wv : Int32) : Int32 := if wv = nI 0 then nI (ps 0) else if wv = nI 1 then nI (ps 2) else if wv = nI 2 then nI (ps 3) else if wv = nI 3 then nI dy else if wv = nI 4 then nI (ps 4) else if wv = nI 5 then nI gz else if wv = nI 6 then nI uk else if wv = nI 7 then nI kk else if wv = nI 8 then nI len else -1
theorem kbv_le (kd lk : Nat → Int32) (P : Nat) (kn : Int32) (way : Nat) : ∀ t, (kbv kd lk P kn way t).2 ≤ way
  | 0 => Nat.le_refl _
  | t + 1 => Nat.le_trans (quN_le _ _) (kbv_le kd lk P kn way t)
theorem shN_le (kd lk : Nat → Int32) (P : Nat) (kn hv : Int32) (n : Nat) : ∀ w, shN kd lk P kn hv n w ≤ w
  | 0 => Nat.le_refl _
  | w + 1 => by have := shN_le kd lk P kn hv n w; rw [shN]; split <;> omega
theorem pow_le {P n : Nat} (hP : P ≤ 8) (hn : n ≤ 3) : P ^ n ≤ 512 := Nat.le_trans (Nat.pow_le_pow_left hP n) (Nat.le_trans (Nat.pow_le_pow_right (by decide) hn) (by decide))
theorem kX7_isPerson_f32 : (Cond.fieldLink RX7 32 "LastCallersWord" "plan" "LLastCallersWord$Plan;" : Cond) ∈ wsX7_isPerson := List.mem_cons_of_mem _ aw_21
theorem hX7_isPerson_X7 : ∀ w ∈ wsX70, w ∈ wsX7_isPerson := fun w h => List.mem_cons_of_mem _ (ac_X7 w h)
theorem kX7_isPerson_f198 : (Cond.fieldLink RX7 198 "LastCallersWord$Plan" "persons" "I" : Cond) ∈ wsX7_isPerson := List.mem_cons_of_mem _ aw_435
theorem hX7_isPerson_X1 : ∀ w ∈ wsX10, w ∈ wsX7_isPerson := fun w h => List.mem_cons_of_mem _ (ac_X1 w h)
set_option maxHeartbeats 4000000 in
set_option maxRecDepth 100000 in
theorem c_X7_isPerson (l : Launch) (g : GG) (th : Nat) (le : Nat → Nat) (dr : Nat → Nat) (rd : Nat) (pn : Nat → Nat) (sa : Nat → Nat) (tk : Nat) (sg : Nat → Nat) (us : Nat → Nat) (ks : Nat → Nat) (sk : Nat) (len : Nat) (pa : Nat → Nat → Int32) (ps : Nat → Nat) (x : Nat → Nat → Int32) (dy : Nat) (ga : Nat → Nat → Int32) (gz : Nat) (uk : Nat) (kk : Nat) (iv : Int32) (hP8 : ps 0 ≤ 8) (hD5 : ps 2 ≤ 5) (hW6 : ps 3 ≤ 6) (hgz : gz ≤ 8) : Met l yX7_isPerson wsX7_isPerson ({ frames := 0, cells := 0, slots := 0, locals := 0 } : Room) (ro g [.ref th, .int iv] [(th, .inr (7, [.ref (le 0), .ref (dr 0), .ref rd, .ref (pn 0), .ref (sa 0), .ref tk, .ref (sg 0), .ref (us 0), .ref (ks 0), .ref sk])), (le 0, .inr (0, [.ref (le 1), .int (nI len)])), (pn 0, .inr (1, [.ref (pn 1), .ref (pn 2), .ref (pn 3), .ref (pn 4), .ref (pn 5), .int (nI (ps 0)), .int (nI (ps 1)), .int (nI (ps 2)), .int (nI (ps 3)), .int (nI (ps 4))])), (pn 1, .inl (g.2.1, 8, .inl (pa 0))), (pn 2, .inl (g.2.1, 64, .inl (pa 1))), (pn 3, .inl (g.2.1, 5, .inl (pa 2))), (pn 4, .inl (g.2.1, 5, .inl (pa 3))), (pn 5, .inl (g.2.1, 6, .inl (pa 4))), (sa 0, .inr (5, [.ref (sa 1), .ref (sa 2), .ref (sa 3), .ref (sa 4), .int (nI dy)])), (sa 1, .inl (g.2.1, 64, .inl (x 0))), (sa 2, .inl (g.2.1, 5, .inl (x 1))), (sa 3, .inl (g.2.1, 5, .inl (x 2))), (sa 4, .inl (g.2.1, 40, .inl (x 3))), (tk, .inr (6, [.ref (pn 0), .ref (sa 0)])), (sg 0, .inr (4, [.ref (sg 1), .ref (sg 2), .ref (sg 3), .int (nI gz)])), (sg 1, .inl (g.2.1, 8, .inl (ga 0))), (sg 2, .inl (g.2.1, 8, .inl (ga 1))), (sg 3, .inl (g.2.1, 8, .inl (ga 2))), (us 0, .inr (3, [.ref (us 1), .int (nI uk)])), (ks 0, .inr (3, [.ref (ks 1), .int (nI kk)]))]) (vp_Si (fun rr => rr = bI (inPb (ps 0) iv))) 0 0 (fun _ => False) := by
  refine ro_start (cc := cX7_isPerson) (maxL := 2) (ty := .boolean) (by decide) rfl (Nat.le_of_ble_eq_true rfl) (fun p e s m args below meth c Q C hP hret ls hl => ?_)
  obtain ⟨hx, hb, hml, hr, hown, hts, hlk, hKK⟩ := id C
  have hK := hKK.1
  have hown : s.vm.findClass RX7 = some m.cls := hown
  have ctx : CallFix p m c cX7_isPerson 2 s args wsX7_isPerson RX7 := ⟨hx, hb, hml, hown, hts⟩
  have hl : lv_has ls 2 [(0, .ref th), (1, .int iv)] := hl
  refine lv_iload_n hx hb dX7_isPerson_0 rfl (lv_at hl 1 rfl) ?_
  refine lv_if_lt (tgt := 19) hx hb dX7_isPerson_1 (by decide) (fun c_1 => ?_) (fun c_1 => ?_)
  · refine lv_iconst (v := nI 0) hx hb dX7_isPerson_19 (by decide) ?_
    exact hret (nI 0) 20 ls (by simp [inPb, bI, c_1]) (rfl) dX7_isPerson_20
  · refine lv_iload_n hx hb dX7_isPerson_4 rfl (lv_at hl 1 rfl) ?_
    refine lv_aload_n hx hb dX7_isPerson_5 rfl (lv_at hl 0 rfl) ?_
    refine va_get (D := g.1) (cl := vwCl) (ci := 7) (v := .ref (pn 0)) (C := RX7) (T := TX7) (N := 10) hx hb hts hX7_isPerson_X7 hown hK hP 0 rfl rfl 3 (by decide) (hts _ kX7_isPerson_f32) (fun _ h9 => h9) rfl dX7_isPerson_6 ?_
    refine va_get (D := g.1) (cl := vwCl) (ci := 1) (v := .int (nI (ps 0))) (C := RX1) (T := TX1) (N := 10) hx hb hts hX7_isPerson_X1 hown hK hP 2 rfl rfl 5 (by decide) (hts _ kX7_isPerson_f198) (fun _ h9 => h9) rfl dX7_isPerson_9 ?_
    refine lv_icmp_ge (tgt := 19) hx hb dX7_isPerson_12 (by decide) (fun c_2 => ?_) (fun c_2 => ?_)
    · refine lv_iconst (v := nI 0) hx hb dX7_isPerson_19 (by decide) ?_
      exact hret (nI 0) 20 ls (by simp [inPb, bI, c_1, c_2]) (rfl) dX7_isPerson_20
    · refine lv_iconst (v := nI 1) hx hb dX7_isPerson_15 (by decide) ?_
      refine lv_goto (tgt := 20) hx hb dX7_isPerson_16 (by decide) ?_
      exact hret (nI 1) 20 ls (by simp [inPb, bI, c_1, c_2]) (rfl) dX7_isPerson_20
theorem kX7_isDoor_f32 : (Cond.fieldLink RX7 32 "LastCallersWord" "plan" "LLastCallersWord$Plan;" : Cond) ∈ wsX7_isDoor := List.mem_cons_of_mem _ aw_21
theorem hX7_isDoor_X7 : ∀ w ∈ wsX70, w ∈ wsX7_isDoor := fun w h => List.mem_cons_of_mem _ (ac_X7 w h)
theorem kX7_isDoor_f106 : (Cond.fieldLink RX7 106 "LastCallersWord$Plan" "doors" "I" : Cond) ∈ wsX7_isDoor := List.mem_cons_of_mem _ aw_222
theorem hX7_isDoor_X1 : ∀ w ∈ wsX10, w ∈ wsX7_isDoor := fun w h => List.mem_cons_of_mem _ (ac_X1 w h)
set_option maxHeartbeats 4000000 in
set_option maxRecDepth 100000 in
theorem c_X7_isDoor (l : Launch) (g : GG) (th : Nat) (le : Nat → Nat) (dr : Nat → Nat) (rd : Nat) (pn : Nat → Nat) (sa : Nat → Nat) (tk : Nat) (sg : Nat → Nat) (us : Nat → Nat) (ks : Nat → Nat) (sk : Nat) (len : Nat) (pa : Nat → Nat → Int32) (ps : Nat → Nat) (x : Nat → Nat → Int32) (dy : Nat) (ga : Nat → Nat → Int32) (gz : Nat) (uk : Nat) (kk : Nat) (dv : Int32) (hP8 : ps 0 ≤ 8) (hD5 : ps 2 ≤ 5) (hW6 : ps 3 ≤ 6) (hgz : gz ≤ 8) : Met l yX7_isDoor wsX7_isDoor ({ frames := 0, cells := 0, slots := 0, locals := 0 } : Room) (ro g [.ref th, .int dv] [(th, .inr (7, [.ref (le 0), .ref (dr 0), .ref rd, .ref (pn 0), .ref (sa 0), .ref tk, .ref (sg 0), .ref (us 0), .ref (ks 0), .ref sk])), (le 0, .inr (0, [.ref (le 1), .int (nI len)])), (pn 0, .inr (1, [.ref (pn 1), .ref (pn 2), .ref (pn 3), .ref (pn 4), .ref (pn 5), .int (nI (ps 0)), .int (nI (ps 1)), .int (nI (ps 2)), .int (nI (ps 3)), .int (nI (ps 4))])), (pn 1, .inl (g.2.1, 8, .inl (pa 0))), (pn 2, .inl (g.2.1, 64, .inl (pa 1))), (pn 3, .inl (g.2.1, 5, .inl (pa 2))), (pn 4, .inl (g.2.1, 5, .inl (pa 3))), (pn 5, .inl (g.2.1, 6, .inl (pa 4))), (sa 0, .inr (5, [.ref (sa 1), .ref (sa 2), .ref (sa 3), .ref (sa 4), .int (nI dy)])), (sa 1, .inl (g.2.1, 64, .inl (x 0))), (sa 2, .inl (g.2.1, 5, .inl (x 1))), (sa 3, .inl (g.2.1, 5, .inl (x 2))), (sa 4, .inl (g.2.1, 40, .inl (x 3))), (tk, .inr (6, [.ref (pn 0), .ref (sa 0)])), (sg 0, .inr (4, [.ref (sg 1), .ref (sg 2), .ref (sg 3), .int (nI gz)])), (sg 1, .inl (g.2.1, 8, .inl (ga 0))), (sg 2, .inl (g.2.1, 8, .inl (ga 1))), (sg 3, .inl (g.2.1, 8, .inl (ga 2))), (us 0, .inr (3, [.ref (us 1), .int (nI uk)])), (ks 0, .inr (3, [.ref (ks 1), .int (nI kk)]))]) (vp_Si (fun rr => rr = bI (inPb (ps 2) dv))) 0 0 (fun _ => False) := by
  refine ro_start (cc := cX7_isDoor) (maxL := 2) (ty := .boolean) (by decide) rfl (Nat.le_of_ble_eq_true rfl) (fun p e s m args below meth c Q C hP hret ls hl => ?_)
  obtain ⟨hx, hb, hml, hr, hown, hts, hlk, hKK⟩ := id C
  have hK := hKK.1
  have hown : s.vm.findClass RX7 = some m.cls := hown
  have ctx : CallFix p m c cX7_isDoor 2 s args wsX7_isDoor RX7 := ⟨hx, hb, hml, hown, hts⟩
  have hl : lv_has ls 2 [(0, .ref th), (1, .int dv)] := hl
  refine lv_iload_n hx hb dX7_isDoor_0 rfl (lv_at hl 1 rfl) ?_
  refine lv_if_lt (tgt := 19) hx hb dX7_isDoor_1 (by decide) (fun c_1 => ?_) (fun c_1 => ?_)
  · refine lv_iconst (v := nI 0) hx hb dX7_isDoor_19 (by decide) ?_
    exact hret (nI 0) 20 ls (by simp [inPb, bI, c_1]) (rfl) dX7_isDoor_20
  · refine lv_iload_n hx hb dX7_isDoor_4 rfl (lv_at hl 1 rfl) ?_
    refine lv_aload_n hx hb dX7_isDoor_5 rfl (lv_at hl 0 rfl) ?_
    refine va_get (D := g.1) (cl := vwCl) (ci := 7) (v := .ref (pn 0)) (C := RX7) (T := TX7) (N := 10) hx hb hts hX7_isDoor_X7 hown hK hP 0 rfl rfl 3 (by decide) (hts _ kX7_isDoor_f32) (fun _ h9 => h9) rfl dX7_isDoor_6 ?_
    refine va_get (D := g.1) (cl := vwCl) (ci := 1) (v := .int (nI (ps 2))) (C := RX1) (T := TX1) (N := 10) hx hb hts hX7_isDoor_X1 hown hK hP 2 rfl rfl 7 (by decide) (hts _ kX7_isDoor_f106) (fun _ h9 => h9) rfl dX7_isDoor_9 ?_
    refine lv_icmp_ge (tgt := 19) hx hb dX7_isDoor_12 (by decide) (fun c_2 => ?_) (fun c_2 => ?_)
    · refine lv_iconst (v := nI 0) hx hb dX7_isDoor_19 (by decide) ?_
      exact hret (nI 0) 20 ls (by simp [inPb, bI, c_1, c_2]) (rfl) dX7_isDoor_20
    · refine lv_iconst (v := nI 1) hx hb dX7_isDoor_15 (by decide) ?_
      refine lv_goto (tgt := 20) hx hb dX7_isDoor_16 (by decide) ?_
      exact hret (nI 1) 20 ls (by simp [inPb, bI, c_1, c_2]) (rfl) dX7_isDoor_20
theorem kX7_isBarred_f38 : (Cond.fieldLink RX7 38 "LastCallersWord" "state" "LLastCallersWord$State;" : Cond) ∈ wsX7_isBarred := List.mem_cons_of_mem _ aw_25
theorem hX7_isBarred_X7 : ∀ w ∈ wsX70, w ∈ wsX7_isBarred := fun w h => List.mem_cons_of_mem _ (ac_X7 w h)
theorem kX7_isBarred_f164 : (Cond.fieldLink RX7 164 "LastCallersWord$State" "wrongs" "[I" : Cond) ∈ wsX7_isBarred := List.mem_cons_of_mem _ aw_486
theorem hX7_isBarred_X5 : ∀ w ∈ wsX50, w ∈ wsX7_isBarred := fun w h => List.mem_cons_of_mem _ (ac_X5 w h)
theorem kX7_isBarred_f32 : (Cond.fieldLink RX7 32 "LastCallersWord" "plan" "LLastCallersWord$Plan;" : Cond) ∈ wsX7_isBarred := List.mem_cons_of_mem _ aw_21
theorem kX7_isBarred_f229 : (Cond.fieldLink RX7 229 "LastCallersWord$Plan" "limit" "I" : Cond) ∈ wsX7_isBarred := List.mem_cons_of_mem _ aw_487
theorem hX7_isBarred_X1 : ∀ w ∈ wsX10, w ∈ wsX7_isBarred := fun w h => List.mem_cons_of_mem _ (ac_X1 w h)
set_option maxHeartbeats 4000000 in
set_option maxRecDepth 100000 in
theorem c_X7_isBarred (l : Launch) (g : GG) (th : Nat) (le : Nat → Nat) (dr : Nat → Nat) (rd : Nat) (pn : Nat → Nat) (sa : Nat → Nat) (tk : Nat) (sg : Nat → Nat) (us : Nat → Nat) (ks : Nat → Nat) (sk : Nat) (len : Nat) (pa : Nat → Nat → Int32) (ps : Nat → Nat) (x : Nat → Nat → Int32) (dy : Nat) (ga : Nat → Nat → Int32) (gz : Nat) (uk : Nat) (kk : Nat) (i : Nat) (d : Nat) (hP8 : ps 0 ≤ 8) (hD5 : ps 2 ≤ 5) (hW6 : ps 3 ≤ 6) (hgz : gz ≤ 8) (hi : i < 8) (hd : d < 5) : Met l yX7_isBarred wsX7_isBarred ({ frames := 1, cells := 0, slots := 0, locals := 21 } : Room) (ro g [.ref th, .int (nI i), .int (nI d)] [(th, .inr (7, [.ref (le 0), .ref (dr 0), .ref rd, .ref (pn 0), .ref (sa 0), .ref tk, .ref (sg 0), .ref (us 0), .ref (ks 0), .ref sk])), (le 0, .inr (0, [.ref (le 1), .int (nI len)])), (pn 0, .inr (1, [.ref (pn 1), .ref (pn 2), .ref (pn 3), .ref (pn 4), .ref (pn 5), .int (nI (ps 0)), .int (nI (ps 1)), .int (nI (ps 2)), .int (nI (ps 3)), .int (nI (ps 4))])), (pn 1, .inl (g.2.1, 8, .inl (pa 0))), (pn 2, .inl (g.2.1, 64, .inl (pa 1))), (pn 3, .inl (g.2.1, 5, .inl (pa 2))), (pn 4, .inl (g.2.1, 5, .inl (pa 3))), (pn 5, .inl (g.2.1, 6, .inl (pa 4))), (sa 0, .inr (5, [.ref (sa 1), .ref (sa 2), .ref (sa 3), .ref (sa 4), .int (nI dy)])), (sa 1, .inl (g.2.1, 64, .inl (x 0))), (sa 2, .inl (g.2.1, 5, .inl (x 1))), (sa 3, .inl (g.2.1, 5, .inl (x 2))), (sa 4, .inl (g.2.1, 40, .inl (x 3))), (tk, .inr (6, [.ref (pn 0), .ref (sa 0)])), (sg 0, .inr (4, [.ref (sg 1), .ref (sg 2), .ref (sg 3), .int (nI gz)])), (sg 1, .inl (g.2.1, 8, .inl (ga 0))), (sg 2, .inl (g.2.1, 8, .inl (ga 1))), (sg 3, .inl (g.2.1, 8, .inl (ga 2))), (us 0, .inr (3, [.ref (us 1), .int (nI uk)])), (ks 0, .inr (3, [.ref (ks 1), .int (nI kk)]))]) (vp_Si (fun rr => rr = bI (!decide (x 3 (d * 8 + i) < nI (ps 4))))) 0 0 (fun _ => False) := by
  refine ro_start (cc := cX7_isBarred) (maxL := 3) (ty := .boolean) (by decide) rfl (Nat.le_of_ble_eq_true rfl) (fun p e s m args below meth c Q C hP hret ls hl => ?_)
  obtain ⟨hx, hb, hml, hr, hown, hts, hlk, hKK⟩ := id C
  have hK := hKK.1
  have hown : s.vm.findClass RX7 = some m.cls := hown
  have ctx : CallFix p m c cX7_isBarred 3 s args wsX7_isBarred RX7 := ⟨hx, hb, hml, hown, hts⟩
  have hl : lv_has ls 3 [(0, .ref th), (1, .int (nI i)), (2, .int (nI d))] := hl
  refine lv_aload_n hx hb dX7_isBarred_0 rfl (lv_at hl 0 rfl) ?_
  refine va_get (D := g.1) (cl := vwCl) (ci := 7) (v := .ref (sa 0)) (C := RX7) (T := TX7) (N := 10) hx hb hts hX7_isBarred_X7 hown hK hP 0 rfl rfl 4 (by decide) (hts _ kX7_isBarred_f38) (fun _ h9 => h9) rfl dX7_isBarred_1 ?_
  refine va_get (D := g.1) (cl := vwCl) (ci := 5) (v := .ref (sa 4)) (C := RX5) (T := TX5) (N := 5) hx hb hts hX7_isBarred_X5 hown hK hP 8 rfl rfl 3 (by decide) (hts _ kX7_isBarred_f164) (fun _ h9 => h9) rfl dX7_isBarred_4 ?_
  refine lv_iload_n hx hb dX7_isBarred_7 rfl (lv_at hl 2 rfl) ?_
  refine lv_iload_n hx hb dX7_isBarred_8 rfl (lv_at hl 1 rfl) ?_
  refine ro_callS (As := [.int (nI d), .int (nI i)]) (rest := [.ref (sa 4)]) ctx hKK hP (c_X7_pair l g d i) gX7_isBarred_X7_pair rfl rfl rfl hdX7_pair ⟨Nat.le_of_ble_eq_true rfl, Nat.le_of_ble_eq_true rfl⟩ [] rfl hl.1 rfl rfl (Nat.le_of_ble_eq_true rfl) dX7_isBarred_9 (fun r_1 hr_1 => ?_)
  subst hr_1
  refine ald_i (D := g.1) (cl := vwCl) (f := x 3) (i := d * 8 + i) (n := 40) hx hb hK hP 12 0 rfl rfl (by omega) (by decide) dX7_isBarred_12 ?_
  refine lv_aload_n hx hb dX7_isBarred_13 rfl (lv_at hl 0 rfl) ?_
  refine va_get (D := g.1) (cl := vwCl) (ci := 7) (v := .ref (pn 0)) (C := RX7) (T := TX7) (N := 10) hx hb hts hX7_isBarred_X7 hown hK hP 0 rfl rfl 3 (by decide) (hts _ kX7_isBarred_f32) (fun _ h9 => h9) rfl dX7_isBarred_14 ?_
  refine va_get (D := g.1) (cl := vwCl) (ci := 1) (v := .int (nI (ps 4))) (C := RX1) (T := TX1) (N := 10) hx hb hts hX7_isBarred_X1 hown hK hP 2 rfl rfl 9 (by decide) (hts _ kX7_isBarred_f229) (fun _ h9 => h9) rfl dX7_isBarred_17 ?_
  refine lv_icmp_lt (tgt := 27) hx hb dX7_isBarred_20 (by decide) (fun c_2 => ?_) (fun c_2 => ?_)
  · refine lv_iconst (v := nI 0) hx hb dX7_isBarred_27 (by decide) ?_
    exact hret (nI 0) 28 ls (by simp [bI, c_2]) (rfl) dX7_isBarred_28
  · refine lv_iconst (v := nI 1) hx hb dX7_isBarred_23 (by decide) ?_
    refine lv_goto (tgt := 28) hx hb dX7_isBarred_24 (by decide) ?_
    exact hret (nI 1) 28 ls (by simp [bI, c_2]) (rfl) dX7_isBarred_28
theorem kX7_barredAt_f32 : (Cond.fieldLink RX7 32 "LastCallersWord" "plan" "LLastCallersWord$Plan;" : Cond) ∈ wsX7_barredAt := List.mem_cons_of_mem _ aw_21
theorem hX7_barredAt_X7 : ∀ w ∈ wsX70, w ∈ wsX7_barredAt := fun w h => List.mem_cons_of_mem _ (ac_X7 w h)
theorem kX7_barredAt_f198 : (Cond.fieldLink RX7 198 "LastCallersWord$Plan" "persons" "I" : Cond) ∈ wsX7_barredAt := List.mem_cons_of_mem _ aw_435
theorem hX7_barredAt_X1 : ∀ w ∈ wsX10, w ∈ wsX7_barredAt := fun w h => List.mem_cons_of_mem _ (ac_X1 w h)
set_option maxHeartbeats 4000000 in
set_option maxRecDepth 100000 in
theorem c_X7_barredAt (l : Launch) (g : GG) (th : Nat) (le : Nat → Nat) (dr : Nat → Nat) (rd : Nat) (pn : Nat → Nat) (sa : Nat → Nat) (tk : Nat) (sg : Nat → Nat) (us : Nat → Nat) (ks : Nat → Nat) (sk : Nat) (len : Nat) (pa : Nat → Nat → Int32) (ps : Nat → Nat) (x : Nat → Nat → Int32) (dy : Nat) (ga : Nat → Nat → Int32) (gz : Nat) (uk : Nat) (kk : Nat) (d : Nat) (hP8 : ps 0 ≤ 8) (hD5 : ps 2 ≤ 5) (hW6 : ps 3 ≤ 6) (hgz : gz ≤ 8) (hd : d < 5) : Met l yX7_barredAt wsX7_barredAt ({ frames := 2, cells := 0, slots := 0, locals := 43 } : Room) (ro g [.ref th, .int (nI d)] [(th, .inr (7, [.ref (le 0), .ref (dr 0), .ref rd, .ref (pn 0), .ref (sa 0), .ref tk, .ref (sg 0), .ref (us 0), .ref (ks 0), .ref sk])), (le 0, .inr (0, [.ref (le 1), .int (nI len)])), (pn 0, .inr (1, [.ref (pn 1), .ref (pn 2), .ref (pn 3), .ref (pn 4), .ref (pn 5), .int (nI (ps 0)), .int (nI (ps 1)), .int (nI (ps 2)), .int (nI (ps 3)), .int (nI (ps 4))])), (pn 1, .inl (g.2.1, 8, .inl (pa 0))), (pn 2, .inl (g.2.1, 64, .inl (pa 1))), (pn 3, .inl (g.2.1, 5, .inl (pa 2))), (pn 4, .inl (g.2.1, 5, .inl (pa 3))), (pn 5, .inl (g.2.1, 6, .inl (pa 4))), (sa 0, .inr (5, [.ref (sa 1), .ref (sa 2), .ref (sa 3), .ref (sa 4), .int (nI dy)])), (sa 1, .inl (g.2.1, 64, .inl (x 0))), (sa 2, .inl (g.2.1, 5, .inl (x 1))), (sa 3, .inl (g.2.1, 5, .inl (x 2))), (sa 4, .inl (g.2.1, 40, .inl (x 3))), (tk, .inr (6, [.ref (pn 0), .ref (sa 0)])), (sg 0, .inr (4, [.ref (sg 1), .ref (sg 2), .ref (sg 3), .int (nI gz)])), (sg 1, .inl (g.2.1, 8, .inl (ga 0))), (sg 2, .inl (g.2.1, 8, .inl (ga 1))), (sg 3, .inl (g.2.1, 8, .inl (ga 2))), (us 0, .inr (3, [.ref (us 1), .int (nI uk)])), (ks 0, .inr (3, [.ref (ks 1), .int (nI kk)]))]) (vp_Si (fun rr => rr = brB (x 3) (ps 4) d (ps 0))) 0 0 (fun _ => False) := by
  refine ro_start (cc := cX7_barredAt) (maxL := 4) (ty := .int) (by decide) rfl (Nat.le_of_ble_eq_true rfl) (fun p e s m args below meth c Q C hP hret ls hl => ?_)
  obtain ⟨hx, hb, hml, hr, hown, hts, hlk, hKK⟩ := id C
  have hK := hKK.1
  have hown : s.vm.findClass RX7 = some m.cls := hown
  have ctx : CallFix p m c cX7_barredAt 4 s args wsX7_barredAt RX7 := ⟨hx, hb, hml, hown, hts⟩
  have hl : lv_has ls 4 [(0, .ref th), (1, .int (nI d))] := hl
  refine lv_iconst (v := nI 0) hx hb dX7_barredAt_0 (by decide) ?_
  refine lv_istore_n (lv' := [(2, .int (nI 0)), (0, .ref th), (1, .int (nI d))]) hx hb dX7_barredAt_1 rfl hl (by decide) rfl (fun ls hl => ?_)
  refine lv_iconst (v := nI 0) hx hb dX7_barredAt_2 (by decide) ?_
  refine lv_istore_n (lv' := [(3, .int (nI 0)), (2, .int (nI 0)), (0, .ref th), (1, .int (nI d))]) hx hb dX7_barredAt_3 rfl hl (by decide) rfl (fun ls hl => ?_)
  have LP4 : ∀ (fu : Nat) (j : Nat) (x2 : Int32), ps 0 - j < fu → (j ≤ ps 0) → (x2 = brB (x 3) (ps 4) d j) → ∀ (ls : Array Slot), lv_has ls 4 [(3, .int (nI j)), (2, .int x2), (0, .ref th), (1, .int (nI d))] → W p l e ({ frames := 2, cells := 0, slots := 0, locals := 43 } : Room) s m args below meth c s.heap [] 0 0 Q (F0 m 4 ls []) := by
    intro fu
    induction fu with
    | zero => intro j x2 hfu; exact absurd hfu (Nat.not_lt_zero _)
    | succ fu ih4 =>
      intro j x2 hfu hj ex2 ls hl
      refine lv_iload_n hx hb dX7_barredAt_4 rfl (lv_at hl 0 rfl) ?_
      refine lv_aload_n hx hb dX7_barredAt_5 rfl (lv_at hl 2 rfl) ?_
      refine va_get (D := g.1) (cl := vwCl) (ci := 7) (v := .ref (pn 0)) (C := RX7) (T := TX7) (N := 10) hx hb hts hX7_barredAt_X7 hown hK hP 0 rfl rfl 3 (by decide) (hts _ kX7_barredAt_f32) (fun _ h9 => h9) rfl dX7_barredAt_6 ?_
      refine va_get (D := g.1) (cl := vwCl) (ci := 1) (v := .int (nI (ps 0))) (C := RX1) (T := TX1) (N := 10) hx hb hts hX7_barredAt_X1 hown hK hP 2 rfl rfl 5 (by decide) (hts _ kX7_barredAt_f198) (fun _ h9 => h9) rfl dX7_barredAt_9 ?_
      refine lv_icmp_ge (tgt := 36) hx hb dX7_barredAt_12 (by decide) (fun c_1 => ?_) (fun c_1 => ?_)
      · replace c_1 : (ps 0) ≤ j := (nI_leI (a := ps 0) (b := j) (by omega) (by omega)).mp c_1
        refine lv_iload_n hx hb dX7_barredAt_36 rfl (lv_at hl 1 rfl) ?_
        exact hret x2 37 ls (by rw [ex2, show j = ps 0 by omega]) (rfl) dX7_barredAt_37
      · replace c_1 : ¬ (ps 0) ≤ j := fun h => c_1 ((nI_leI (a := ps 0) (b := j) (by omega) (by omega)).mpr h)
        refine lv_aload_n hx hb dX7_barredAt_15 rfl (lv_at hl 2 rfl) ?_
        refine lv_iload_n hx hb dX7_barredAt_16 rfl (lv_at hl 0 rfl) ?_
        refine lv_iload_n hx hb dX7_barredAt_17 rfl (lv_at hl 3 rfl) ?_
        refine ro_callV (As := [.int (nI j), .int (nI d)]) (rest := []) (b := th) ctx hKK hP (c_X7_isBarred l g th le dr rd pn sa tk sg us ks sk len pa ps x dy ga gz uk kk j d (by omega) (by omega) (by omega) (by omega) (by omega) (by omega)) gX7_barredAt_X7_isBarred rfl rfl rfl hdX7_isBarred ⟨Nat.le_of_ble_eq_true rfl, Nat.le_of_ble_eq_true rfl⟩ [0, 1, 2, 3, 4, 5, 6, 7, 8, 9, 10, 11, 12, 13, 14, 15, 16, 17, 18, 19] rfl (ci := 7) (q0 := 0) rfl rfl hl.1 rfl rfl (Nat.le_of_ble_eq_true rfl) dX7_barredAt_18 (fun r_2 hr_2 => ?_)
        subst hr_2
        refine lv_if_eq (tgt := 30) hx hb dX7_barredAt_21 (by decide) (fun c_3 => ?_) (fun c_3 => ?_)
        · replace c_3 := bI_f c_3
          refine lv_iinc (v := nI (j + 1)) (lv' := [(3, .int (nI (j + 1))), (2, .int x2), (0, .ref th), (1, .int (nI d))]) hx hb dX7_barredAt_30 hl (k := 0) rfl (iincK j 1) (by decide) rfl (fun ls hl => ?_)
          refine lv_goto (tgt := 4) hx hb dX7_barredAt_33 (by decide) ?_
          exact ih4 (j + 1) x2 (by omega) (by omega) (by have hh := c_3; simp only [Bool.not_eq_false, Bool.not_eq_true, decide_eq_true_eq, decide_eq_false_iff_not, Bool.not_eq_true', Bool.not_eq_false'] at hh; rw [brB, ← ex2]; first | (rw [if_pos hh]; done) | (rw [if_neg hh]; done)) ls (lv_sub hl [0, 1, 2, 3] rfl)
        · replace c_3 := bI_t c_3
          refine lv_iload_n hx hb dX7_barredAt_24 rfl (lv_at hl 1 rfl) ?_
          refine lv_iconst (v := nI 1) hx hb dX7_barredAt_25 (by decide) ?_
          refine lv_iload_n hx hb dX7_barredAt_26 rfl (lv_at hl 0 rfl) ?_
          refine lv_ishl hx hb dX7_barredAt_27 ?_
          refine lv_ior hx hb dX7_barredAt_28 ?_
          refine lv_istore_n (lv' := [(2, .int (x2 ||| ((nI 1) <<< ((nI j) &&& 31)))), (3, .int (nI j)), (0, .ref th), (1, .int (nI d))]) hx hb dX7_barredAt_29 rfl hl (by decide) rfl (fun ls hl => ?_)
          refine lv_iinc (v := nI (j + 1)) (lv' := [(3, .int (nI (j + 1))), (2, .int (x2 ||| ((nI 1) <<< ((nI j) &&& 31)))), (0, .ref th), (1, .int (nI d))]) hx hb dX7_barredAt_30 hl (k := 1) rfl (iincK j 1) (by decide) rfl (fun ls hl => ?_)
          refine lv_goto (tgt := 4) hx hb dX7_barredAt_33 (by decide) ?_
          exact ih4 (j + 1) (x2 ||| ((nI 1) <<< ((nI j) &&& 31))) (by omega) (by omega) (by have hh := c_3; simp only [Bool.not_eq_false, Bool.not_eq_true, decide_eq_true_eq, decide_eq_false_iff_not, Bool.not_eq_true', Bool.not_eq_false'] at hh; rw [brB, ← ex2]; first | (rw [if_pos hh]; done) | (rw [if_neg hh]; done)) ls (lv_sub hl [0, 1, 2, 3] rfl)
  exact LP4 (ps 0 + 1) 0 (nI 0) (by omega) (by omega) (rfl) ls (lv_sub hl [0, 1, 2, 3] rfl)
theorem kX7_shutOutBy_f32 : (Cond.fieldLink RX7 32 "LastCallersWord" "plan" "LLastCallersWord$Plan;" : Cond) ∈ wsX7_shutOutBy := List.mem_cons_of_mem _ aw_21
theorem hX7_shutOutBy_X7 : ∀ w ∈ wsX70, w ∈ wsX7_shutOutBy := fun w h => List.mem_cons_of_mem _ (ac_X7 w h)
theorem kX7_shutOutBy_f106 : (Cond.fieldLink RX7 106 "LastCallersWord$Plan" "doors" "I" : Cond) ∈ wsX7_shutOutBy := List.mem_cons_of_mem _ aw_222
theorem hX7_shutOutBy_X1 : ∀ w ∈ wsX10, w ∈ wsX7_shutOutBy := fun w h => List.mem_cons_of_mem _ (ac_X1 w h)
theorem kX7_shutOutBy_f138 : (Cond.fieldLink RX7 138 "LastCallersWord$Plan" "hosts" "[I" : Cond) ∈ wsX7_shutOutBy := List.mem_cons_of_mem _ aw_472
set_option maxHeartbeats 4000000 in
set_option maxRecDepth 100000 in
theorem c_X7_shutOutBy (l : Launch) (g : GG) (th : Nat) (le : Nat → Nat) (dr : Nat → Nat) (rd : Nat) (pn : Nat → Nat) (sa : Nat → Nat) (tk : Nat) (sg : Nat → Nat) (us : Nat → Nat) (ks : Nat → Nat) (sk : Nat) (pa : Nat → Nat → Int32) (ps : Nat → Nat) (ka : Nat) (kf : Nat → Int32) (hD5 : ps 2 ≤ 5) : Met l yX7_shutOutBy wsX7_shutOutBy ({ frames := 1, cells := 0, slots := 0, locals := 21 } : Room) (ro g [.ref th, .ref ka] [(th, .inr (7, [.ref (le 0), .ref (dr 0), .ref rd, .ref (pn 0), .ref (sa 0), .ref tk, .ref (sg 0), .ref (us 0), .ref (ks 0), .ref sk])), (pn 0, .inr (1, [.ref (pn 1), .ref (pn 2), .ref (pn 3), .ref (pn 4), .ref (pn 5), .int (nI (ps 0)), .int (nI (ps 1)), .int (nI (ps 2)), .int (nI (ps 3)), .int (nI (ps 4))])), (pn 3, .inl (g.2.1, 5, .inl (pa 2))), (ka, .inl (g.2.1, 5, .inl kf))]) (vp_Si (fun rr => rr = soB (pa 2) kf (ps 2))) 0 0 (fun _ => False) := by
  refine ro_start (cc := cX7_shutOutBy) (maxL := 4) (ty := .int) (by decide) rfl (Nat.le_of_ble_eq_true rfl) (fun p e s m args below meth c Q C hP hret ls hl => ?_)
  obtain ⟨hx, hb, hml, hr, hown, hts, hlk, hKK⟩ := id C
  have hK := hKK.1
  have hown : s.vm.findClass RX7 = some m.cls := hown
  have ctx : CallFix p m c cX7_shutOutBy 4 s args wsX7_shutOutBy RX7 := ⟨hx, hb, hml, hown, hts⟩
  have hl : lv_has ls 4 [(0, .ref th), (1, .ref ka)] := hl
  refine lv_iconst (v := nI 0) hx hb dX7_shutOutBy_0 (by decide) ?_
  refine lv_istore_n (lv' := [(2, .int (nI 0)), (0, .ref th), (1, .ref ka)]) hx hb dX7_shutOutBy_1 rfl hl (by decide) rfl (fun ls hl => ?_)
  refine lv_iconst (v := nI 0) hx hb dX7_shutOutBy_2 (by decide) ?_
  refine lv_istore_n (lv' := [(3, .int (nI 0)), (2, .int (nI 0)), (0, .ref th), (1, .ref ka)]) hx hb dX7_shutOutBy_3 rfl hl (by decide) rfl (fun ls hl => ?_)
  have LP4 : ∀ (fu : Nat) (j : Nat) (x2 : Int32), ps 2 - j < fu → (j ≤ ps 2) → (x2 = soB (pa 2) kf j) → ∀ (ls : Array Slot), lv_has ls 4 [(3, .int (nI j)), (2, .int x2), (0, .ref th), (1, .ref ka)] → W p l e ({ frames := 1, cells := 0, slots := 0, locals := 21 } : Room) s m args below meth c s.heap [] 0 0 Q (F0 m 4 ls []) := by
    intro fu
    induction fu with
    | zero => intro j x2 hfu; exact absurd hfu (Nat.not_lt_zero _)
    | succ fu ih4 =>
      intro j x2 hfu hj ex2 ls hl
      refine lv_iload_n hx hb dX7_shutOutBy_4 rfl (lv_at hl 0 rfl) ?_
      refine lv_aload_n hx hb dX7_shutOutBy_5 rfl (lv_at hl 2 rfl) ?_
      refine va_get (D := g.1) (cl := vwCl) (ci := 7) (v := .ref (pn 0)) (C := RX7) (T := TX7) (N := 10) hx hb hts hX7_shutOutBy_X7 hown hK hP 0 rfl rfl 3 (by decide) (hts _ kX7_shutOutBy_f32) (fun _ h9 => h9) rfl dX7_shutOutBy_6 ?_
      refine va_get (D := g.1) (cl := vwCl) (ci := 1) (v := .int (nI (ps 2))) (C := RX1) (T := TX1) (N := 10) hx hb hts hX7_shutOutBy_X1 hown hK hP 1 rfl rfl 7 (by decide) (hts _ kX7_shutOutBy_f106) (fun _ h9 => h9) rfl dX7_shutOutBy_9 ?_
      refine lv_icmp_ge (tgt := 51) hx hb dX7_shutOutBy_12 (by decide) (fun c_1 => ?_) (fun c_1 => ?_)
      · replace c_1 : (ps 2) ≤ j := (nI_leI (a := ps 2) (b := j) (by omega) (by omega)).mp c_1
        refine lv_iload_n hx hb dX7_shutOutBy_51 rfl (lv_at hl 1 rfl) ?_
        exact hret x2 52 ls (by rw [ex2, show j = ps 2 by omega]) (rfl) dX7_shutOutBy_52
      · replace c_1 : ¬ (ps 2) ≤ j := fun h => c_1 ((nI_leI (a := ps 2) (b := j) (by omega) (by omega)).mpr h)
        refine lv_iload_n hx hb dX7_shutOutBy_15 rfl (lv_at hl 0 rfl) ?_
        refine lv_aload_n hx hb dX7_shutOutBy_16 rfl (lv_at hl 3 rfl) ?_
        refine va_alen (D := g.1) (cl := vwCl) (v := nI 5) hx hb hK hP 3 0 rfl (ty := .int) rfl rfl dX7_shutOutBy_17 ?_
        refine lv_icmp_ge (tgt := 51) hx hb dX7_shutOutBy_18 (by decide) (fun c_2 => ?_) (fun c_2 => ?_)
        · replace c_2 : 5 ≤ j := (nI_leI (a := 5) (b := j) (by omega) (by omega)).mp c_2; omega
        · replace c_2 : ¬ 5 ≤ j := fun h => c_2 ((nI_leI (a := 5) (b := j) (by omega) (by omega)).mpr h)
          refine lv_aload_n hx hb dX7_shutOutBy_21 rfl (lv_at hl 3 rfl) ?_
          refine lv_iload_n hx hb dX7_shutOutBy_22 rfl (lv_at hl 0 rfl) ?_
          refine ald_i (D := g.1) (cl := vwCl) (f := kf) (i := j) (n := 5) hx hb hK hP 3 0 rfl rfl (by omega) (by decide) dX7_shutOutBy_23 ?_
          refine lv_aload_n hx hb dX7_shutOutBy_24 rfl (lv_at hl 2 rfl) ?_
          refine va_get (D := g.1) (cl := vwCl) (ci := 7) (v := .ref (pn 0)) (C := RX7) (T := TX7) (N := 10) hx hb hts hX7_shutOutBy_X7 hown hK hP 0 rfl rfl 3 (by decide) (hts _ kX7_shutOutBy_f32) (fun _ h9 => h9) rfl dX7_shutOutBy_25 ?_
          refine va_get (D := g.1) (cl := vwCl) (ci := 1) (v := .ref (pn 3)) (C := RX1) (T := TX1) (N := 10) hx hb hts hX7_shutOutBy_X1 hown hK hP 1 rfl rfl 2 (by decide) (hts _ kX7_shutOutBy_f138) (fun _ h9 => h9) rfl dX7_shutOutBy_28 ?_
          refine lv_iload_n hx hb dX7_shutOutBy_31 rfl (lv_at hl 0 rfl) ?_
          refine ald_i (D := g.1) (cl := vwCl) (f := pa 2) (i := j) (n := 5) hx hb hK hP 2 0 rfl rfl (by omega) (by decide) dX7_shutOutBy_32 ?_
          refine ro_callS (As := [.int (kf j), .int ((pa 2) j)]) (rest := []) ctx hKK hP (c_X7_has l g (kf j) ((pa 2) j)) gX7_shutOutBy_X7_has rfl rfl rfl hdX7_has ⟨Nat.le_of_ble_eq_true rfl, Nat.le_of_ble_eq_true rfl⟩ [] rfl hl.1 rfl rfl (Nat.le_of_ble_eq_true rfl) dX7_shutOutBy_33 (fun r_3 hr_3 => ?_)
          subst hr_3
          refine lv_if_ne (tgt := 45) hx hb dX7_shutOutBy_36 (by decide) (fun c_4 => ?_) (fun c_4 => ?_)
          · replace c_4 := bI_t c_4
            refine lv_iinc (v := nI (j + 1)) (lv' := [(3, .int (nI (j + 1))), (2, .int x2), (0, .ref th), (1, .ref ka)]) hx hb dX7_shutOutBy_45 hl (k := 0) rfl (iincK j 1) (by decide) rfl (fun ls hl => ?_)
            refine lv_goto (tgt := 4) hx hb dX7_shutOutBy_48 (by decide) ?_
            exact ih4 (j + 1) x2 (by omega) (by omega) (by rw [soB, ← ex2]; simp [c_1, c_2, c_4]) ls (lv_sub hl [0, 1, 2, 3] rfl)
          · replace c_4 := bI_f c_4
            refine lv_iload_n hx hb dX7_shutOutBy_39 rfl (lv_at hl 1 rfl) ?_
            refine lv_iconst (v := nI 1) hx hb dX7_shutOutBy_40 (by decide) ?_
            refine lv_iload_n hx hb dX7_shutOutBy_41 rfl (lv_at hl 0 rfl) ?_
            refine lv_ishl hx hb dX7_shutOutBy_42 ?_
            refine lv_ior hx hb dX7_shutOutBy_43 ?_
            refine lv_istore_n (lv' := [(2, .int (x2 ||| ((nI 1) <<< ((nI j) &&& 31)))), (3, .int (nI j)), (0, .ref th), (1, .ref ka)]) hx hb dX7_shutOutBy_44 rfl hl (by decide) rfl (fun ls hl => ?_)
            refine lv_iinc (v := nI (j + 1)) (lv' := [(3, .int (nI (j + 1))), (2, .int (x2 ||| ((nI 1) <<< ((nI j) &&& 31)))), (0, .ref th), (1, .ref ka)]) hx hb dX7_shutOutBy_45 hl (k := 1) rfl (iincK j 1) (by decide) rfl (fun ls hl => ?_)
            refine lv_goto (tgt := 4) hx hb dX7_shutOutBy_48 (by decide) ?_
            exact ih4 (j + 1) (x2 ||| ((nI 1) <<< ((nI j) &&& 31))) (by omega) (by omega) (by rw [soB, ← ex2]; simp [c_1, c_2, c_4]) ls (lv_sub hl [0, 1, 2, 3] rfl)
  exact LP4 (ps 2 + 1) 0 (nI 0) (by omega) (by omega) (rfl) ls (lv_sub hl [0, 1, 2, 3] rfl)
theorem kX7_callersWhoReach_f32 : (Cond.fieldLink RX7 32 "LastCallersWord" "plan" "LLastCallersWord$Plan;" : Cond) ∈ wsX7_callersWhoReach := List.mem_cons_of_mem _ aw_21
theorem hX7_callersWhoReach_X7 : ∀ w ∈ wsX70, w ∈ wsX7_callersWhoReach := fun w h => List.mem_cons_of_mem _ (ac_X7 w h)
theorem kX7_callersWhoReach_f198 : (Cond.fieldLink RX7 198 "LastCallersWord$Plan" "persons" "I" : Cond) ∈ wsX7_callersWhoReach := List.mem_cons_of_mem _ aw_435
theorem hX7_callersWhoReach_X1 : ∀ w ∈ wsX10, w ∈ wsX7_callersWhoReach := fun w h => List.mem_cons_of_mem _ (ac_X1 w h)
theorem kX7_callersWhoReach_f47 : (Cond.fieldLink RX7 47 "LastCallersWord" "talk" "LLastCallersWord$Talk;" : Cond) ∈ wsX7_callersWhoReach := List.mem_cons_of_mem _ aw_29
set_option maxHeartbeats 4000000 in
set_option maxRecDepth 100000 in
theorem c_X7_callersWhoReach (l : Launch) (g : GG) (th : Nat) (le : Nat → Nat) (dr : Nat → Nat) (rd : Nat) (pn : Nat → Nat) (sa : Nat → Nat) (tk : Nat) (sg : Nat → Nat) (us : Nat → Nat) (ks : Nat → Nat) (sk : Nat) (len : Nat) (pa : Nat → Nat → Int32) (ps : Nat → Nat) (x : Nat → Nat → Int32) (dy : Nat) (ga : Nat → Nat → Int32) (gz : Nat) (uk : Nat) (kk : Nat) (hv : Int32) (n : Nat) (hP8 : ps 0 ≤ 8) (hD5 : ps 2 ≤ 5) (hW6 : ps 3 ≤ 6) (hgz : gz ≤ 8) (hn : n ≤ 20) : Met l yX7_callersWhoReach wsX7_callersWhoReach ({ frames := 5, cells := 0, slots := 0, locals := 113 } : Room) (ro g [.ref th, .int hv, .int (nI n)] [(th, .inr (7, [.ref (le 0), .ref (dr 0), .ref rd, .ref (pn 0), .ref (sa 0), .ref tk, .ref (sg 0), .ref (us 0), .ref (ks 0), .ref sk])), (le 0, .inr (0, [.ref (le 1), .int (nI len)])), (pn 0, .inr (1, [.ref (pn 1), .ref (pn 2), .ref (pn 3), .ref (pn 4), .ref (pn 5), .int (nI (ps 0)), .int (nI (ps 1)), .int (nI (ps 2)), .int (nI (ps 3)), .int (nI (ps 4))])), (pn 1, .inl (g.2.1, 8, .inl (pa 0))), (pn 2, .inl (g.2.1, 64, .inl (pa 1))), (pn 3, .inl (g.2.1, 5, .inl (pa 2))), (pn 4, .inl (g.2.1, 5, .inl (pa 3))), (pn 5, .inl (g.2.1, 6, .inl (pa 4))), (sa 0, .inr (5, [.ref (sa 1), .ref (sa 2), .ref (sa 3), .ref (sa 4), .int (nI dy)])), (sa 1, .inl (g.2.1, 64, .inl (x 0))), (sa 2, .inl (g.2.1, 5, .inl (x 1))), (sa 3, .inl (g.2.1, 5, .inl (x 2))), (sa 4, .inl (g.2.1, 40, .inl (x 3))), (tk, .inr (6, [.ref (pn 0), .ref (sa 0)])), (sg 0, .inr (4, [.ref (sg 1), .ref (sg 2), .ref (sg 3), .int (nI gz)])), (sg 1, .inl (g.2.1, 8, .inl (ga 0))), (sg 2, .inl (g.2.1, 8, .inl (ga 1))), (sg 3, .inl (g.2.1, 8, .inl (ga 2))), (us 0, .inr (3, [.ref (us 1), .int (nI uk)])), (ks 0, .inr (3, [.ref (ks 1), .int (nI kk)]))]) (vp_Si (fun rr => rr = cwr (pa 0) (x 0) (ps 0) hv n (ps 0))) 0 0 (fun _ => False) := by
  refine ro_start (cc := cX7_callersWhoReach) (maxL := 5) (ty := .int) (by decide) rfl (Nat.le_of_ble_eq_true rfl) (fun p e s m args below meth c Q C hP hret ls hl => ?_)
  obtain ⟨hx, hb, hml, hr, hown, hts, hlk, hKK⟩ := id C
  have hK := hKK.1
  have hown : s.vm.findClass RX7 = some m.cls := hown
  have ctx : CallFix p m c cX7_callersWhoReach 5 s args wsX7_callersWhoReach RX7 := ⟨hx, hb, hml, hown, hts⟩
  have hl : lv_has ls 5 [(0, .ref th), (1, .int hv), (2, .int (nI n))] := hl
  refine lv_iconst (v := nI 0) hx hb dX7_callersWhoReach_0 (by decide) ?_
  refine lv_istore_n (lv' := [(3, .int (nI 0)), (0, .ref th), (1, .int hv), (2, .int (nI n))]) hx hb dX7_callersWhoReach_1 rfl hl (by decide) rfl (fun ls hl => ?_)
  refine lv_iconst (v := nI 0) hx hb dX7_callersWhoReach_2 (by decide) ?_
  refine lv_istore (lv' := [(4, .int (nI 0)), (3, .int (nI 0)), (0, .ref th), (1, .int hv), (2, .int (nI n))]) hx hb dX7_callersWhoReach_3 hl (by decide) rfl (fun ls hl => ?_)
  have LP5 : ∀ (fu : Nat) (j : Nat) (x3 : Int32), ps 0 - j < fu → (j ≤ ps 0) → (x3 = cwr (pa 0) (x 0) (ps 0) hv n j) → ∀ (ls : Array Slot), lv_has ls 5 [(4, .int (nI j)), (3, .int x3), (0, .ref th), (1, .int hv), (2, .int (nI n))] → W p l e ({ frames := 5, cells := 0, slots := 0, locals := 113 } : Room) s m args below meth c s.heap [] 0 0 Q (F0 m 5 ls []) := by
    intro fu
    induction fu with
    | zero => intro j x3 hfu; exact absurd hfu (Nat.not_lt_zero _)
    | succ fu ih5 =>
      intro j x3 hfu hj ex3 ls hl
      refine lv_iload hx hb dX7_callersWhoReach_5 (lv_at hl 0 rfl) ?_
      refine lv_aload_n hx hb dX7_callersWhoReach_7 rfl (lv_at hl 2 rfl) ?_
      refine va_get (D := g.1) (cl := vwCl) (ci := 7) (v := .ref (pn 0)) (C := RX7) (T := TX7) (N := 10) hx hb hts hX7_callersWhoReach_X7 hown hK hP 0 rfl rfl 3 (by decide) (hts _ kX7_callersWhoReach_f32) (fun _ h9 => h9) rfl dX7_callersWhoReach_8 ?_
      refine va_get (D := g.1) (cl := vwCl) (ci := 1) (v := .int (nI (ps 0))) (C := RX1) (T := TX1) (N := 10) hx hb hts hX7_callersWhoReach_X1 hown hK hP 2 rfl rfl 5 (by decide) (hts _ kX7_callersWhoReach_f198) (fun _ h9 => h9) rfl dX7_callersWhoReach_11 ?_
      refine lv_icmp_ge (tgt := 54) hx hb dX7_callersWhoReach_14 (by decide) (fun c_1 => ?_) (fun c_1 => ?_)
      · replace c_1 : (ps 0) ≤ j := (nI_leI (a := ps 0) (b := j) (by omega) (by omega)).mp c_1
        refine lv_iload_n hx hb dX7_callersWhoReach_54 rfl (lv_at hl 1 rfl) ?_
        exact hret x3 55 ls (by rw [ex3, show j = ps 0 by omega]) (rfl) dX7_callersWhoReach_55
      · replace c_1 : ¬ (ps 0) ≤ j := fun h => c_1 ((nI_leI (a := ps 0) (b := j) (by omega) (by omega)).mpr h)
        refine lv_aload_n hx hb dX7_callersWhoReach_17 rfl (lv_at hl 2 rfl) ?_
        refine va_get (D := g.1) (cl := vwCl) (ci := 7) (v := .ref tk) (C := RX7) (T := TX7) (N := 10) hx hb hts hX7_callersWhoReach_X7 hown hK hP 0 rfl rfl 5 (by decide) (hts _ kX7_callersWhoReach_f47) (fun _ h9 => h9) rfl dX7_callersWhoReach_18 ?_
        refine lv_aload_n hx hb dX7_callersWhoReach_21 rfl (lv_at hl 2 rfl) ?_
        refine va_get (D := g.1) (cl := vwCl) (ci := 7) (v := .ref tk) (C := RX7) (T := TX7) (N := 10) hx hb hts hX7_callersWhoReach_X7 hown hK hP 0 rfl rfl 5 (by decide) (hts _ kX7_callersWhoReach_f47) (fun _ h9 => h9) rfl dX7_callersWhoReach_22 ?_
        refine lv_iload hx hb dX7_callersWhoReach_25 (lv_at hl 0 rfl) ?_
        refine ro_callV (As := [.int (nI j)]) (rest := [.ref tk]) (b := tk) ctx hKK hP (c_X6_knowersByCall l g tk (pn 0) (pn 1) (pn 2) (pn 3) (pn 4) (pn 5) (sa 0) (sa 1) (sa 2) (sa 3) (sa 4) (ps 0) (ps 1) (ps 2) (ps 3) (ps 4) dy (pa 0) (x 0) (nI j) (by omega)) gX7_callersWhoReach_X6_knowersByCall rfl rfl rfl hdX6_knowersByCall ⟨Nat.le_of_ble_eq_true rfl, Nat.le_of_ble_eq_true rfl⟩ [13, 2, 3, 8, 9] rfl (ci := 6) (q0 := 0) rfl rfl hl.1 rfl rfl (Nat.le_of_ble_eq_true rfl) dX7_callersWhoReach_27 (fun r_2 hr_2 => ?_)
        subst hr_2
        refine lv_iload_n hx hb dX7_callersWhoReach_30 rfl (lv_at hl 4 rfl) ?_
        refine ro_callV (As := [.int (kbc (pa 0) (x 0) (ps 0) (nI j)), .int (nI n)]) (rest := []) (b := tk) ctx hKK hP (c_X6_afterDays l g tk (pn 0) (pn 1) (pn 2) (pn 3) (pn 4) (pn 5) (sa 0) (sa 1) (sa 2) (sa 3) (sa 4) (ps 0) (ps 1) (ps 2) (ps 3) (ps 4) dy (pa 0) (x 0) (kbc (pa 0) (x 0) (ps 0) (nI j)) n (by omega) (by omega)) gX7_callersWhoReach_X6_afterDays rfl rfl rfl hdX6_afterDays ⟨Nat.le_of_ble_eq_true rfl, Nat.le_of_ble_eq_true rfl⟩ [13, 2, 3, 8, 9] rfl (ci := 6) (q0 := 0) rfl rfl hl.1 rfl rfl (Nat.le_of_ble_eq_true rfl) dX7_callersWhoReach_31 (fun r_3 hr_3 => ?_)
        subst hr_3
        refine lv_iload_n hx hb dX7_callersWhoReach_34 rfl (lv_at hl 3 rfl) ?_
        refine ro_callS (As := [.int (aDs (pa 0) (x 0) (ps 0) (kbc (pa 0) (x 0) (ps 0) (nI j)) n), .int hv]) (rest := []) ctx hKK hP (c_X7_has l g (aDs (pa 0) (x 0) (ps 0) (kbc (pa 0) (x 0) (ps 0) (nI j)) n) hv) gX7_callersWhoReach_X7_has rfl rfl rfl hdX7_has ⟨Nat.le_of_ble_eq_true rfl, Nat.le_of_ble_eq_true rfl⟩ [] rfl hl.1 rfl rfl (Nat.le_of_ble_eq_true rfl) dX7_callersWhoReach_35 (fun r_4 hr_4 => ?_)
        subst hr_4
        refine lv_if_eq (tgt := 48) hx hb dX7_callersWhoReach_38 (by decide) (fun c_5 => ?_) (fun c_5 => ?_)
        · replace c_5 := bI_f c_5
          refine lv_iinc (v := nI (j + 1)) (lv' := [(4, .int (nI (j + 1))), (3, .int x3), (0, .ref th), (1, .int hv), (2, .int (nI n))]) hx hb dX7_callersWhoReach_48 hl (k := 0) rfl (iincK j 1) (by decide) rfl (fun ls hl => ?_)
          refine lv_goto (tgt := 5) hx hb dX7_callersWhoReach_51 (by decide) ?_
          exact ih5 (j + 1) x3 (by omega) (by omega) (by rw [cwr, ← ex3]; simp [c_1, c_5]) ls (lv_sub hl [0, 1, 2, 3, 4] rfl)
        · replace c_5 := bI_t c_5
          refine lv_iload_n hx hb dX7_callersWhoReach_41 rfl (lv_at hl 1 rfl) ?_
          refine lv_iconst (v := nI 1) hx hb dX7_callersWhoReach_42 (by decide) ?_
          refine lv_iload hx hb dX7_callersWhoReach_43 (lv_at hl 0 rfl) ?_
          refine lv_ishl hx hb dX7_callersWhoReach_45 ?_
          refine lv_ior hx hb dX7_callersWhoReach_46 ?_
          refine lv_istore_n (lv' := [(3, .int (x3 ||| ((nI 1) <<< ((nI j) &&& 31)))), (4, .int (nI j)), (0, .ref th), (1, .int hv), (2, .int (nI n))]) hx hb dX7_callersWhoReach_47 rfl hl (by decide) rfl (fun ls hl => ?_)
          refine lv_iinc (v := nI (j + 1)) (lv' := [(4, .int (nI (j + 1))), (3, .int (x3 ||| ((nI 1) <<< ((nI j) &&& 31)))), (0, .ref th), (1, .int hv), (2, .int (nI n))]) hx hb dX7_callersWhoReach_48 hl (k := 1) rfl (iincK j 1) (by decide) rfl (fun ls hl => ?_)
          refine lv_goto (tgt := 5) hx hb dX7_callersWhoReach_51 (by decide) ?_
          exact ih5 (j + 1) (x3 ||| ((nI 1) <<< ((nI j) &&& 31))) (by omega) (by omega) (by rw [cwr, ← ex3]; simp [c_1, c_5]) ls (lv_sub hl [0, 1, 2, 3, 4] rfl)
  exact LP5 (ps 0 + 1) 0 (nI 0) (by omega) (by omega) (rfl) ls (lv_sub hl [0, 1, 2, 3, 4] rfl)
theorem kX7_knowersByVisitors_f38 : (Cond.fieldLink RX7 38 "LastCallersWord" "state" "LLastCallersWord$State;" : Cond) ∈ wsX7_knowersByVisitors := List.mem_cons_of_mem _ aw_25
theorem hX7_knowersByVisitors_X7 : ∀ w ∈ wsX70, w ∈ wsX7_knowersByVisitors := fun w h => List.mem_cons_of_mem _ (ac_X7 w h)
theorem kX7_knowersByVisitors_f144 : (Cond.fieldLink RX7 144 "LastCallersWord$State" "knowers" "[I" : Cond) ∈ wsX7_knowersByVisitors := List.mem_cons_of_mem _ aw_223
theorem hX7_knowersByVisitors_X5 : ∀ w ∈ wsX50, w ∈ wsX7_knowersByVisitors := fun w h => List.mem_cons_of_mem _ (ac_X5 w h)
theorem kX7_knowersByVisitors_f32 : (Cond.fieldLink RX7 32 "LastCallersWord" "plan" "LLastCallersWord$Plan;" : Cond) ∈ wsX7_knowersByVisitors := List.mem_cons_of_mem _ aw_21
theorem kX7_knowersByVisitors_f198 : (Cond.fieldLink RX7 198 "LastCallersWord$Plan" "persons" "I" : Cond) ∈ wsX7_knowersByVisitors := List.mem_cons_of_mem _ aw_435
theorem hX7_knowersByVisitors_X1 : ∀ w ∈ wsX10, w ∈ wsX7_knowersByVisitors := fun w h => List.mem_cons_of_mem _ (ac_X1 w h)
theorem kX7_knowersByVisitors_f47 : (Cond.fieldLink RX7 47 "LastCallersWord" "talk" "LLastCallersWord$Talk;" : Cond) ∈ wsX7_knowersByVisitors := List.mem_cons_of_mem _ aw_29
set_option maxHeartbeats 4000000 in
set_option maxRecDepth 100000 in
theorem c_X7_knowersByVisitors (l : Launch) (g : GG) (th : Nat) (le : Nat → Nat) (dr : Nat → Nat) (rd : Nat) (pn : Nat → Nat) (sa : Nat → Nat) (tk : Nat) (sg : Nat → Nat) (us : Nat → Nat) (ks : Nat → Nat) (sk : Nat) (len : Nat) (pa : Nat → Nat → Int32) (ps : Nat → Nat) (x : Nat → Nat → Int32) (dy : Nat) (ga : Nat → Nat → Int32) (gz : Nat) (uk : Nat) (kk : Nat) (d : Nat) (n : Nat) (way : Nat) (hP8 : ps 0 ≤ 8) (hD5 : ps 2 ≤ 5) (hW6 : ps 3 ≤ 6) (hgz : gz ≤ 8) (hd : d < 5) (hn : n ≤ 20) (hw : way < 2 ^ 31) : Met l yX7_knowersByVisitors wsX7_knowersByVisitors ({ frames := 5, cells := 0, slots := 0, locals := 113 } : Room) (ro g [.ref th, .int (nI d), .int (nI n), .int (nI way)] [(th, .inr (7, [.ref (le 0), .ref (dr 0), .ref rd, .ref (pn 0), .ref (sa 0), .ref tk, .ref (sg 0), .ref (us 0), .ref (ks 0), .ref sk])), (le 0, .inr (0, [.ref (le 1), .int (nI len)])), (pn 0, .inr (1, [.ref (pn 1), .ref (pn 2), .ref (pn 3), .ref (pn 4), .ref (pn 5), .int (nI (ps 0)), .int (nI (ps 1)), .int (nI (ps 2)), .int (nI (ps 3)), .int (nI (ps 4))])), (pn 1, .inl (g.2.1, 8, .inl (pa 0))), (pn 2, .inl (g.2.1, 64, .inl (pa 1))), (pn 3, .inl (g.2.1, 5, .inl (pa 2))), (pn 4, .inl (g.2.1, 5, .inl (pa 3))), (pn 5, .inl (g.2.1, 6, .inl (pa 4))), (sa 0, .inr (5, [.ref (sa 1), .ref (sa 2), .ref (sa 3), .ref (sa 4), .int (nI dy)])), (sa 1, .inl (g.2.1, 64, .inl (x 0))), (sa 2, .inl (g.2.1, 5, .inl (x 1))), (sa 3, .inl (g.2.1, 5, .inl (x 2))), (sa 4, .inl (g.2.1, 40, .inl (x 3))), (tk, .inr (6, [.ref (pn 0), .ref (sa 0)])), (sg 0, .inr (4, [.ref (sg 1), .ref (sg 2), .ref (sg 3), .int (nI gz)])), (sg 1, .inl (g.2.1, 8, .inl (ga 0))), (sg 2, .inl (g.2.1, 8, .inl (ga 1))), (sg 3, .inl (g.2.1, 8, .inl (ga 2))), (us 0, .inr (3, [.ref (us 1), .int (nI uk)])), (ks 0, .inr (3, [.ref (ks 1), .int (nI kk)]))]) (vp_Si (fun rr => rr = (kbv (pa 0) (x 0) (ps 0) (x 2 d) way n).1)) 0 0 (fun _ => False) := by
  refine ro_start (cc := cX7_knowersByVisitors) (maxL := 8) (ty := .int) (by decide) rfl (Nat.le_of_ble_eq_true rfl) (fun p e s m args below meth c Q C hP hret ls hl => ?_)
  obtain ⟨hx, hb, hml, hr, hown, hts, hlk, hKK⟩ := id C
  have hK := hKK.1
  have hown : s.vm.findClass RX7 = some m.cls := hown
  have ctx : CallFix p m c cX7_knowersByVisitors 8 s args wsX7_knowersByVisitors RX7 := ⟨hx, hb, hml, hown, hts⟩
  have hl : lv_has ls 8 [(0, .ref th), (1, .int (nI d)), (2, .int (nI n)), (3, .int (nI way))] := hl
  refine lv_aload_n hx hb dX7_knowersByVisitors_0 rfl (lv_at hl 0 rfl) ?_
  refine va_get (D := g.1) (cl := vwCl) (ci := 7) (v := .ref (sa 0)) (C := RX7) (T := TX7) (N := 10) hx hb hts hX7_knowersByVisitors_X7 hown hK hP 0 rfl rfl 4 (by decide) (hts _ kX7_knowersByVisitors_f38) (fun _ h9 => h9) rfl dX7_knowersByVisitors_1 ?_
  refine va_get (D := g.1) (cl := vwCl) (ci := 5) (v := .ref (sa 3)) (C := RX5) (T := TX5) (N := 5) hx hb hts hX7_knowersByVisitors_X5 hown hK hP 8 rfl rfl 2 (by decide) (hts _ kX7_knowersByVisitors_f144) (fun _ h9 => h9) rfl dX7_knowersByVisitors_4 ?_
  refine lv_iload_n hx hb dX7_knowersByVisitors_7 rfl (lv_at hl 1 rfl) ?_
  refine ald_i (D := g.1) (cl := vwCl) (f := x 2) (i := d) (n := 5) hx hb hK hP 11 0 rfl rfl (by omega) (by decide) dX7_knowersByVisitors_8 ?_
  refine lv_istore (lv' := [(4, .int ((x 2) d)), (0, .ref th), (1, .int (nI d)), (2, .int (nI n)), (3, .int (nI way))]) hx hb dX7_knowersByVisitors_9 hl (by decide) rfl (fun ls hl => ?_)
  refine lv_iload_n hx hb dX7_knowersByVisitors_11 rfl (lv_at hl 4 rfl) ?_
  refine lv_istore (lv' := [(5, .int (nI way)), (4, .int ((x 2) d)), (0, .ref th), (1, .int (nI d)), (2, .int (nI n)), (3, .int (nI way))]) hx hb dX7_knowersByVisitors_12 hl (by decide) rfl (fun ls hl => ?_)
  refine lv_iconst (v := nI 0) hx hb dX7_knowersByVisitors_14 (by decide) ?_
  refine lv_istore (lv' := [(6, .int (nI 0)), (5, .int (nI way)), (4, .int ((x 2) d)), (0, .ref th), (1, .int (nI d)), (2, .int (nI n)), (3, .int (nI way))]) hx hb dX7_knowersByVisitors_15 hl (by decide) rfl (fun ls hl => ?_)
  have LP17 : ∀ (fu : Nat) (j : Nat) (x4 : Int32) (x5 : Nat), n - j < fu → (j ≤ n) → (x4 = (kbv (pa 0) (x 0) (ps 0) (x 2 d) way j).1) → (x5 = (kbv (pa 0) (x 0) (ps 0) (x 2 d) way j).2) → ∀ (ls : Array Slot), lv_has ls 8 [(6, .int (nI j)), (5, .int (nI x5)), (4, .int x4), (0, .ref th), (1, .int (nI d)), (2, .int (nI n)), (3, .int (nI way))] → W p l e ({ frames := 5, cells := 0, slots := 0, locals := 113 } : Room) s m args below meth c s.heap [] 0 0 Q (F0 m 17 ls []) := by
    intro fu
    induction fu with
    | zero => intro j x4 x5 hfu; exact absurd hfu (Nat.not_lt_zero _)
    | succ fu ih17 =>
      intro j x4 x5 hfu hj ex4 ex5 ls hl
      have hx5 : x5 ≤ way := by rw [ex5]; exact kbv_le _ _ _ _ _ _
      refine lv_iload hx hb dX7_knowersByVisitors_17 (lv_at hl 0 rfl) ?_
      refine lv_iload_n hx hb dX7_knowersByVisitors_19 rfl (lv_at hl 5 rfl) ?_
      refine lv_icmp_ge (tgt := 89) hx hb dX7_knowersByVisitors_20 (by decide) (fun c_1 => ?_) (fun c_1 => ?_)
      · replace c_1 : n ≤ j := (nI_leI (a := n) (b := j) (by omega) (by omega)).mp c_1
        refine lv_iload hx hb dX7_knowersByVisitors_89 (lv_at hl 2 rfl) ?_
        exact hret x4 91 ls (by rw [ex4, show j = n by omega]) (rfl) dX7_knowersByVisitors_91
      · replace c_1 : ¬ n ≤ j := fun h => c_1 ((nI_leI (a := n) (b := j) (by omega) (by omega)).mpr h)
        refine lv_iload hx hb dX7_knowersByVisitors_23 (lv_at hl 1 rfl) ?_
        refine lv_aload_n hx hb dX7_knowersByVisitors_25 rfl (lv_at hl 3 rfl) ?_
        refine va_get (D := g.1) (cl := vwCl) (ci := 7) (v := .ref (pn 0)) (C := RX7) (T := TX7) (N := 10) hx hb hts hX7_knowersByVisitors_X7 hown hK hP 0 rfl rfl 3 (by decide) (hts _ kX7_knowersByVisitors_f32) (fun _ h9 => h9) rfl dX7_knowersByVisitors_26 ?_
        refine va_get (D := g.1) (cl := vwCl) (ci := 1) (v := .int (nI (ps 0))) (C := RX1) (T := TX1) (N := 10) hx hb hts hX7_knowersByVisitors_X1 hown hK hP 2 rfl rfl 5 (by decide) (hts _ kX7_knowersByVisitors_f198) (fun _ h9 => h9) rfl dX7_knowersByVisitors_29 ?_
        refine ro_callS (As := [.int (nI x5), .int (nI (ps 0))]) (rest := []) ctx hKK hP (c_X7_remainderN l g x5 (ps 0) (by omega) (by omega)) gX7_knowersByVisitors_X7_remainder rfl rfl rfl hdX7_remainder ⟨Nat.le_of_ble_eq_true rfl, Nat.le_of_ble_eq_true rfl⟩ [] rfl hl.1 rfl rfl (Nat.le_of_ble_eq_true rfl) dX7_knowersByVisitors_32 (fun r_2 hr_2 => ?_)
        subst hr_2
        refine lv_istore (lv' := [(7, .int (nI (reN x5 (ps 0)))), (6, .int (nI j)), (5, .int (nI x5)), (4, .int x4), (0, .ref th), (1, .int (nI d)), (2, .int (nI n)), (3, .int (nI way))]) hx hb dX7_knowersByVisitors_35 hl (by decide) rfl (fun ls hl => ?_)
        refine lv_iload hx hb dX7_knowersByVisitors_37 (lv_at hl 2 rfl) ?_
        refine lv_aload_n hx hb dX7_knowersByVisitors_39 rfl (lv_at hl 4 rfl) ?_
        refine va_get (D := g.1) (cl := vwCl) (ci := 7) (v := .ref (pn 0)) (C := RX7) (T := TX7) (N := 10) hx hb hts hX7_knowersByVisitors_X7 hown hK hP 0 rfl rfl 3 (by decide) (hts _ kX7_knowersByVisitors_f32) (fun _ h9 => h9) rfl dX7_knowersByVisitors_40 ?_
        refine va_get (D := g.1) (cl := vwCl) (ci := 1) (v := .int (nI (ps 0))) (C := RX1) (T := TX1) (N := 10) hx hb hts hX7_knowersByVisitors_X1 hown hK hP 2 rfl rfl 5 (by decide) (hts _ kX7_knowersByVisitors_f198) (fun _ h9 => h9) rfl dX7_knowersByVisitors_43 ?_
        refine ro_callS (As := [.int (nI x5), .int (nI (ps 0))]) (rest := []) ctx hKK hP (c_X7_quotientN l g x5 (ps 0) (by omega) (by omega)) gX7_knowersByVisitors_X7_quotient rfl rfl rfl hdX7_quotient ⟨Nat.le_of_ble_eq_true rfl, Nat.le_of_ble_eq_true rfl⟩ [] rfl hl.1 rfl rfl (Nat.le_of_ble_eq_true rfl) dX7_knowersByVisitors_46 (fun r_3 hr_3 => ?_)
        subst hr_3
        refine lv_istore (lv' := [(5, .int (nI (quN x5 (ps 0)))), (7, .int (nI (reN x5 (ps 0)))), (6, .int (nI j)), (4, .int x4), (0, .ref th), (1, .int (nI d)), (2, .int (nI n)), (3, .int (nI way))]) hx hb dX7_knowersByVisitors_49 hl (by decide) rfl (fun ls hl => ?_)
        refine lv_iload hx hb dX7_knowersByVisitors_51 (lv_at hl 3 rfl) ?_
        refine lv_iload hx hb dX7_knowersByVisitors_53 (lv_at hl 1 rfl) ?_
        refine ro_callS (As := [.int x4, .int (nI (reN x5 (ps 0)))]) (rest := []) ctx hKK hP (c_X7_has l g x4 (nI (reN x5 (ps 0)))) gX7_knowersByVisitors_X7_has rfl rfl rfl hdX7_has ⟨Nat.le_of_ble_eq_true rfl, Nat.le_of_ble_eq_true rfl⟩ [] rfl hl.1 rfl rfl (Nat.le_of_ble_eq_true rfl) dX7_knowersByVisitors_55 (fun r_4 hr_4 => ?_)
        subst hr_4
        refine lv_if_eq (tgt := 72) hx hb dX7_knowersByVisitors_58 (by decide) (fun c_5 => ?_) (fun c_5 => ?_)
        · replace c_5 := bI_f c_5
          refine lv_aload_n hx hb dX7_knowersByVisitors_72 rfl (lv_at hl 4 rfl) ?_
          refine va_get (D := g.1) (cl := vwCl) (ci := 7) (v := .ref tk) (C := RX7) (T := TX7) (N := 10) hx hb hts hX7_knowersByVisitors_X7 hown hK hP 0 rfl rfl 5 (by decide) (hts _ kX7_knowersByVisitors_f47) (fun _ h9 => h9) rfl dX7_knowersByVisitors_73 ?_
          refine lv_iload hx hb dX7_knowersByVisitors_76 (lv_at hl 3 rfl) ?_
          refine ro_callV (As := [.int x4]) (rest := []) (b := tk) ctx hKK hP (c_X6_afterDay l g tk (pn 0) (pn 1) (pn 2) (pn 3) (pn 4) (pn 5) (sa 0) (sa 1) (sa 2) (sa 3) (sa 4) (ps 0) (ps 1) (ps 2) (ps 3) (ps 4) dy (pa 0) (x 0) x4 (by omega)) gX7_knowersByVisitors_X6_afterDay rfl rfl rfl hdX6_afterDay ⟨Nat.le_of_ble_eq_true rfl, Nat.le_of_ble_eq_true rfl⟩ [13, 2, 3, 8, 9] rfl (ci := 6) (q0 := 0) rfl rfl hl.1 rfl rfl (Nat.le_of_ble_eq_true rfl) dX7_knowersByVisitors_78 (fun r_6 hr_6 => ?_)
          subst hr_6
          refine lv_istore (lv' := [(4, .int (aDay (pa 0) (x 0) (ps 0) x4)), (5, .int (nI (quN x5 (ps 0)))), (7, .int (nI (reN x5 (ps 0)))), (6, .int (nI j)), (0, .ref th), (1, .int (nI d)), (2, .int (nI n)), (3, .int (nI way))]) hx hb dX7_knowersByVisitors_81 hl (by decide) rfl (fun ls hl => ?_)
          refine lv_iinc (v := nI (j + 1)) (lv' := [(6, .int (nI (j + 1))), (4, .int (aDay (pa 0) (x 0) (ps 0) x4)), (5, .int (nI (quN x5 (ps 0)))), (7, .int (nI (reN x5 (ps 0)))), (0, .ref th), (1, .int (nI d)), (2, .int (nI n)), (3, .int (nI way))]) hx hb dX7_knowersByVisitors_83 hl (k := 3) rfl (iincK j 1) (by decide) rfl (fun ls hl => ?_)
          refine lv_goto (tgt := 17) hx hb dX7_knowersByVisitors_86 (by decide) ?_
          exact ih17 (j + 1) (aDay (pa 0) (x 0) (ps 0) x4) (quN x5 (ps 0)) (by omega) (by omega) (by simp only [kbv, ← ex4, ← ex5, c_1, c_5, if_true, if_false]; try rfl) (by simp only [kbv, ← ex4, ← ex5, c_1, c_5, if_true, if_false]; try rfl) ls (lv_sub hl [0, 2, 1, 4, 5, 6, 7] rfl)
        · replace c_5 := bI_t c_5
          refine lv_aload_n hx hb dX7_knowersByVisitors_61 rfl (lv_at hl 4 rfl) ?_
          refine va_get (D := g.1) (cl := vwCl) (ci := 7) (v := .ref tk) (C := RX7) (T := TX7) (N := 10) hx hb hts hX7_knowersByVisitors_X7 hown hK hP 0 rfl rfl 5 (by decide) (hts _ kX7_knowersByVisitors_f47) (fun _ h9 => h9) rfl dX7_knowersByVisitors_62 ?_
          refine lv_iload hx hb dX7_knowersByVisitors_65 (lv_at hl 1 rfl) ?_
          refine ro_callV (As := [.int (nI (reN x5 (ps 0)))]) (rest := []) (b := tk) ctx hKK hP (c_X6_knowersByCall l g tk (pn 0) (pn 1) (pn 2) (pn 3) (pn 4) (pn 5) (sa 0) (sa 1) (sa 2) (sa 3) (sa 4) (ps 0) (ps 1) (ps 2) (ps 3) (ps 4) dy (pa 0) (x 0) (nI (reN x5 (ps 0))) (by omega)) gX7_knowersByVisitors_X6_knowersByCall rfl rfl rfl hdX6_knowersByCall ⟨Nat.le_of_ble_eq_true rfl, Nat.le_of_ble_eq_true rfl⟩ [13, 2, 3, 8, 9] rfl (ci := 6) (q0 := 0) rfl rfl hl.1 rfl rfl (Nat.le_of_ble_eq_true rfl) dX7_knowersByVisitors_67 (fun r_7 hr_7 => ?_)
          subst hr_7
          refine lv_istore (lv' := [(4, .int (kbc (pa 0) (x 0) (ps 0) (nI (reN x5 (ps 0))))), (5, .int (nI (quN x5 (ps 0)))), (7, .int (nI (reN x5 (ps 0)))), (6, .int (nI j)), (0, .ref th), (1, .int (nI d)), (2, .int (nI n)), (3, .int (nI way))]) hx hb dX7_knowersByVisitors_70 hl (by decide) rfl (fun ls hl => ?_)
          refine lv_aload_n hx hb dX7_knowersByVisitors_72 rfl (lv_at hl 4 rfl) ?_
          refine va_get (D := g.1) (cl := vwCl) (ci := 7) (v := .ref tk) (C := RX7) (T := TX7) (N := 10) hx hb hts hX7_knowersByVisitors_X7 hown hK hP 0 rfl rfl 5 (by decide) (hts _ kX7_knowersByVisitors_f47) (fun _ h9 => h9) rfl dX7_knowersByVisitors_73 ?_
          refine lv_iload hx hb dX7_knowersByVisitors_76 (lv_at hl 0 rfl) ?_
          refine ro_callV (As := [.int (kbc (pa 0) (x 0) (ps 0) (nI (reN x5 (ps 0))))]) (rest := []) (b := tk) ctx hKK hP (c_X6_afterDay l g tk (pn 0) (pn 1) (pn 2) (pn 3) (pn 4) (pn 5) (sa 0) (sa 1) (sa 2) (sa 3) (sa 4) (ps 0) (ps 1) (ps 2) (ps 3) (ps 4) dy (pa 0) (x 0) (kbc (pa 0) (x 0) (ps 0) (nI (reN x5 (ps 0)))) (by omega)) gX7_knowersByVisitors_X6_afterDay rfl rfl rfl hdX6_afterDay ⟨Nat.le_of_ble_eq_true rfl, Nat.le_of_ble_eq_true rfl⟩ [13, 2, 3, 8, 9] rfl (ci := 6) (q0 := 0) rfl rfl hl.1 rfl rfl (Nat.le_of_ble_eq_true rfl) dX7_knowersByVisitors_78 (fun r_8 hr_8 => ?_)
          subst hr_8
          refine lv_istore (lv' := [(4, .int (aDay (pa 0) (x 0) (ps 0) (kbc (pa 0) (x 0) (ps 0) (nI (reN x5 (ps 0)))))), (5, .int (nI (quN x5 (ps 0)))), (7, .int (nI (reN x5 (ps 0)))), (6, .int (nI j)), (0, .ref th), (1, .int (nI d)), (2, .int (nI n)), (3, .int (nI way))]) hx hb dX7_knowersByVisitors_81 hl (by decide) rfl (fun ls hl => ?_)
          refine lv_iinc (v := nI (j + 1)) (lv' := [(6, .int (nI (j + 1))), (4, .int (aDay (pa 0) (x 0) (ps 0) (kbc (pa 0) (x 0) (ps 0) (nI (reN x5 (ps 0)))))), (5, .int (nI (quN x5 (ps 0)))), (7, .int (nI (reN x5 (ps 0)))), (0, .ref th), (1, .int (nI d)), (2, .int (nI n)), (3, .int (nI way))]) hx hb dX7_knowersByVisitors_83 hl (k := 3) rfl (iincK j 1) (by decide) rfl (fun ls hl => ?_)
          refine lv_goto (tgt := 17) hx hb dX7_knowersByVisitors_86 (by decide) ?_
          exact ih17 (j + 1) (aDay (pa 0) (x 0) (ps 0) (kbc (pa 0) (x 0) (ps 0) (nI (reN x5 (ps 0))))) (quN x5 (ps 0)) (by omega) (by omega) (by simp only [kbv, ← ex4, ← ex5, c_1, c_5, if_true, if_false]; try rfl) (by simp only [kbv, ← ex4, ← ex5, c_1, c_5, if_true, if_false]; try rfl) ls (lv_sub hl [0, 2, 1, 4, 5, 6, 7] rfl)
  exact LP17 (n + 1) 0 ((x 2) d) way (by omega) (by omega) (rfl) (rfl) ls (lv_sub hl [0, 1, 2, 3, 4, 5, 6] rfl)
theorem kX7_person_f47 : (Cond.fieldLink RX7 47 "LastCallersWord" "talk" "LLastCallersWord$Talk;" : Cond) ∈ wsX7_person := List.mem_cons_of_mem _ aw_29
theorem hX7_person_X7 : ∀ w ∈ wsX70, w ∈ wsX7_person := fun w h => List.mem_cons_of_mem _ (ac_X7 w h)
theorem kX7_person_f32 : (Cond.fieldLink RX7 32 "LastCallersWord" "plan" "LLastCallersWord$Plan;" : Cond) ∈ wsX7_person := List.mem_cons_of_mem _ aw_21
theorem kX7_person_f116 : (Cond.fieldLink RX7 116 "LastCallersWord$Plan" "kinds" "[I" : Cond) ∈ wsX7_person := List.mem_cons_of_mem _ aw_430
theorem hX7_person_X1 : ∀ w ∈ wsX10, w ∈ wsX7_person := fun w h => List.mem_cons_of_mem _ (ac_X1 w h)
set_option maxHeartbeats 4000000 in
set_option maxRecDepth 100000 in
theorem c_X7_person (l : Launch) (g : GG) (th : Nat) (le : Nat → Nat) (dr : Nat → Nat) (rd : Nat) (pn : Nat → Nat) (sa : Nat → Nat) (tk : Nat) (sg : Nat → Nat) (us : Nat → Nat) (ks : Nat → Nat) (sk : Nat) (len : Nat) (pa : Nat → Nat → Int32) (ps : Nat → Nat) (x : Nat → Nat → Int32) (dy : Nat) (ga : Nat → Nat → Int32) (gz : Nat) (uk : Nat) (kk : Nat) (iv : Int32) (wv : Int32) (hP8 : ps 0 ≤ 8) (hD5 : ps 2 ≤ 5) (hW6 : ps 3 ≤ 6) (hgz : gz ≤ 8) : Met l yX7_person wsX7_person ({ frames := 4, cells := 0, slots := 0, locals := 92 } : Room) (ro g [.ref th, .int iv, .int wv] [(th, .inr (7, [.ref (le 0), .ref (dr 0), .ref rd, .ref (pn 0), .ref (sa 0), .ref tk, .ref (sg 0), .ref (us 0), .ref (ks 0), .ref sk])), (le 0, .inr (0, [.ref (le 1), .int (nI len)])), (pn 0, .inr (1, [.ref (pn 1), .ref (pn 2), .ref (pn 3), .ref (pn 4), .ref (pn 5), .int (nI (ps 0)), .int (nI (ps 1)), .int (nI (ps 2)), .int (nI (ps 3)), .int (nI (ps 4))])), (pn 1, .inl (g.2.1, 8, .inl (pa 0))), (pn 2, .inl (g.2.1, 64, .inl (pa 1))), (pn 3, .inl (g.2.1, 5, .inl (pa 2))), (pn 4, .inl (g.2.1, 5, .inl (pa 3))), (pn 5, .inl (g.2.1, 6, .inl (pa 4))), (sa 0, .inr (5, [.ref (sa 1), .ref (sa 2), .ref (sa 3), .ref (sa 4), .int (nI dy)])), (sa 1, .inl (g.2.1, 64, .inl (x 0))), (sa 2, .inl (g.2.1, 5, .inl (x 1))), (sa 3, .inl (g.2.1, 5, .inl (x 2))), (sa 4, .inl (g.2.1, 40, .inl (x 3))), (tk, .inr (6, [.ref (pn 0), .ref (sa 0)])), (sg 0, .inr (4, [.ref (sg 1), .ref (sg 2), .ref (sg 3), .int (nI gz)])), (sg 1, .inl (g.2.1, 8, .inl (ga 0))), (sg 2, .inl (g.2.1, 8, .inl (ga 1))), (sg 3, .inl (g.2.1, 8, .inl (ga 2))), (us 0, .inr (3, [.ref (us 1), .int (nI uk)])), (ks 0, .inr (3, [.ref (ks 1), .int (nI kk)]))]) (vp_Si (fun rr => rr = xPerson pa ps x iv wv)) 0 0 (fun _ => False) := by
  refine ro_start (cc := cX7_person) (maxL := 3) (ty := .int) (by decide) rfl (Nat.le_of_ble_eq_true rfl) (fun p e s m args below meth c Q C hP hret ls hl => ?_)
  obtain ⟨hx, hb, hml, hr, hown, hts, hlk, hKK⟩ := id C
  have hK := hKK.1
  have hown : s.vm.findClass RX7 = some m.cls := hown
  have ctx : CallFix p m c cX7_person 3 s args wsX7_person RX7 := ⟨hx, hb, hml, hown, hts⟩
  have hl : lv_has ls 3 [(0, .ref th), (1, .int iv), (2, .int wv)] := hl
  refine lv_aload_n hx hb dX7_person_0 rfl (lv_at hl 0 rfl) ?_
  refine lv_iload_n hx hb dX7_person_1 rfl (lv_at hl 1 rfl) ?_
  refine ro_callV (As := [.int iv]) (rest := []) (b := th) ctx hKK hP (c_X7_isPerson l g th le dr rd pn sa tk sg us ks sk len pa ps x dy ga gz uk kk iv (by omega) (by omega) (by omega) (by omega)) gX7_person_X7_isPerson rfl rfl rfl hdX7_isPerson ⟨Nat.le_of_ble_eq_true rfl, Nat.le_of_ble_eq_true rfl⟩ [0, 1, 2, 3, 4, 5, 6, 7, 8, 9, 10, 11, 12, 13, 14, 15, 16, 17, 18, 19] rfl (ci := 7) (q0 := 0) rfl rfl hl.1 rfl rfl (Nat.le_of_ble_eq_true rfl) dX7_person_2 (fun r_1 hr_1 => ?_)
  subst hr_1
  refine lv_if_eq (tgt := 15) hx hb dX7_person_5 (by decide) (fun c_2 => ?_) (fun c_2 => ?_)
  · replace c_2 := bI_f c_2
    refine lv_iconst (v := (-1)) hx hb dX7_person_15 (by decide) ?_
    exact hret (-1) 16 ls (by simp [xPerson, c_2, isPb_0]) (rfl) dX7_person_16
  · replace c_2 := bI_t c_2
    obtain ⟨i, hi, rfl⟩ := inPb_nat c_2 (by omega)
    refine lv_iload_n hx hb dX7_person_8 rfl (lv_at hl 2 rfl) ?_
    refine ro_callS (As := [.int wv]) (rest := []) ctx hKK hP (c_X7_isPart l g wv) gX7_person_X7_isPart rfl rfl rfl hdX7_isPart ⟨Nat.le_of_ble_eq_true rfl, Nat.le_of_ble_eq_true rfl⟩ [] rfl hl.1 rfl rfl (Nat.le_of_ble_eq_true rfl) dX7_person_9 (fun r_3 hr_3 => ?_)
    subst hr_3
    refine lv_if_ne (tgt := 17) hx hb dX7_person_12 (by decide) (fun c_4 => ?_) (fun c_4 => ?_)
    · replace c_4 := bI_t c_4
      refine lv_iload_n hx hb dX7_person_17 rfl (lv_at hl 2 rfl) ?_
      refine lv_if_ne (tgt := 33) hx hb dX7_person_18 (by decide) (fun c_5 => ?_) (fun c_5 => ?_)
      · refine lv_aload_n hx hb dX7_person_33 rfl (lv_at hl 0 rfl) ?_
        refine va_get (D := g.1) (cl := vwCl) (ci := 7) (v := .ref tk) (C := RX7) (T := TX7) (N := 10) hx hb hts hX7_person_X7 hown hK hP 0 rfl rfl 5 (by decide) (hts _ kX7_person_f47) (fun _ h9 => h9) rfl dX7_person_34 ?_
        refine lv_iload_n hx hb dX7_person_37 rfl (lv_at hl 1 rfl) ?_
        refine ro_callV (As := [.int (nI i)]) (rest := []) (b := tk) ctx hKK hP (c_X6_listeners l g tk (pn 0) (pn 1) (pn 2) (pn 3) (pn 4) (pn 5) (sa 0) (sa 1) (sa 2) (sa 3) (sa 4) (ps 0) (ps 1) (ps 2) (ps 3) (ps 4) dy (pa 0) (x 0) (nI i) (by omega)) gX7_person_X6_listeners rfl rfl rfl hdX6_listeners ⟨Nat.le_of_ble_eq_true rfl, Nat.le_of_ble_eq_true rfl⟩ [13, 2, 3, 8, 9] rfl (ci := 6) (q0 := 0) rfl rfl hl.1 rfl rfl (Nat.le_of_ble_eq_true rfl) dX7_person_38 (fun r_6 hr_6 => ?_)
        subst hr_6
        refine ro_callS (As := [.int (lst (pa 0) (x 0) (ps 0) (nI i))]) (rest := []) ctx hKK hP (c_J6_bitCount_0f7a4 l g (lst (pa 0) (x 0) (ps 0) (nI i))) gX7_person_J6_bitCount_0f7a4 rfl rfl rfl hdJ6_bitCount_0f7a4 ⟨Nat.le_of_ble_eq_true rfl, Nat.le_of_ble_eq_true rfl⟩ [] rfl hl.1 rfl rfl (Nat.le_of_ble_eq_true rfl) dX7_person_41 (fun r_7 hr_7 => ?_)
        subst hr_7
        exact hret (bcI (lst (pa 0) (x 0) (ps 0) (nI i))) 44 ls (by simp [xPerson, c_2, c_4, c_5, nI_clamp (show i < 2 ^ 31 by omega), isPb_0]) (rfl) dX7_person_44
      · refine lv_aload_n hx hb dX7_person_21 rfl (lv_at hl 0 rfl) ?_
        refine va_get (D := g.1) (cl := vwCl) (ci := 7) (v := .ref (pn 0)) (C := RX7) (T := TX7) (N := 10) hx hb hts hX7_person_X7 hown hK hP 0 rfl rfl 3 (by decide) (hts _ kX7_person_f32) (fun _ h9 => h9) rfl dX7_person_22 ?_
        refine va_get (D := g.1) (cl := vwCl) (ci := 1) (v := .ref (pn 1)) (C := RX1) (T := TX1) (N := 10) hx hb hts hX7_person_X1 hown hK hP 2 rfl rfl 0 (by decide) (hts _ kX7_person_f116) (fun _ h9 => h9) rfl dX7_person_25 ?_
        refine lv_iload_n hx hb dX7_person_28 rfl (lv_at hl 1 rfl) ?_
        refine ald_i (D := g.1) (cl := vwCl) (f := pa 0) (i := i) (n := 8) hx hb hK hP 3 0 rfl rfl (by omega) (by decide) dX7_person_29 ?_
        refine lv_goto (tgt := 44) hx hb dX7_person_30 (by decide) ?_
        exact hret ((pa 0) i) 44 ls (by simp [xPerson, c_2, c_4, c_5, nI_clamp (show i < 2 ^ 31 by omega), isPb_0]) (rfl) dX7_person_44
    · replace c_4 := bI_f c_4
      refine lv_iconst (v := (-1)) hx hb dX7_person_15 (by decide) ?_
      exact hret (-1) 16 ls (by simp [xPerson, c_2, c_4, nI_clamp (show i < 2 ^ 31 by omega), isPb_0]) (rfl) dX7_person_16
theorem kX7_likes_f38 : (Cond.fieldLink RX7 38 "LastCallersWord" "state" "LLastCallersWord$State;" : Cond) ∈ wsX7_likes := List.mem_cons_of_mem _ aw_25
theorem hX7_likes_X7 : ∀ w ∈ wsX70, w ∈ wsX7_likes := fun w h => List.mem_cons_of_mem _ (ac_X7 w h)
theorem kX7_likes_f128 : (Cond.fieldLink RX7 128 "LastCallersWord$State" "likings" "[I" : Cond) ∈ wsX7_likes := List.mem_cons_of_mem _ aw_464
theorem hX7_likes_X5 : ∀ w ∈ wsX50, w ∈ wsX7_likes := fun w h => List.mem_cons_of_mem _ (ac_X5 w h)
set_option maxHeartbeats 4000000 in
set_option maxRecDepth 100000 in
theorem c_X7_likes (l : Launch) (g : GG) (th : Nat) (le : Nat → Nat) (dr : Nat → Nat) (rd : Nat) (pn : Nat → Nat) (sa : Nat → Nat) (tk : Nat) (sg : Nat → Nat) (us : Nat → Nat) (ks : Nat → Nat) (sk : Nat) (len : Nat) (pa : Nat → Nat → Int32) (ps : Nat → Nat) (x : Nat → Nat → Int32) (dy : Nat) (ga : Nat → Nat → Int32) (gz : Nat) (uk : Nat) (kk : Nat) (iv : Int32) (jv : Int32) (hP8 : ps 0 ≤ 8) (hD5 : ps 2 ≤ 5) (hW6 : ps 3 ≤ 6) (hgz : gz ≤ 8) : Met l yX7_likes wsX7_likes ({ frames := 1, cells := 0, slots := 0, locals := 21 } : Room) (ro g [.ref th, .int iv, .int jv] [(th, .inr (7, [.ref (le 0), .ref (dr 0), .ref rd, .ref (pn 0), .ref (sa 0), .ref tk, .ref (sg 0), .ref (us 0), .ref (ks 0), .ref sk])), (le 0, .inr (0, [.ref (le 1), .int (nI len)])), (pn 0, .inr (1, [.ref (pn 1), .ref (pn 2), .ref (pn 3), .ref (pn 4), .ref (pn 5), .int (nI (ps 0)), .int (nI (ps 1)), .int (nI (ps 2)), .int (nI (ps 3)), .int (nI (ps 4))])), (pn 1, .inl (g.2.1, 8, .inl (pa 0))), (pn 2, .inl (g.2.1, 64, .inl (pa 1))), (pn 3, .inl (g.2.1, 5, .inl (pa 2))), (pn 4, .inl (g.2.1, 5, .inl (pa 3))), (pn 5, .inl (g.2.1, 6, .inl (pa 4))), (sa 0, .inr (5, [.ref (sa 1), .ref (sa 2), .ref (sa 3), .ref (sa 4), .int (nI dy)])), (sa 1, .inl (g.2.1, 64, .inl (x 0))), (sa 2, .inl (g.2.1, 5, .inl (x 1))), (sa 3, .inl (g.2.1, 5, .inl (x 2))), (sa 4, .inl (g.2.1, 40, .inl (x 3))), (tk, .inr (6, [.ref (pn 0), .ref (sa 0)])), (sg 0, .inr (4, [.ref (sg 1), .ref (sg 2), .ref (sg 3), .int (nI gz)])), (sg 1, .inl (g.2.1, 8, .inl (ga 0))), (sg 2, .inl (g.2.1, 8, .inl (ga 1))), (sg 3, .inl (g.2.1, 8, .inl (ga 2))), (us 0, .inr (3, [.ref (us 1), .int (nI uk)])), (ks 0, .inr (3, [.ref (ks 1), .int (nI kk)]))]) (vp_Si (fun rr => rr = xLikes ps x iv jv)) 0 0 (fun _ => False) := by
  refine ro_start (cc := cX7_likes) (maxL := 3) (ty := .int) (by decide) rfl (Nat.le_of_ble_eq_true rfl) (fun p e s m args below meth c Q C hP hret ls hl => ?_)
  obtain ⟨hx, hb, hml, hr, hown, hts, hlk, hKK⟩ := id C
  have hK := hKK.1
  have hown : s.vm.findClass RX7 = some m.cls := hown
  have ctx : CallFix p m c cX7_likes 3 s args wsX7_likes RX7 := ⟨hx, hb, hml, hown, hts⟩
  have hl : lv_has ls 3 [(0, .ref th), (1, .int iv), (2, .int jv)] := hl
  refine lv_aload_n hx hb dX7_likes_0 rfl (lv_at hl 0 rfl) ?_
  refine lv_iload_n hx hb dX7_likes_1 rfl (lv_at hl 1 rfl) ?_
  refine ro_callV (As := [.int iv]) (rest := []) (b := th) ctx hKK hP (c_X7_isPerson l g th le dr rd pn sa tk sg us ks sk len pa ps x dy ga gz uk kk iv (by omega) (by omega) (by omega) (by omega)) gX7_likes_X7_isPerson rfl rfl rfl hdX7_isPerson ⟨Nat.le_of_ble_eq_true rfl, Nat.le_of_ble_eq_true rfl⟩ [0, 1, 2, 3, 4, 5, 6, 7, 8, 9, 10, 11, 12, 13, 14, 15, 16, 17, 18, 19] rfl (ci := 7) (q0 := 0) rfl rfl hl.1 rfl rfl (Nat.le_of_ble_eq_true rfl) dX7_likes_2 (fun r_1 hr_1 => ?_)
  subst hr_1
  refine lv_if_eq (tgt := 16) hx hb dX7_likes_5 (by decide) (fun c_2 => ?_) (fun c_2 => ?_)
  · replace c_2 := bI_f c_2
    refine lv_iconst (v := (-1)) hx hb dX7_likes_16 (by decide) ?_
    exact hret (-1) 17 ls (by simp [xLikes, c_2]) (rfl) dX7_likes_17
  · replace c_2 := bI_t c_2
    obtain ⟨i, hi, rfl⟩ := inPb_nat c_2 (by omega)
    refine lv_aload_n hx hb dX7_likes_8 rfl (lv_at hl 0 rfl) ?_
    refine lv_iload_n hx hb dX7_likes_9 rfl (lv_at hl 2 rfl) ?_
    refine ro_callV (As := [.int jv]) (rest := []) (b := th) ctx hKK hP (c_X7_isPerson l g th le dr rd pn sa tk sg us ks sk len pa ps x dy ga gz uk kk jv (by omega) (by omega) (by omega) (by omega)) gX7_likes_X7_isPerson rfl rfl rfl hdX7_isPerson ⟨Nat.le_of_ble_eq_true rfl, Nat.le_of_ble_eq_true rfl⟩ [0, 1, 2, 3, 4, 5, 6, 7, 8, 9, 10, 11, 12, 13, 14, 15, 16, 17, 18, 19] rfl (ci := 7) (q0 := 0) rfl rfl hl.1 rfl rfl (Nat.le_of_ble_eq_true rfl) dX7_likes_10 (fun r_3 hr_3 => ?_)
    subst hr_3
    refine lv_if_ne (tgt := 18) hx hb dX7_likes_13 (by decide) (fun c_4 => ?_) (fun c_4 => ?_)
    · replace c_4 := bI_t c_4
      obtain ⟨j, hj, rfl⟩ := inPb_nat c_4 (by omega)
      refine lv_aload_n hx hb dX7_likes_18 rfl (lv_at hl 0 rfl) ?_
      refine va_get (D := g.1) (cl := vwCl) (ci := 7) (v := .ref (sa 0)) (C := RX7) (T := TX7) (N := 10) hx hb hts hX7_likes_X7 hown hK hP 0 rfl rfl 4 (by decide) (hts _ kX7_likes_f38) (fun _ h9 => h9) rfl dX7_likes_19 ?_
      refine va_get (D := g.1) (cl := vwCl) (ci := 5) (v := .ref (sa 1)) (C := RX5) (T := TX5) (N := 5) hx hb hts hX7_likes_X5 hown hK hP 8 rfl rfl 0 (by decide) (hts _ kX7_likes_f128) (fun _ h9 => h9) rfl dX7_likes_22 ?_
      refine lv_iload_n hx hb dX7_likes_25 rfl (lv_at hl 1 rfl) ?_
      refine lv_iload_n hx hb dX7_likes_26 rfl (lv_at hl 2 rfl) ?_
      refine ro_callS (As := [.int (nI i), .int (nI j)]) (rest := [.ref (sa 1)]) ctx hKK hP (c_X7_pair l g i j) gX7_likes_X7_pair rfl rfl rfl hdX7_pair ⟨Nat.le_of_ble_eq_true rfl, Nat.le_of_ble_eq_true rfl⟩ [] rfl hl.1 rfl rfl (Nat.le_of_ble_eq_true rfl) dX7_likes_27 (fun r_5 hr_5 => ?_)
      subst hr_5
      refine ald_i (D := g.1) (cl := vwCl) (f := x 0) (i := i * 8 + j) (n := 64) hx hb hK hP 9 0 rfl rfl (by omega) (by decide) dX7_likes_30 ?_
      exact hret ((x 0) (i * 8 + j)) 31 ls (by simp [xLikes, c_2, c_4, nI_clamp (show i < 2 ^ 31 by omega), nI_clamp (show j < 2 ^ 31 by omega)]) (rfl) dX7_likes_31
    · replace c_4 := bI_f c_4
      refine lv_iconst (v := (-1)) hx hb dX7_likes_16 (by decide) ?_
      exact hret (-1) 17 ls (by simp [xLikes, c_2, c_4, nI_clamp (show i < 2 ^ 31 by omega)]) (rfl) dX7_likes_17
theorem kX7_door_f32 : (Cond.fieldLink RX7 32 "LastCallersWord" "plan" "LLastCallersWord$Plan;" : Cond) ∈ wsX7_door := List.mem_cons_of_mem _ aw_21
theorem hX7_door_X7 : ∀ w ∈ wsX70, w ∈ wsX7_door := fun w h => List.mem_cons_of_mem _ (ac_X7 w h)
theorem kX7_door_f138 : (Cond.fieldLink RX7 138 "LastCallersWord$Plan" "hosts" "[I" : Cond) ∈ wsX7_door := List.mem_cons_of_mem _ aw_472
theorem hX7_door_X1 : ∀ w ∈ wsX10, w ∈ wsX7_door := fun w h => List.mem_cons_of_mem _ (ac_X1 w h)
theorem kX7_door_f38 : (Cond.fieldLink RX7 38 "LastCallersWord" "state" "LLastCallersWord$State;" : Cond) ∈ wsX7_door := List.mem_cons_of_mem _ aw_25
theorem kX7_door_f141 : (Cond.fieldLink RX7 141 "LastCallersWord$State" "callers" "[I" : Cond) ∈ wsX7_door := List.mem_cons_of_mem _ aw_473
theorem hX7_door_X5 : ∀ w ∈ wsX50, w ∈ wsX7_door := fun w h => List.mem_cons_of_mem _ (ac_X5 w h)
theorem kX7_door_f144 : (Cond.fieldLink RX7 144 "LastCallersWord$State" "knowers" "[I" : Cond) ∈ wsX7_door := List.mem_cons_of_mem _ aw_223
set_option maxHeartbeats 4000000 in
set_option maxRecDepth 100000 in
theorem c_X7_door (l : Launch) (g : GG) (th : Nat) (le : Nat → Nat) (dr : Nat → Nat) (rd : Nat) (pn : Nat → Nat) (sa : Nat → Nat) (tk : Nat) (sg : Nat → Nat) (us : Nat → Nat) (ks : Nat → Nat) (sk : Nat) (len : Nat) (pa : Nat → Nat → Int32) (ps : Nat → Nat) (x : Nat → Nat → Int32) (dy : Nat) (ga : Nat → Nat → Int32) (gz : Nat) (uk : Nat) (kk : Nat) (dv : Int32) (wv : Int32) (hP8 : ps 0 ≤ 8) (hD5 : ps 2 ≤ 5) (hW6 : ps 3 ≤ 6) (hgz : gz ≤ 8) : Met l yX7_door wsX7_door ({ frames := 3, cells := 0, slots := 0, locals := 66 } : Room) (ro g [.ref th, .int dv, .int wv] [(th, .inr (7, [.ref (le 0), .ref (dr 0), .ref rd, .ref (pn 0), .ref (sa 0), .ref tk, .ref (sg 0), .ref (us 0), .ref (ks 0), .ref sk])), (le 0, .inr (0, [.ref (le 1), .int (nI len)])), (pn 0, .inr (1, [.ref (pn 1), .ref (pn 2), .ref (pn 3), .ref (pn 4), .ref (pn 5), .int (nI (ps 0)), .int (nI (ps 1)), .int (nI (ps 2)), .int (nI (ps 3)), .int (nI (ps 4))])), (pn 1, .inl (g.2.1, 8, .inl (pa 0))), (pn 2, .inl (g.2.1, 64, .inl (pa 1))), (pn 3, .inl (g.2.1, 5, .inl (pa 2))), (pn 4, .inl (g.2.1, 5, .inl (pa 3))), (pn 5, .inl (g.2.1, 6, .inl (pa 4))), (sa 0, .inr (5, [.ref (sa 1), .ref (sa 2), .ref (sa 3), .ref (sa 4), .int (nI dy)])), (sa 1, .inl (g.2.1, 64, .inl (x 0))), (sa 2, .inl (g.2.1, 5, .inl (x 1))), (sa 3, .inl (g.2.1, 5, .inl (x 2))), (sa 4, .inl (g.2.1, 40, .inl (x 3))), (tk, .inr (6, [.ref (pn 0), .ref (sa 0)])), (sg 0, .inr (4, [.ref (sg 1), .ref (sg 2), .ref (sg 3), .int (nI gz)])), (sg 1, .inl (g.2.1, 8, .inl (ga 0))), (sg 2, .inl (g.2.1, 8, .inl (ga 1))), (sg 3, .inl (g.2.1, 8, .inl (ga 2))), (us 0, .inr (3, [.ref (us 1), .int (nI uk)])), (ks 0, .inr (3, [.ref (ks 1), .int (nI kk)]))]) (vp_Si (fun rr => rr = xDoor pa ps x dv wv)) 0 0 (fun _ => False) := by
  refine ro_start (cc := cX7_door) (maxL := 3) (ty := .int) (by decide) rfl (Nat.le_of_ble_eq_true rfl) (fun p e s m args below meth c Q C hP hret ls hl => ?_)
  obtain ⟨hx, hb, hml, hr, hown, hts, hlk, hKK⟩ := id C
  have hK := hKK.1
  have hown : s.vm.findClass RX7 = some m.cls := hown
  have ctx : CallFix p m c cX7_door 3 s args wsX7_door RX7 := ⟨hx, hb, hml, hown, hts⟩
  have hl : lv_has ls 3 [(0, .ref th), (1, .int dv), (2, .int wv)] := hl
  refine lv_aload_n hx hb dX7_door_0 rfl (lv_at hl 0 rfl) ?_
  refine lv_iload_n hx hb dX7_door_1 rfl (lv_at hl 1 rfl) ?_
  refine ro_callV (As := [.int dv]) (rest := []) (b := th) ctx hKK hP (c_X7_isDoor l g th le dr rd pn sa tk sg us ks sk len pa ps x dy ga gz uk kk dv (by omega) (by omega) (by omega) (by omega)) gX7_door_X7_isDoor rfl rfl rfl hdX7_isDoor ⟨Nat.le_of_ble_eq_true rfl, Nat.le_of_ble_eq_true rfl⟩ [0, 1, 2, 3, 4, 5, 6, 7, 8, 9, 10, 11, 12, 13, 14, 15, 16, 17, 18, 19] rfl (ci := 7) (q0 := 0) rfl rfl hl.1 rfl rfl (Nat.le_of_ble_eq_true rfl) dX7_door_2 (fun r_1 hr_1 => ?_)
  subst hr_1
  refine lv_if_ne (tgt := 10) hx hb dX7_door_5 (by decide) (fun c_2 => ?_) (fun c_2 => ?_)
  · replace c_2 := bI_t c_2
    obtain ⟨d, hd, rfl⟩ := inPb_nat c_2 (by omega)
    refine lv_iload_n hx hb dX7_door_10 rfl (lv_at hl 2 rfl) ?_
    by_cases c_3 : wv = nI 0
    · refine lv_tableIn (x := wv) (off := 29) (tgt := 40) hx hb dX7_door_11 (by rw [c_3]; decide) (by rw [c_3]; decide) (by rw [c_3]; rfl) (by decide) ?_
      refine lv_aload_n hx hb dX7_door_40 rfl (lv_at hl 0 rfl) ?_
      refine va_get (D := g.1) (cl := vwCl) (ci := 7) (v := .ref (pn 0)) (C := RX7) (T := TX7) (N := 10) hx hb hts hX7_door_X7 hown hK hP 0 rfl rfl 3 (by decide) (hts _ kX7_door_f32) (fun _ h9 => h9) rfl dX7_door_41 ?_
      refine va_get (D := g.1) (cl := vwCl) (ci := 1) (v := .ref (pn 3)) (C := RX1) (T := TX1) (N := 10) hx hb hts hX7_door_X1 hown hK hP 2 rfl rfl 2 (by decide) (hts _ kX7_door_f138) (fun _ h9 => h9) rfl dX7_door_44 ?_
      refine lv_iload_n hx hb dX7_door_47 rfl (lv_at hl 1 rfl) ?_
      refine ald_i (D := g.1) (cl := vwCl) (f := pa 2) (i := d) (n := 5) hx hb hK hP 5 0 rfl rfl (by omega) (by decide) dX7_door_48 ?_
      exact hret ((pa 2) d) 49 ls (by simp (decide := true) [xDoor, c_2, c_3, nI_clamp (show d < 2 ^ 31 by omega)]) (rfl) dX7_door_49
    by_cases c_4 : wv = nI 1
    · refine lv_tableIn (x := wv) (off := 39) (tgt := 50) hx hb dX7_door_11 (by rw [c_4]; decide) (by rw [c_4]; decide) (by rw [c_4]; rfl) (by decide) ?_
      refine lv_aload_n hx hb dX7_door_50 rfl (lv_at hl 0 rfl) ?_
      refine va_get (D := g.1) (cl := vwCl) (ci := 7) (v := .ref (sa 0)) (C := RX7) (T := TX7) (N := 10) hx hb hts hX7_door_X7 hown hK hP 0 rfl rfl 4 (by decide) (hts _ kX7_door_f38) (fun _ h9 => h9) rfl dX7_door_51 ?_
      refine va_get (D := g.1) (cl := vwCl) (ci := 5) (v := .ref (sa 2)) (C := RX5) (T := TX5) (N := 5) hx hb hts hX7_door_X5 hown hK hP 8 rfl rfl 1 (by decide) (hts _ kX7_door_f141) (fun _ h9 => h9) rfl dX7_door_54 ?_
      refine lv_iload_n hx hb dX7_door_57 rfl (lv_at hl 1 rfl) ?_
      refine ald_i (D := g.1) (cl := vwCl) (f := x 1) (i := d) (n := 5) hx hb hK hP 10 0 rfl rfl (by omega) (by decide) dX7_door_58 ?_
      exact hret ((x 1) d) 59 ls (by simp (decide := true) [xDoor, c_2, c_3, c_4, nI_clamp (show d < 2 ^ 31 by omega)]) (rfl) dX7_door_59
    by_cases c_5 : wv = nI 2
    · refine lv_tableIn (x := wv) (off := 49) (tgt := 60) hx hb dX7_door_11 (by rw [c_5]; decide) (by rw [c_5]; decide) (by rw [c_5]; rfl) (by decide) ?_
      refine lv_aload_n hx hb dX7_door_60 rfl (lv_at hl 0 rfl) ?_
      refine va_get (D := g.1) (cl := vwCl) (ci := 7) (v := .ref (sa 0)) (C := RX7) (T := TX7) (N := 10) hx hb hts hX7_door_X7 hown hK hP 0 rfl rfl 4 (by decide) (hts _ kX7_door_f38) (fun _ h9 => h9) rfl dX7_door_61 ?_
      refine va_get (D := g.1) (cl := vwCl) (ci := 5) (v := .ref (sa 3)) (C := RX5) (T := TX5) (N := 5) hx hb hts hX7_door_X5 hown hK hP 8 rfl rfl 2 (by decide) (hts _ kX7_door_f144) (fun _ h9 => h9) rfl dX7_door_64 ?_
      refine lv_iload_n hx hb dX7_door_67 rfl (lv_at hl 1 rfl) ?_
      refine ald_i (D := g.1) (cl := vwCl) (f := x 2) (i := d) (n := 5) hx hb hK hP 11 0 rfl rfl (by omega) (by decide) dX7_door_68 ?_
      exact hret ((x 2) d) 69 ls (by simp (decide := true) [xDoor, c_2, c_3, c_4, c_5, nI_clamp (show d < 2 ^ 31 by omega)]) (rfl) dX7_door_69
    by_cases c_6 : wv = nI 3
    · refine lv_tableIn (x := wv) (off := 59) (tgt := 70) hx hb dX7_door_11 (by rw [c_6]; decide) (by rw [c_6]; decide) (by rw [c_6]; rfl) (by decide) ?_
      refine lv_aload_n hx hb dX7_door_70 rfl (lv_at hl 0 rfl) ?_
      refine lv_iload_n hx hb dX7_door_71 rfl (lv_at hl 1 rfl) ?_
      refine ro_callV (As := [.int (nI d)]) (rest := []) (b := th) ctx hKK hP (c_X7_barredAt l g th le dr rd pn sa tk sg us ks sk len pa ps x dy ga gz uk kk d (by omega) (by omega) (by omega) (by omega) (by omega)) gX7_door_X7_barredAt rfl rfl rfl hdX7_barredAt ⟨Nat.le_of_ble_eq_true rfl, Nat.le_of_ble_eq_true rfl⟩ [0, 1, 2, 3, 4, 5, 6, 7, 8, 9, 10, 11, 12, 13, 14, 15, 16, 17, 18, 19] rfl (ci := 7) (q0 := 0) rfl rfl hl.1 rfl rfl (Nat.le_of_ble_eq_true rfl) dX7_door_72 (fun r_7 hr_7 => ?_)
      subst hr_7
      exact hret (brB (x 3) (ps 4) d (ps 0)) 75 ls (by simp (decide := true) [xDoor, c_2, c_3, c_4, c_5, c_6, nI_clamp (show d < 2 ^ 31 by omega)]) (rfl) dX7_door_75
    refine lv_tableOut (x := wv) (tgt := 76) hx hb dX7_door_11 (swOut 3 (by decide) (fun k hk => by rcases (by omega : k = 0 ∨ k = 1 ∨ k = 2 ∨ k = 3) with rfl | rfl | rfl | rfl <;> assumption)) (by decide) ?_
    refine lv_iconst (v := (-1)) hx hb dX7_door_76 (by decide) ?_
    exact hret (-1) 77 ls (by simp (decide := true) [xDoor, c_2, c_3, c_4, c_5, c_6, nI_clamp (show d < 2 ^ 31 by omega)]) (rfl) dX7_door_77
  · replace c_2 := bI_f c_2
    refine lv_iconst (v := (-1)) hx hb dX7_door_8 (by decide) ?_
    exact hret (-1) 9 ls (by simp (decide := true) [xDoor, c_2]) (rfl) dX7_door_9
theorem kX7_shutOut_f38 : (Cond.fieldLink RX7 38 "LastCallersWord" "state" "LLastCallersWord$State;" : Cond) ∈ wsX7_shutOut := List.mem_cons_of_mem _ aw_25
theorem hX7_shutOut_X7 : ∀ w ∈ wsX70, w ∈ wsX7_shutOut := fun w h => List.mem_cons_of_mem _ (ac_X7 w h)
theorem kX7_shutOut_f144 : (Cond.fieldLink RX7 144 "LastCallersWord$State" "knowers" "[I" : Cond) ∈ wsX7_shutOut := List.mem_cons_of_mem _ aw_223
theorem hX7_shutOut_X5 : ∀ w ∈ wsX50, w ∈ wsX7_shutOut := fun w h => List.mem_cons_of_mem _ (ac_X5 w h)
set_option maxHeartbeats 4000000 in
set_option maxRecDepth 100000 in
theorem c_X7_shutOut (l : Launch) (g : GG) (th : Nat) (le : Nat → Nat) (dr : Nat → Nat) (rd : Nat) (pn : Nat → Nat) (sa : Nat → Nat) (tk : Nat) (sg : Nat → Nat) (us : Nat → Nat) (ks : Nat → Nat) (sk : Nat) (len : Nat) (pa : Nat → Nat → Int32) (ps : Nat → Nat) (x : Nat → Nat → Int32) (dy : Nat) (ga : Nat → Nat → Int32) (gz : Nat) (uk : Nat) (kk : Nat) (hP8 : ps 0 ≤ 8) (hD5 : ps 2 ≤ 5) (hW6 : ps 3 ≤ 6) (hgz : gz ≤ 8) : Met l yX7_shutOut wsX7_shutOut ({ frames := 2, cells := 0, slots := 0, locals := 44 } : Room) (ro g [.ref th] [(th, .inr (7, [.ref (le 0), .ref (dr 0), .ref rd, .ref (pn 0), .ref (sa 0), .ref tk, .ref (sg 0), .ref (us 0), .ref (ks 0), .ref sk])), (le 0, .inr (0, [.ref (le 1), .int (nI len)])), (pn 0, .inr (1, [.ref (pn 1), .ref (pn 2), .ref (pn 3), .ref (pn 4), .ref (pn 5), .int (nI (ps 0)), .int (nI (ps 1)), .int (nI (ps 2)), .int (nI (ps 3)), .int (nI (ps 4))])), (pn 1, .inl (g.2.1, 8, .inl (pa 0))), (pn 2, .inl (g.2.1, 64, .inl (pa 1))), (pn 3, .inl (g.2.1, 5, .inl (pa 2))), (pn 4, .inl (g.2.1, 5, .inl (pa 3))), (pn 5, .inl (g.2.1, 6, .inl (pa 4))), (sa 0, .inr (5, [.ref (sa 1), .ref (sa 2), .ref (sa 3), .ref (sa 4), .int (nI dy)])), (sa 1, .inl (g.2.1, 64, .inl (x 0))), (sa 2, .inl (g.2.1, 5, .inl (x 1))), (sa 3, .inl (g.2.1, 5, .inl (x 2))), (sa 4, .inl (g.2.1, 40, .inl (x 3))), (tk, .inr (6, [.ref (pn 0), .ref (sa 0)])), (sg 0, .inr (4, [.ref (sg 1), .ref (sg 2), .ref (sg 3), .int (nI gz)])), (sg 1, .inl (g.2.1, 8, .inl (ga 0))), (sg 2, .inl (g.2.1, 8, .inl (ga 1))), (sg 3, .inl (g.2.1, 8, .inl (ga 2))), (us 0, .inr (3, [.ref (us 1), .int (nI uk)])), (ks 0, .inr (3, [.ref (ks 1), .int (nI kk)]))]) (vp_Si (fun rr => rr = soB (pa 2) (x 2) (ps 2))) 0 0 (fun _ => False) := by
  refine ro_start (cc := cX7_shutOut) (maxL := 1) (ty := .int) (by decide) rfl (Nat.le_of_ble_eq_true rfl) (fun p e s m args below meth c Q C hP hret ls hl => ?_)
  obtain ⟨hx, hb, hml, hr, hown, hts, hlk, hKK⟩ := id C
  have hK := hKK.1
  have hown : s.vm.findClass RX7 = some m.cls := hown
  have ctx : CallFix p m c cX7_shutOut 1 s args wsX7_shutOut RX7 := ⟨hx, hb, hml, hown, hts⟩
  have hl : lv_has ls 1 [(0, .ref th)] := hl
  refine lv_aload_n hx hb dX7_shutOut_0 rfl (lv_at hl 0 rfl) ?_
  refine lv_aload_n hx hb dX7_shutOut_1 rfl (lv_at hl 0 rfl) ?_
  refine va_get (D := g.1) (cl := vwCl) (ci := 7) (v := .ref (sa 0)) (C := RX7) (T := TX7) (N := 10) hx hb hts hX7_shutOut_X7 hown hK hP 0 rfl rfl 4 (by decide) (hts _ kX7_shutOut_f38) (fun _ h9 => h9) rfl dX7_shutOut_2 ?_
  refine va_get (D := g.1) (cl := vwCl) (ci := 5) (v := .ref (sa 3)) (C := RX5) (T := TX5) (N := 5) hx hb hts hX7_shutOut_X5 hown hK hP 8 rfl rfl 2 (by decide) (hts _ kX7_shutOut_f144) (fun _ h9 => h9) rfl dX7_shutOut_5 ?_
  refine ro_callV (As := [.ref (sa 3)]) (rest := []) (b := th) ctx hKK hP (c_X7_shutOutBy l g th le dr rd pn sa tk sg us ks sk pa ps (sa 3) (x 2) (by omega)) gX7_shutOut_X7_shutOutBy rfl rfl rfl hdX7_shutOutBy ⟨Nat.le_of_ble_eq_true rfl, Nat.le_of_ble_eq_true rfl⟩ [0, 2, 5, 11] rfl (ci := 7) (q0 := 0) rfl rfl hl.1 rfl rfl (Nat.le_of_ble_eq_true rfl) dX7_shutOut_8 (fun r_1 hr_1 => ?_)
  subst hr_1
  exact hret (soB (pa 2) (x 2) (ps 2)) 11 ls (rfl) (rfl) dX7_shutOut_11
theorem kX7_knowsBy_f47 : (Cond.fieldLink RX7 47 "LastCallersWord" "talk" "LLastCallersWord$Talk;" : Cond) ∈ wsX7_knowsBy := List.mem_cons_of_mem _ aw_29
theorem hX7_knowsBy_X7 : ∀ w ∈ wsX70, w ∈ wsX7_knowsBy := fun w h => List.mem_cons_of_mem _ (ac_X7 w h)
theorem kX7_knowsBy_f38 : (Cond.fieldLink RX7 38 "LastCallersWord" "state" "LLastCallersWord$State;" : Cond) ∈ wsX7_knowsBy := List.mem_cons_of_mem _ aw_25
theorem kX7_knowsBy_f144 : (Cond.fieldLink RX7 144 "LastCallersWord$State" "knowers" "[I" : Cond) ∈ wsX7_knowsBy := List.mem_cons_of_mem _ aw_223
theorem hX7_knowsBy_X5 : ∀ w ∈ wsX50, w ∈ wsX7_knowsBy := fun w h => List.mem_cons_of_mem _ (ac_X5 w h)
set_option maxHeartbeats 4000000 in
set_option maxRecDepth 100000 in
theorem c_X7_knowsBy (l : Launch) (g : GG) (th : Nat) (le : Nat → Nat) (dr : Nat → Nat) (rd : Nat) (pn : Nat → Nat) (sa : Nat → Nat) (tk : Nat) (sg : Nat → Nat) (us : Nat → Nat) (ks : Nat → Nat) (sk : Nat) (len : Nat) (pa : Nat → Nat → Int32) (ps : Nat → Nat) (x : Nat → Nat → Int32) (dy : Nat) (ga : Nat → Nat → Int32) (gz : Nat) (uk : Nat) (kk : Nat) (dv : Int32) (nv : Int32) (hP8 : ps 0 ≤ 8) (hD5 : ps 2 ≤ 5) (hW6 : ps 3 ≤ 6) (hgz : gz ≤ 8) : Met l yX7_knowsBy wsX7_knowsBy ({ frames := 4, cells := 0, slots := 0, locals := 94 } : Room) (ro g [.ref th, .int dv, .int nv] [(th, .inr (7, [.ref (le 0), .ref (dr 0), .ref rd, .ref (pn 0), .ref (sa 0), .ref tk, .ref (sg 0), .ref (us 0), .ref (ks 0), .ref sk])), (le 0, .inr (0, [.ref (le 1), .int (nI len)])), (pn 0, .inr (1, [.ref (pn 1), .ref (pn 2), .ref (pn 3), .ref (pn 4), .ref (pn 5), .int (nI (ps 0)), .int (nI (ps 1)), .int (nI (ps 2)), .int (nI (ps 3)), .int (nI (ps 4))])), (pn 1, .inl (g.2.1, 8, .inl (pa 0))), (pn 2, .inl (g.2.1, 64, .inl (pa 1))), (pn 3, .inl (g.2.1, 5, .inl (pa 2))), (pn 4, .inl (g.2.1, 5, .inl (pa 3))), (pn 5, .inl (g.2.1, 6, .inl (pa 4))), (sa 0, .inr (5, [.ref (sa 1), .ref (sa 2), .ref (sa 3), .ref (sa 4), .int (nI dy)])), (sa 1, .inl (g.2.1, 64, .inl (x 0))), (sa 2, .inl (g.2.1, 5, .inl (x 1))), (sa 3, .inl (g.2.1, 5, .inl (x 2))), (sa 4, .inl (g.2.1, 40, .inl (x 3))), (tk, .inr (6, [.ref (pn 0), .ref (sa 0)])), (sg 0, .inr (4, [.ref (sg 1), .ref (sg 2), .ref (sg 3), .int (nI gz)])), (sg 1, .inl (g.2.1, 8, .inl (ga 0))), (sg 2, .inl (g.2.1, 8, .inl (ga 1))), (sg 3, .inl (g.2.1, 8, .inl (ga 2))), (us 0, .inr (3, [.ref (us 1), .int (nI uk)])), (ks 0, .inr (3, [.ref (ks 1), .int (nI kk)]))]) (vp_Si (fun rr => rr = xKnowsBy pa ps x dv nv)) 0 0 (fun _ => False) := by
  refine ro_start (cc := cX7_knowsBy) (maxL := 3) (ty := .int) (by decide) rfl (Nat.le_of_ble_eq_true rfl) (fun p e s m args below meth c Q C hP hret ls hl => ?_)
  obtain ⟨hx, hb, hml, hr, hown, hts, hlk, hKK⟩ := id C
  have hK := hKK.1
  have hown : s.vm.findClass RX7 = some m.cls := hown
  have ctx : CallFix p m c cX7_knowsBy 3 s args wsX7_knowsBy RX7 := ⟨hx, hb, hml, hown, hts⟩
  have hl : lv_has ls 3 [(0, .ref th), (1, .int dv), (2, .int nv)] := hl
  refine lv_aload_n hx hb dX7_knowsBy_0 rfl (lv_at hl 0 rfl) ?_
  refine lv_iload_n hx hb dX7_knowsBy_1 rfl (lv_at hl 1 rfl) ?_
  refine ro_callV (As := [.int dv]) (rest := []) (b := th) ctx hKK hP (c_X7_isDoor l g th le dr rd pn sa tk sg us ks sk len pa ps x dy ga gz uk kk dv (by omega) (by omega) (by omega) (by omega)) gX7_knowsBy_X7_isDoor rfl rfl rfl hdX7_isDoor ⟨Nat.le_of_ble_eq_true rfl, Nat.le_of_ble_eq_true rfl⟩ [0, 1, 2, 3, 4, 5, 6, 7, 8, 9, 10, 11, 12, 13, 14, 15, 16, 17, 18, 19] rfl (ci := 7) (q0 := 0) rfl rfl hl.1 rfl rfl (Nat.le_of_ble_eq_true rfl) dX7_knowsBy_2 (fun r_1 hr_1 => ?_)
  subst hr_1
  refine lv_if_eq (tgt := 18) hx hb dX7_knowsBy_5 (by decide) (fun c_2 => ?_) (fun c_2 => ?_)
  · replace c_2 := bI_f c_2
    refine lv_iconst (v := (-1)) hx hb dX7_knowsBy_18 (by decide) ?_
    exact hret (-1) 19 ls (by simp [xKnowsBy, c_2]) (rfl) dX7_knowsBy_19
  · replace c_2 := bI_t c_2
    obtain ⟨d, hd, rfl⟩ := inPb_nat c_2 (by omega)
    refine lv_iload_n hx hb dX7_knowsBy_8 rfl (lv_at hl 2 rfl) ?_
    refine lv_if_lt (tgt := 18) hx hb dX7_knowsBy_9 (by decide) (fun c_3 => ?_) (fun c_3 => ?_)
    · refine lv_iconst (v := (-1)) hx hb dX7_knowsBy_18 (by decide) ?_
      exact hret (-1) 19 ls (by simp [xKnowsBy, c_2, c_3, nI_clamp (show d < 2 ^ 31 by omega)]) (rfl) dX7_knowsBy_19
    · refine lv_iload_n hx hb dX7_knowsBy_12 rfl (lv_at hl 2 rfl) ?_
      refine lv_bipush (v := nI 20) hx hb dX7_knowsBy_13 (by decide) ?_
      refine lv_icmp_le (tgt := 20) hx hb dX7_knowsBy_15 (by decide) (fun c_4 => ?_) (fun c_4 => ?_)
      · obtain ⟨n, hn, rfl⟩ := rng_nat (n := 20) (by assumption) c_4 (by decide)
        refine lv_aload_n hx hb dX7_knowsBy_20 rfl (lv_at hl 0 rfl) ?_
        refine va_get (D := g.1) (cl := vwCl) (ci := 7) (v := .ref tk) (C := RX7) (T := TX7) (N := 10) hx hb hts hX7_knowsBy_X7 hown hK hP 0 rfl rfl 5 (by decide) (hts _ kX7_knowsBy_f47) (fun _ h9 => h9) rfl dX7_knowsBy_21 ?_
        refine lv_aload_n hx hb dX7_knowsBy_24 rfl (lv_at hl 0 rfl) ?_
        refine va_get (D := g.1) (cl := vwCl) (ci := 7) (v := .ref (sa 0)) (C := RX7) (T := TX7) (N := 10) hx hb hts hX7_knowsBy_X7 hown hK hP 0 rfl rfl 4 (by decide) (hts _ kX7_knowsBy_f38) (fun _ h9 => h9) rfl dX7_knowsBy_25 ?_
        refine va_get (D := g.1) (cl := vwCl) (ci := 5) (v := .ref (sa 3)) (C := RX5) (T := TX5) (N := 5) hx hb hts hX7_knowsBy_X5 hown hK hP 8 rfl rfl 2 (by decide) (hts _ kX7_knowsBy_f144) (fun _ h9 => h9) rfl dX7_knowsBy_28 ?_
        refine lv_iload_n hx hb dX7_knowsBy_31 rfl (lv_at hl 1 rfl) ?_
        refine ald_i (D := g.1) (cl := vwCl) (f := x 2) (i := d) (n := 5) hx hb hK hP 11 0 rfl rfl (by omega) (by decide) dX7_knowsBy_32 ?_
        refine lv_iload_n hx hb dX7_knowsBy_33 rfl (lv_at hl 2 rfl) ?_
        refine ro_callV (As := [.int ((x 2) d), .int (nI n)]) (rest := []) (b := tk) ctx hKK hP (c_X6_afterDays l g tk (pn 0) (pn 1) (pn 2) (pn 3) (pn 4) (pn 5) (sa 0) (sa 1) (sa 2) (sa 3) (sa 4) (ps 0) (ps 1) (ps 2) (ps 3) (ps 4) dy (pa 0) (x 0) ((x 2) d) n (by omega) (by omega)) gX7_knowsBy_X6_afterDays rfl rfl rfl hdX6_afterDays ⟨Nat.le_of_ble_eq_true rfl, Nat.le_of_ble_eq_true rfl⟩ [13, 2, 3, 8, 9] rfl (ci := 6) (q0 := 0) rfl rfl hl.1 rfl rfl (Nat.le_of_ble_eq_true rfl) dX7_knowsBy_34 (fun r_5 hr_5 => ?_)
        subst hr_5
        exact hret (aDs (pa 0) (x 0) (ps 0) ((x 2) d) n) 37 ls (by simp [xKnowsBy, c_2, c_3, c_4, nI_clamp (show d < 2 ^ 31 by omega), nI_clamp (show n < 2 ^ 31 by omega)]) (rfl) dX7_knowsBy_37
      · refine lv_iconst (v := (-1)) hx hb dX7_knowsBy_18 (by decide) ?_
        exact hret (-1) 19 ls (by simp [xKnowsBy, c_2, c_3, c_4, nI_clamp (show d < 2 ^ 31 by omega)]) (rfl) dX7_knowsBy_19
theorem kX7_when_f38 : (Cond.fieldLink RX7 38 "LastCallersWord" "state" "LLastCallersWord$State;" : Cond) ∈ wsX7_when := List.mem_cons_of_mem _ aw_25
theorem hX7_when_X7 : ∀ w ∈ wsX70, w ∈ wsX7_when := fun w h => List.mem_cons_of_mem _ (ac_X7 w h)
theorem kX7_when_f144 : (Cond.fieldLink RX7 144 "LastCallersWord$State" "knowers" "[I" : Cond) ∈ wsX7_when := List.mem_cons_of_mem _ aw_223
theorem hX7_when_X5 : ∀ w ∈ wsX50, w ∈ wsX7_when := fun w h => List.mem_cons_of_mem _ (ac_X5 w h)
theorem kX7_when_f47 : (Cond.fieldLink RX7 47 "LastCallersWord" "talk" "LLastCallersWord$Talk;" : Cond) ∈ wsX7_when := List.mem_cons_of_mem _ aw_29
set_option maxHeartbeats 4000000 in
set_option maxRecDepth 100000 in
theorem c_X7_when (l : Launch) (g : GG) (th : Nat) (le : Nat → Nat) (dr : Nat → Nat) (rd : Nat) (pn : Nat → Nat) (sa : Nat → Nat) (tk : Nat) (sg : Nat → Nat) (us : Nat → Nat) (ks : Nat → Nat) (sk : Nat) (len : Nat) (pa : Nat → Nat → Int32) (ps : Nat → Nat) (x : Nat → Nat → Int32) (dy : Nat) (ga : Nat → Nat → Int32) (gz : Nat) (uk : Nat) (kk : Nat) (iv : Int32) (dv : Int32) (hP8 : ps 0 ≤ 8) (hD5 : ps 2 ≤ 5) (hW6 : ps 3 ≤ 6) (hgz : gz ≤ 8) : Met l yX7_when wsX7_when ({ frames := 3, cells := 0, slots := 0, locals := 70 } : Room) (ro g [.ref th, .int iv, .int dv] [(th, .inr (7, [.ref (le 0), .ref (dr 0), .ref rd, .ref (pn 0), .ref (sa 0), .ref tk, .ref (sg 0), .ref (us 0), .ref (ks 0), .ref sk])), (le 0, .inr (0, [.ref (le 1), .int (nI len)])), (pn 0, .inr (1, [.ref (pn 1), .ref (pn 2), .ref (pn 3), .ref (pn 4), .ref (pn 5), .int (nI (ps 0)), .int (nI (ps 1)), .int (nI (ps 2)), .int (nI (ps 3)), .int (nI (ps 4))])), (pn 1, .inl (g.2.1, 8, .inl (pa 0))), (pn 2, .inl (g.2.1, 64, .inl (pa 1))), (pn 3, .inl (g.2.1, 5, .inl (pa 2))), (pn 4, .inl (g.2.1, 5, .inl (pa 3))), (pn 5, .inl (g.2.1, 6, .inl (pa 4))), (sa 0, .inr (5, [.ref (sa 1), .ref (sa 2), .ref (sa 3), .ref (sa 4), .int (nI dy)])), (sa 1, .inl (g.2.1, 64, .inl (x 0))), (sa 2, .inl (g.2.1, 5, .inl (x 1))), (sa 3, .inl (g.2.1, 5, .inl (x 2))), (sa 4, .inl (g.2.1, 40, .inl (x 3))), (tk, .inr (6, [.ref (pn 0), .ref (sa 0)])), (sg 0, .inr (4, [.ref (sg 1), .ref (sg 2), .ref (sg 3), .int (nI gz)])), (sg 1, .inl (g.2.1, 8, .inl (ga 0))), (sg 2, .inl (g.2.1, 8, .inl (ga 1))), (sg 3, .inl (g.2.1, 8, .inl (ga 2))), (us 0, .inr (3, [.ref (us 1), .int (nI uk)])), (ks 0, .inr (3, [.ref (ks 1), .int (nI kk)]))]) (vp_Si (fun rr => rr = xWhen pa ps x iv dv)) 0 0 (fun _ => False) := by
  refine ro_start (cc := cX7_when) (maxL := 5) (ty := .int) (by decide) rfl (Nat.le_of_ble_eq_true rfl) (fun p e s m args below meth c Q C hP hret ls hl => ?_)
  obtain ⟨hx, hb, hml, hr, hown, hts, hlk, hKK⟩ := id C
  have hK := hKK.1
  have hown : s.vm.findClass RX7 = some m.cls := hown
  have ctx : CallFix p m c cX7_when 5 s args wsX7_when RX7 := ⟨hx, hb, hml, hown, hts⟩
  have hl : lv_has ls 5 [(0, .ref th), (1, .int iv), (2, .int dv)] := hl
  refine lv_aload_n hx hb dX7_when_0 rfl (lv_at hl 0 rfl) ?_
  refine lv_iload_n hx hb dX7_when_1 rfl (lv_at hl 1 rfl) ?_
  refine ro_callV (As := [.int iv]) (rest := []) (b := th) ctx hKK hP (c_X7_isPerson l g th le dr rd pn sa tk sg us ks sk len pa ps x dy ga gz uk kk iv (by omega) (by omega) (by omega) (by omega)) gX7_when_X7_isPerson rfl rfl rfl hdX7_isPerson ⟨Nat.le_of_ble_eq_true rfl, Nat.le_of_ble_eq_true rfl⟩ [0, 1, 2, 3, 4, 5, 6, 7, 8, 9, 10, 11, 12, 13, 14, 15, 16, 17, 18, 19] rfl (ci := 7) (q0 := 0) rfl rfl hl.1 rfl rfl (Nat.le_of_ble_eq_true rfl) dX7_when_2 (fun r_1 hr_1 => ?_)
  subst hr_1
  refine lv_if_eq (tgt := 16) hx hb dX7_when_5 (by decide) (fun c_2 => ?_) (fun c_2 => ?_)
  · replace c_2 := bI_f c_2
    refine lv_iconst (v := (-1)) hx hb dX7_when_16 (by decide) ?_
    exact hret (-1) 17 ls (by simp [xWhen, c_2]) (rfl) dX7_when_17
  · replace c_2 := bI_t c_2
    obtain ⟨i, hi, rfl⟩ := inPb_nat c_2 (by omega)
    refine lv_aload_n hx hb dX7_when_8 rfl (lv_at hl 0 rfl) ?_
    refine lv_iload_n hx hb dX7_when_9 rfl (lv_at hl 2 rfl) ?_
    refine ro_callV (As := [.int dv]) (rest := []) (b := th) ctx hKK hP (c_X7_isDoor l g th le dr rd pn sa tk sg us ks sk len pa ps x dy ga gz uk kk dv (by omega) (by omega) (by omega) (by omega)) gX7_when_X7_isDoor rfl rfl rfl hdX7_isDoor ⟨Nat.le_of_ble_eq_true rfl, Nat.le_of_ble_eq_true rfl⟩ [0, 1, 2, 3, 4, 5, 6, 7, 8, 9, 10, 11, 12, 13, 14, 15, 16, 17, 18, 19] rfl (ci := 7) (q0 := 0) rfl rfl hl.1 rfl rfl (Nat.le_of_ble_eq_true rfl) dX7_when_10 (fun r_3 hr_3 => ?_)
    subst hr_3
    refine lv_if_ne (tgt := 18) hx hb dX7_when_13 (by decide) (fun c_4 => ?_) (fun c_4 => ?_)
    · replace c_4 := bI_t c_4
      obtain ⟨d, hd, rfl⟩ := inPb_nat c_4 (by omega)
      refine lv_aload_n hx hb dX7_when_18 rfl (lv_at hl 0 rfl) ?_
      refine va_get (D := g.1) (cl := vwCl) (ci := 7) (v := .ref (sa 0)) (C := RX7) (T := TX7) (N := 10) hx hb hts hX7_when_X7 hown hK hP 0 rfl rfl 4 (by decide) (hts _ kX7_when_f38) (fun _ h9 => h9) rfl dX7_when_19 ?_
      refine va_get (D := g.1) (cl := vwCl) (ci := 5) (v := .ref (sa 3)) (C := RX5) (T := TX5) (N := 5) hx hb hts hX7_when_X5 hown hK hP 8 rfl rfl 2 (by decide) (hts _ kX7_when_f144) (fun _ h9 => h9) rfl dX7_when_22 ?_
      refine lv_iload_n hx hb dX7_when_25 rfl (lv_at hl 2 rfl) ?_
      refine ald_i (D := g.1) (cl := vwCl) (f := x 2) (i := d) (n := 5) hx hb hK hP 11 0 rfl rfl (by omega) (by decide) dX7_when_26 ?_
      refine lv_istore_n (lv' := [(3, .int ((x 2) d)), (0, .ref th), (1, .int (nI i)), (2, .int (nI d))]) hx hb dX7_when_27 rfl hl (by decide) rfl (fun ls hl => ?_)
      refine lv_iconst (v := nI 0) hx hb dX7_when_28 (by decide) ?_
      refine lv_istore (lv' := [(4, .int (nI 0)), (3, .int ((x 2) d)), (0, .ref th), (1, .int (nI i)), (2, .int (nI d))]) hx hb dX7_when_29 hl (by decide) rfl (fun ls hl => ?_)
      have LP31 : ∀ (fu : Nat) (j : Nat) (x3 : Int32), 21 - j < fu → (j ≤ 21) → (whL (pa 0) (x 0) (ps 0) (nI i) 21 0 (x 2 d) = whL (pa 0) (x 0) (ps 0) (nI i) (21 - j) j x3) → ∀ (ls : Array Slot), lv_has ls 5 [(4, .int (nI j)), (3, .int x3), (0, .ref th), (1, .int (nI i)), (2, .int (nI d))] → W p l e ({ frames := 3, cells := 0, slots := 0, locals := 70 } : Room) s m args below meth c s.heap [] 0 0 Q (F0 m 31 ls []) := by
        intro fu
        induction fu with
        | zero => intro j x3 hfu; exact absurd hfu (Nat.not_lt_zero _)
        | succ fu ih31 =>
          intro j x3 hfu hj ew ls hl
          refine lv_iload hx hb dX7_when_31 (lv_at hl 0 rfl) ?_
          refine lv_bipush (v := nI 20) hx hb dX7_when_33 (by decide) ?_
          refine lv_icmp_gt (tgt := 64) hx hb dX7_when_35 (by decide) (fun c_5 => ?_) (fun c_5 => ?_)
          · replace c_5 : 20 < j := (nI_ltI (a := 20) (b := j) (by omega) (by omega)).mp c_5
            refine lv_bipush (v := (-4)) hx hb dX7_when_64 (by decide) ?_
            exact hret (-4) 66 ls (by rw [xWhen, if_pos ⟨by assumption, by assumption⟩, nI_clamp (show d < 2 ^ 31 by omega), ew, show 21 - j = 0 by omega, whL]) (rfl) dX7_when_66
          · replace c_5 : ¬ 20 < j := fun h => c_5 ((nI_ltI (a := 20) (b := j) (by omega) (by omega)).mpr h)
            refine lv_iload_n hx hb dX7_when_38 rfl (lv_at hl 1 rfl) ?_
            refine lv_iload_n hx hb dX7_when_39 rfl (lv_at hl 3 rfl) ?_
            refine ro_callS (As := [.int x3, .int (nI i)]) (rest := []) ctx hKK hP (c_X7_has l g x3 (nI i)) gX7_when_X7_has rfl rfl rfl hdX7_has ⟨Nat.le_of_ble_eq_true rfl, Nat.le_of_ble_eq_true rfl⟩ [] rfl hl.1 rfl rfl (Nat.le_of_ble_eq_true rfl) dX7_when_40 (fun r_6 hr_6 => ?_)
            subst hr_6
            refine lv_if_eq (tgt := 49) hx hb dX7_when_43 (by decide) (fun c_7 => ?_) (fun c_7 => ?_)
            · replace c_7 := bI_f c_7
              refine lv_aload_n hx hb dX7_when_49 rfl (lv_at hl 2 rfl) ?_
              refine va_get (D := g.1) (cl := vwCl) (ci := 7) (v := .ref tk) (C := RX7) (T := TX7) (N := 10) hx hb hts hX7_when_X7 hown hK hP 0 rfl rfl 5 (by decide) (hts _ kX7_when_f47) (fun _ h9 => h9) rfl dX7_when_50 ?_
              refine lv_iload_n hx hb dX7_when_53 rfl (lv_at hl 1 rfl) ?_
              refine ro_callV (As := [.int x3]) (rest := []) (b := tk) ctx hKK hP (c_X6_afterDay l g tk (pn 0) (pn 1) (pn 2) (pn 3) (pn 4) (pn 5) (sa 0) (sa 1) (sa 2) (sa 3) (sa 4) (ps 0) (ps 1) (ps 2) (ps 3) (ps 4) dy (pa 0) (x 0) x3 (by omega)) gX7_when_X6_afterDay rfl rfl rfl hdX6_afterDay ⟨Nat.le_of_ble_eq_true rfl, Nat.le_of_ble_eq_true rfl⟩ [13, 2, 3, 8, 9] rfl (ci := 6) (q0 := 0) rfl rfl hl.1 rfl rfl (Nat.le_of_ble_eq_true rfl) dX7_when_54 (fun r_8 hr_8 => ?_)
              subst hr_8
              refine lv_istore_n (lv' := [(3, .int (aDay (pa 0) (x 0) (ps 0) x3)), (4, .int (nI j)), (0, .ref th), (1, .int (nI i)), (2, .int (nI d))]) hx hb dX7_when_57 rfl hl (by decide) rfl (fun ls hl => ?_)
              refine lv_iinc (v := nI (j + 1)) (lv' := [(4, .int (nI (j + 1))), (3, .int (aDay (pa 0) (x 0) (ps 0) x3)), (0, .ref th), (1, .int (nI i)), (2, .int (nI d))]) hx hb dX7_when_58 hl (k := 1) rfl (iincK j 1) (by decide) rfl (fun ls hl => ?_)
              refine lv_goto (tgt := 31) hx hb dX7_when_61 (by decide) ?_
              exact ih31 (j + 1) (aDay (pa 0) (x 0) (ps 0) x3) (by omega) (by omega) (by rw [ew, show 21 - j = 20 - j + 1 by omega, whL, if_neg (by rw [c_7]; decide), show 21 - (j + 1) = 20 - j by omega]) ls (lv_sub hl [0, 1, 2, 3, 4] rfl)
            · replace c_7 := bI_t c_7
              refine lv_iload hx hb dX7_when_46 (lv_at hl 0 rfl) ?_
              exact hret (nI j) 48 ls (by rw [xWhen, if_pos ⟨by assumption, by assumption⟩, nI_clamp (show d < 2 ^ 31 by omega), ew, show 21 - j = 20 - j + 1 by omega, whL, if_pos c_7]) (rfl) dX7_when_48
      exact LP31 22 0 ((x 2) d) (by omega) (by omega) (rfl) ls (lv_sub hl [0, 1, 2, 3, 4] rfl)
    · replace c_4 := bI_f c_4
      refine lv_iconst (v := (-1)) hx hb dX7_when_16 (by decide) ?_
      exact hret (-1) 17 ls (by simp [xWhen, c_2, c_4, nI_clamp (show i < 2 ^ 31 by omega)]) (rfl) dX7_when_17
theorem kX7_lets_f32 : (Cond.fieldLink RX7 32 "LastCallersWord" "plan" "LLastCallersWord$Plan;" : Cond) ∈ wsX7_lets := List.mem_cons_of_mem _ aw_21
theorem hX7_lets_X7 : ∀ w ∈ wsX70, w ∈ wsX7_lets := fun w h => List.mem_cons_of_mem _ (ac_X7 w h)
theorem kX7_lets_f138 : (Cond.fieldLink RX7 138 "LastCallersWord$Plan" "hosts" "[I" : Cond) ∈ wsX7_lets := List.mem_cons_of_mem _ aw_472
theorem hX7_lets_X1 : ∀ w ∈ wsX10, w ∈ wsX7_lets := fun w h => List.mem_cons_of_mem _ (ac_X1 w h)
set_option maxHeartbeats 4000000 in
set_option maxRecDepth 100000 in
theorem c_X7_lets (l : Launch) (g : GG) (th : Nat) (le : Nat → Nat) (dr : Nat → Nat) (rd : Nat) (pn : Nat → Nat) (sa : Nat → Nat) (tk : Nat) (sg : Nat → Nat) (us : Nat → Nat) (ks : Nat → Nat) (sk : Nat) (len : Nat) (pa : Nat → Nat → Int32) (ps : Nat → Nat) (x : Nat → Nat → Int32) (dy : Nat) (ga : Nat → Nat → Int32) (gz : Nat) (uk : Nat) (kk : Nat) (dv : Int32) (nv : Int32) (hP8 : ps 0 ≤ 8) (hD5 : ps 2 ≤ 5) (hW6 : ps 3 ≤ 6) (hgz : gz ≤ 8) : Met l yX7_lets wsX7_lets ({ frames := 6, cells := 0, slots := 0, locals := 137 } : Room) (ro g [.ref th, .int dv, .int nv] [(th, .inr (7, [.ref (le 0), .ref (dr 0), .ref rd, .ref (pn 0), .ref (sa 0), .ref tk, .ref (sg 0), .ref (us 0), .ref (ks 0), .ref sk])), (le 0, .inr (0, [.ref (le 1), .int (nI len)])), (pn 0, .inr (1, [.ref (pn 1), .ref (pn 2), .ref (pn 3), .ref (pn 4), .ref (pn 5), .int (nI (ps 0)), .int (nI (ps 1)), .int (nI (ps 2)), .int (nI (ps 3)), .int (nI (ps 4))])), (pn 1, .inl (g.2.1, 8, .inl (pa 0))), (pn 2, .inl (g.2.1, 64, .inl (pa 1))), (pn 3, .inl (g.2.1, 5, .inl (pa 2))), (pn 4, .inl (g.2.1, 5, .inl (pa 3))), (pn 5, .inl (g.2.1, 6, .inl (pa 4))), (sa 0, .inr (5, [.ref (sa 1), .ref (sa 2), .ref (sa 3), .ref (sa 4), .int (nI dy)])), (sa 1, .inl (g.2.1, 64, .inl (x 0))), (sa 2, .inl (g.2.1, 5, .inl (x 1))), (sa 3, .inl (g.2.1, 5, .inl (x 2))), (sa 4, .inl (g.2.1, 40, .inl (x 3))), (tk, .inr (6, [.ref (pn 0), .ref (sa 0)])), (sg 0, .inr (4, [.ref (sg 1), .ref (sg 2), .ref (sg 3), .int (nI gz)])), (sg 1, .inl (g.2.1, 8, .inl (ga 0))), (sg 2, .inl (g.2.1, 8, .inl (ga 1))), (sg 3, .inl (g.2.1, 8, .inl (ga 2))), (us 0, .inr (3, [.ref (us 1), .int (nI uk)])), (ks 0, .inr (3, [.ref (ks 1), .int (nI kk)]))]) (vp_Si (fun rr => rr = xLets pa ps x dv nv)) 0 0 (fun _ => False) := by
  refine ro_start (cc := cX7_lets) (maxL := 3) (ty := .int) (by decide) rfl (Nat.le_of_ble_eq_true rfl) (fun p e s m args below meth c Q C hP hret ls hl => ?_)
  obtain ⟨hx, hb, hml, hr, hown, hts, hlk, hKK⟩ := id C
  have hK := hKK.1
  have hown : s.vm.findClass RX7 = some m.cls := hown
  have ctx : CallFix p m c cX7_lets 3 s args wsX7_lets RX7 := ⟨hx, hb, hml, hown, hts⟩
  have hl : lv_has ls 3 [(0, .ref th), (1, .int dv), (2, .int nv)] := hl
  refine lv_aload_n hx hb dX7_lets_0 rfl (lv_at hl 0 rfl) ?_
  refine lv_iload_n hx hb dX7_lets_1 rfl (lv_at hl 1 rfl) ?_
  refine ro_callV (As := [.int dv]) (rest := []) (b := th) ctx hKK hP (c_X7_isDoor l g th le dr rd pn sa tk sg us ks sk len pa ps x dy ga gz uk kk dv (by omega) (by omega) (by omega) (by omega)) gX7_lets_X7_isDoor rfl rfl rfl hdX7_isDoor ⟨Nat.le_of_ble_eq_true rfl, Nat.le_of_ble_eq_true rfl⟩ [0, 1, 2, 3, 4, 5, 6, 7, 8, 9, 10, 11, 12, 13, 14, 15, 16, 17, 18, 19] rfl (ci := 7) (q0 := 0) rfl rfl hl.1 rfl rfl (Nat.le_of_ble_eq_true rfl) dX7_lets_2 (fun r_1 hr_1 => ?_)
  subst hr_1
  refine lv_if_eq (tgt := 17) hx hb dX7_lets_5 (by decide) (fun c_2 => ?_) (fun c_2 => ?_)
  · replace c_2 := bI_f c_2
    refine lv_iconst (v := (-1)) hx hb dX7_lets_17 (by decide) ?_
    exact hret (-1) 18 ls (by simp [xLets, c_2]) (rfl) dX7_lets_18
  · replace c_2 := bI_t c_2
    obtain ⟨d, hd, rfl⟩ := inPb_nat c_2 (by omega)
    refine lv_iload_n hx hb dX7_lets_8 rfl (lv_at hl 2 rfl) ?_
    refine lv_if_lt (tgt := 17) hx hb dX7_lets_9 (by decide) (fun c_3 => ?_) (fun c_3 => ?_)
    · refine lv_iconst (v := (-1)) hx hb dX7_lets_17 (by decide) ?_
      exact hret (-1) 18 ls (by simp [xLets, c_2, c_3, nI_clamp (show d < 2 ^ 31 by omega)]) (rfl) dX7_lets_18
    · refine lv_iload_n hx hb dX7_lets_12 rfl (lv_at hl 2 rfl) ?_
      refine lv_iconst (v := nI 5) hx hb dX7_lets_13 (by decide) ?_
      refine lv_icmp_le (tgt := 19) hx hb dX7_lets_14 (by decide) (fun c_4 => ?_) (fun c_4 => ?_)
      · obtain ⟨n, hn, rfl⟩ := rng_nat (n := 5) (by assumption) c_4 (by decide)
        refine lv_aload_n hx hb dX7_lets_19 rfl (lv_at hl 0 rfl) ?_
        refine lv_aload_n hx hb dX7_lets_20 rfl (lv_at hl 0 rfl) ?_
        refine va_get (D := g.1) (cl := vwCl) (ci := 7) (v := .ref (pn 0)) (C := RX7) (T := TX7) (N := 10) hx hb hts hX7_lets_X7 hown hK hP 0 rfl rfl 3 (by decide) (hts _ kX7_lets_f32) (fun _ h9 => h9) rfl dX7_lets_21 ?_
        refine va_get (D := g.1) (cl := vwCl) (ci := 1) (v := .ref (pn 3)) (C := RX1) (T := TX1) (N := 10) hx hb hts hX7_lets_X1 hown hK hP 2 rfl rfl 2 (by decide) (hts _ kX7_lets_f138) (fun _ h9 => h9) rfl dX7_lets_24 ?_
        refine lv_iload_n hx hb dX7_lets_27 rfl (lv_at hl 1 rfl) ?_
        refine ald_i (D := g.1) (cl := vwCl) (f := pa 2) (i := d) (n := 5) hx hb hK hP 5 0 rfl rfl (by omega) (by decide) dX7_lets_28 ?_
        refine lv_iload_n hx hb dX7_lets_29 rfl (lv_at hl 2 rfl) ?_
        refine ro_callV (As := [.int ((pa 2) d), .int (nI n)]) (rest := []) (b := th) ctx hKK hP (c_X7_callersWhoReach l g th le dr rd pn sa tk sg us ks sk len pa ps x dy ga gz uk kk ((pa 2) d) n (by omega) (by omega) (by omega) (by omega) (by omega)) gX7_lets_X7_callersWhoReach rfl rfl rfl hdX7_callersWhoReach ⟨Nat.le_of_ble_eq_true rfl, Nat.le_of_ble_eq_true rfl⟩ [0, 1, 2, 3, 4, 5, 6, 7, 8, 9, 10, 11, 12, 13, 14, 15, 16, 17, 18, 19] rfl (ci := 7) (q0 := 0) rfl rfl hl.1 rfl rfl (Nat.le_of_ble_eq_true rfl) dX7_lets_30 (fun r_5 hr_5 => ?_)
        subst hr_5
        exact hret (cwr (pa 0) (x 0) (ps 0) ((pa 2) d) n (ps 0)) 33 ls (by simp [xLets, c_2, c_3, c_4, nI_clamp (show d < 2 ^ 31 by omega), nI_clamp (show n < 2 ^ 31 by omega)]) (rfl) dX7_lets_33
      · refine lv_iconst (v := (-1)) hx hb dX7_lets_17 (by decide) ?_
        exact hret (-1) 18 ls (by simp [xLets, c_2, c_3, c_4, nI_clamp (show d < 2 ^ 31 by omega)]) (rfl) dX7_lets_18
theorem kX7_keeps_f47 : (Cond.fieldLink RX7 47 "LastCallersWord" "talk" "LLastCallersWord$Talk;" : Cond) ∈ wsX7_keeps := List.mem_cons_of_mem _ aw_29
theorem hX7_keeps_X7 : ∀ w ∈ wsX70, w ∈ wsX7_keeps := fun w h => List.mem_cons_of_mem _ (ac_X7 w h)
set_option maxHeartbeats 4000000 in
set_option maxRecDepth 100000 in
theorem c_X7_keeps (l : Launch) (g : GG) (th : Nat) (le : Nat → Nat) (dr : Nat → Nat) (rd : Nat) (pn : Nat → Nat) (sa : Nat → Nat) (tk : Nat) (sg : Nat → Nat) (us : Nat → Nat) (ks : Nat → Nat) (sk : Nat) (len : Nat) (pa : Nat → Nat → Int32) (ps : Nat → Nat) (x : Nat → Nat → Int32) (dy : Nat) (ga : Nat → Nat → Int32) (gz : Nat) (uk : Nat) (kk : Nat) (iv : Int32) (dv : Int32) (nv : Int32) (hP8 : ps 0 ≤ 8) (hD5 : ps 2 ≤ 5) (hW6 : ps 3 ≤ 6) (hgz : gz ≤ 8) : Met l yX7_keeps wsX7_keeps ({ frames := 6, cells := 0, slots := 0, locals := 137 } : Room) (ro g [.ref th, .int iv, .int dv, .int nv] [(th, .inr (7, [.ref (le 0), .ref (dr 0), .ref rd, .ref (pn 0), .ref (sa 0), .ref tk, .ref (sg 0), .ref (us 0), .ref (ks 0), .ref sk])), (le 0, .inr (0, [.ref (le 1), .int (nI len)])), (pn 0, .inr (1, [.ref (pn 1), .ref (pn 2), .ref (pn 3), .ref (pn 4), .ref (pn 5), .int (nI (ps 0)), .int (nI (ps 1)), .int (nI (ps 2)), .int (nI (ps 3)), .int (nI (ps 4))])), (pn 1, .inl (g.2.1, 8, .inl (pa 0))), (pn 2, .inl (g.2.1, 64, .inl (pa 1))), (pn 3, .inl (g.2.1, 5, .inl (pa 2))), (pn 4, .inl (g.2.1, 5, .inl (pa 3))), (pn 5, .inl (g.2.1, 6, .inl (pa 4))), (sa 0, .inr (5, [.ref (sa 1), .ref (sa 2), .ref (sa 3), .ref (sa 4), .int (nI dy)])), (sa 1, .inl (g.2.1, 64, .inl (x 0))), (sa 2, .inl (g.2.1, 5, .inl (x 1))), (sa 3, .inl (g.2.1, 5, .inl (x 2))), (sa 4, .inl (g.2.1, 40, .inl (x 3))), (tk, .inr (6, [.ref (pn 0), .ref (sa 0)])), (sg 0, .inr (4, [.ref (sg 1), .ref (sg 2), .ref (sg 3), .int (nI gz)])), (sg 1, .inl (g.2.1, 8, .inl (ga 0))), (sg 2, .inl (g.2.1, 8, .inl (ga 1))), (sg 3, .inl (g.2.1, 8, .inl (ga 2))), (us 0, .inr (3, [.ref (us 1), .int (nI uk)])), (ks 0, .inr (3, [.ref (ks 1), .int (nI kk)]))]) (vp_Si (fun rr => rr = xKeeps pa ps x iv dv nv)) 0 0 (fun _ => False) := by
  refine ro_start (cc := cX7_keeps) (maxL := 4) (ty := .int) (by decide) rfl (Nat.le_of_ble_eq_true rfl) (fun p e s m args below meth c Q C hP hret ls hl => ?_)
  obtain ⟨hx, hb, hml, hr, hown, hts, hlk, hKK⟩ := id C
  have hK := hKK.1
  have hown : s.vm.findClass RX7 = some m.cls := hown
  have ctx : CallFix p m c cX7_keeps 4 s args wsX7_keeps RX7 := ⟨hx, hb, hml, hown, hts⟩
  have hl : lv_has ls 4 [(0, .ref th), (1, .int iv), (2, .int dv), (3, .int nv)] := hl
  refine lv_aload_n hx hb dX7_keeps_0 rfl (lv_at hl 0 rfl) ?_
  refine lv_iload_n hx hb dX7_keeps_1 rfl (lv_at hl 1 rfl) ?_
  refine ro_callV (As := [.int iv]) (rest := []) (b := th) ctx hKK hP (c_X7_isPerson l g th le dr rd pn sa tk sg us ks sk len pa ps x dy ga gz uk kk iv (by omega) (by omega) (by omega) (by omega)) gX7_keeps_X7_isPerson rfl rfl rfl hdX7_isPerson ⟨Nat.le_of_ble_eq_true rfl, Nat.le_of_ble_eq_true rfl⟩ [0, 1, 2, 3, 4, 5, 6, 7, 8, 9, 10, 11, 12, 13, 14, 15, 16, 17, 18, 19] rfl (ci := 7) (q0 := 0) rfl rfl hl.1 rfl rfl (Nat.le_of_ble_eq_true rfl) dX7_keeps_2 (fun r_1 hr_1 => ?_)
  subst hr_1
  refine lv_if_eq (tgt := 25) hx hb dX7_keeps_5 (by decide) (fun c_2 => ?_) (fun c_2 => ?_)
  · replace c_2 := bI_f c_2
    refine lv_iconst (v := (-1)) hx hb dX7_keeps_25 (by decide) ?_
    exact hret (-1) 26 ls (by simp [xKeeps, c_2]) (rfl) dX7_keeps_26
  · replace c_2 := bI_t c_2
    obtain ⟨i, hi, rfl⟩ := inPb_nat c_2 (by omega)
    refine lv_aload_n hx hb dX7_keeps_8 rfl (lv_at hl 0 rfl) ?_
    refine lv_iload_n hx hb dX7_keeps_9 rfl (lv_at hl 2 rfl) ?_
    refine ro_callV (As := [.int dv]) (rest := []) (b := th) ctx hKK hP (c_X7_isDoor l g th le dr rd pn sa tk sg us ks sk len pa ps x dy ga gz uk kk dv (by omega) (by omega) (by omega) (by omega)) gX7_keeps_X7_isDoor rfl rfl rfl hdX7_isDoor ⟨Nat.le_of_ble_eq_true rfl, Nat.le_of_ble_eq_true rfl⟩ [0, 1, 2, 3, 4, 5, 6, 7, 8, 9, 10, 11, 12, 13, 14, 15, 16, 17, 18, 19] rfl (ci := 7) (q0 := 0) rfl rfl hl.1 rfl rfl (Nat.le_of_ble_eq_true rfl) dX7_keeps_10 (fun r_3 hr_3 => ?_)
    subst hr_3
    refine lv_if_eq (tgt := 25) hx hb dX7_keeps_13 (by decide) (fun c_4 => ?_) (fun c_4 => ?_)
    · replace c_4 := bI_f c_4
      refine lv_iconst (v := (-1)) hx hb dX7_keeps_25 (by decide) ?_
      exact hret (-1) 26 ls (by simp [xKeeps, c_2, c_4, nI_clamp (show i < 2 ^ 31 by omega)]) (rfl) dX7_keeps_26
    · replace c_4 := bI_t c_4
      obtain ⟨d, hd, rfl⟩ := inPb_nat c_4 (by omega)
      refine lv_iload_n hx hb dX7_keeps_16 rfl (lv_at hl 3 rfl) ?_
      refine lv_if_lt (tgt := 25) hx hb dX7_keeps_17 (by decide) (fun c_5 => ?_) (fun c_5 => ?_)
      · refine lv_iconst (v := (-1)) hx hb dX7_keeps_25 (by decide) ?_
        exact hret (-1) 26 ls (by simp [xKeeps, c_2, c_4, c_5, nI_clamp (show i < 2 ^ 31 by omega), nI_clamp (show d < 2 ^ 31 by omega)]) (rfl) dX7_keeps_26
      · refine lv_iload_n hx hb dX7_keeps_20 rfl (lv_at hl 3 rfl) ?_
        refine lv_iconst (v := nI 5) hx hb dX7_keeps_21 (by decide) ?_
        refine lv_icmp_le (tgt := 27) hx hb dX7_keeps_22 (by decide) (fun c_6 => ?_) (fun c_6 => ?_)
        · obtain ⟨n, hn, rfl⟩ := rng_nat (n := 5) (by assumption) c_6 (by decide)
          refine lv_aload_n hx hb dX7_keeps_27 rfl (lv_at hl 0 rfl) ?_
          refine va_get (D := g.1) (cl := vwCl) (ci := 7) (v := .ref tk) (C := RX7) (T := TX7) (N := 10) hx hb hts hX7_keeps_X7 hown hK hP 0 rfl rfl 5 (by decide) (hts _ kX7_keeps_f47) (fun _ h9 => h9) rfl dX7_keeps_28 ?_
          refine ro_callV (As := []) (rest := []) (b := tk) ctx hKK hP (c_X6_everyone l g tk (pn 0) (pn 1) (pn 2) (pn 3) (pn 4) (pn 5) (sa 0) (sa 1) (sa 2) (sa 3) (sa 4) (ps 0) (ps 1) (ps 2) (ps 3) (ps 4) dy (pa 0) (x 0) (by omega)) gX7_keeps_X6_everyone rfl rfl rfl hdX6_everyone ⟨Nat.le_of_ble_eq_true rfl, Nat.le_of_ble_eq_true rfl⟩ [13, 2, 3, 8, 9] rfl (ci := 6) (q0 := 0) rfl rfl hl.1 rfl rfl (Nat.le_of_ble_eq_true rfl) dX7_keeps_31 (fun r_7 hr_7 => ?_)
          subst hr_7
          refine lv_aload_n hx hb dX7_keeps_34 rfl (lv_at hl 0 rfl) ?_
          refine lv_iload_n hx hb dX7_keeps_35 rfl (lv_at hl 1 rfl) ?_
          refine lv_iload_n hx hb dX7_keeps_36 rfl (lv_at hl 3 rfl) ?_
          refine ro_callV (As := [.int (nI i), .int (nI n)]) (rest := [.int (allB (ps 0))]) (b := th) ctx hKK hP (c_X7_callersWhoReach l g th le dr rd pn sa tk sg us ks sk len pa ps x dy ga gz uk kk (nI i) n (by omega) (by omega) (by omega) (by omega) (by omega)) gX7_keeps_X7_callersWhoReach rfl rfl rfl hdX7_callersWhoReach ⟨Nat.le_of_ble_eq_true rfl, Nat.le_of_ble_eq_true rfl⟩ [0, 1, 2, 3, 4, 5, 6, 7, 8, 9, 10, 11, 12, 13, 14, 15, 16, 17, 18, 19] rfl (ci := 7) (q0 := 0) rfl rfl hl.1 rfl rfl (Nat.le_of_ble_eq_true rfl) dX7_keeps_37 (fun r_8 hr_8 => ?_)
          subst hr_8
          refine lv_iconst (v := (-1)) hx hb dX7_keeps_40 (by decide) ?_
          refine lv_ixor hx hb dX7_keeps_41 ?_
          refine lv_iand hx hb dX7_keeps_42 ?_
          exact hret ((allB (ps 0)) &&& ((cwr (pa 0) (x 0) (ps 0) (nI i) n (ps 0)) ^^^ (-1))) 43 ls (by simp [xKeeps, c_2, c_4, c_5, c_6, nI_clamp (show i < 2 ^ 31 by omega), nI_clamp (show d < 2 ^ 31 by omega), nI_clamp (show n < 2 ^ 31 by omega)]) (rfl) dX7_keeps_43
        · refine lv_iconst (v := (-1)) hx hb dX7_keeps_25 (by decide) ?_
          exact hret (-1) 26 ls (by simp [xKeeps, c_2, c_4, c_5, c_6, nI_clamp (show i < 2 ^ 31 by omega), nI_clamp (show d < 2 ^ 31 by omega)]) (rfl) dX7_keeps_26
theorem kX7_allIn_f38 : (Cond.fieldLink RX7 38 "LastCallersWord" "state" "LLastCallersWord$State;" : Cond) ∈ wsX7_allIn := List.mem_cons_of_mem _ aw_25
theorem hX7_allIn_X7 : ∀ w ∈ wsX70, w ∈ wsX7_allIn := fun w h => List.mem_cons_of_mem _ (ac_X7 w h)
theorem kX7_allIn_f144 : (Cond.fieldLink RX7 144 "LastCallersWord$State" "knowers" "[I" : Cond) ∈ wsX7_allIn := List.mem_cons_of_mem _ aw_223
theorem hX7_allIn_X5 : ∀ w ∈ wsX50, w ∈ wsX7_allIn := fun w h => List.mem_cons_of_mem _ (ac_X5 w h)
theorem kX7_allIn_f32 : (Cond.fieldLink RX7 32 "LastCallersWord" "plan" "LLastCallersWord$Plan;" : Cond) ∈ wsX7_allIn := List.mem_cons_of_mem _ aw_21
theorem kX7_allIn_f138 : (Cond.fieldLink RX7 138 "LastCallersWord$Plan" "hosts" "[I" : Cond) ∈ wsX7_allIn := List.mem_cons_of_mem _ aw_472
theorem hX7_allIn_X1 : ∀ w ∈ wsX10, w ∈ wsX7_allIn := fun w h => List.mem_cons_of_mem _ (ac_X1 w h)
set_option maxHeartbeats 4000000 in
set_option maxRecDepth 100000 in
theorem c_X7_allIn (l : Launch) (g : GG) (th : Nat) (le : Nat → Nat) (dr : Nat → Nat) (rd : Nat) (pn : Nat → Nat) (sa : Nat → Nat) (tk : Nat) (sg : Nat → Nat) (us : Nat → Nat) (ks : Nat → Nat) (sk : Nat) (len : Nat) (pa : Nat → Nat → Int32) (ps : Nat → Nat) (x : Nat → Nat → Int32) (dy : Nat) (ga : Nat → Nat → Int32) (gz : Nat) (uk : Nat) (kk : Nat) (dv : Int32) (hP8 : ps 0 ≤ 8) (hD5 : ps 2 ≤ 5) (hW6 : ps 3 ≤ 6) (hgz : gz ≤ 8) : Met l yX7_allIn wsX7_allIn ({ frames := 6, cells := 0, slots := 0, locals := 137 } : Room) (ro g [.ref th, .int dv] [(th, .inr (7, [.ref (le 0), .ref (dr 0), .ref rd, .ref (pn 0), .ref (sa 0), .ref tk, .ref (sg 0), .ref (us 0), .ref (ks 0), .ref sk])), (le 0, .inr (0, [.ref (le 1), .int (nI len)])), (pn 0, .inr (1, [.ref (pn 1), .ref (pn 2), .ref (pn 3), .ref (pn 4), .ref (pn 5), .int (nI (ps 0)), .int (nI (ps 1)), .int (nI (ps 2)), .int (nI (ps 3)), .int (nI (ps 4))])), (pn 1, .inl (g.2.1, 8, .inl (pa 0))), (pn 2, .inl (g.2.1, 64, .inl (pa 1))), (pn 3, .inl (g.2.1, 5, .inl (pa 2))), (pn 4, .inl (g.2.1, 5, .inl (pa 3))), (pn 5, .inl (g.2.1, 6, .inl (pa 4))), (sa 0, .inr (5, [.ref (sa 1), .ref (sa 2), .ref (sa 3), .ref (sa 4), .int (nI dy)])), (sa 1, .inl (g.2.1, 64, .inl (x 0))), (sa 2, .inl (g.2.1, 5, .inl (x 1))), (sa 3, .inl (g.2.1, 5, .inl (x 2))), (sa 4, .inl (g.2.1, 40, .inl (x 3))), (tk, .inr (6, [.ref (pn 0), .ref (sa 0)])), (sg 0, .inr (4, [.ref (sg 1), .ref (sg 2), .ref (sg 3), .int (nI gz)])), (sg 1, .inl (g.2.1, 8, .inl (ga 0))), (sg 2, .inl (g.2.1, 8, .inl (ga 1))), (sg 3, .inl (g.2.1, 8, .inl (ga 2))), (us 0, .inr (3, [.ref (us 1), .int (nI uk)])), (ks 0, .inr (3, [.ref (ks 1), .int (nI kk)]))]) (vp_Si (fun rr => rr = xAllIn pa ps x dv)) 0 0 (fun _ => False) := by
  refine ro_start (cc := cX7_allIn) (maxL := 2) (ty := .int) (by decide) rfl (Nat.le_of_ble_eq_true rfl) (fun p e s m args below meth c Q C hP hret ls hl => ?_)
  obtain ⟨hx, hb, hml, hr, hown, hts, hlk, hKK⟩ := id C
  have hK := hKK.1
  have hown : s.vm.findClass RX7 = some m.cls := hown
  have ctx : CallFix p m c cX7_allIn 2 s args wsX7_allIn RX7 := ⟨hx, hb, hml, hown, hts⟩
  have hl : lv_has ls 2 [(0, .ref th), (1, .int dv)] := hl
  refine lv_iload_n hx hb dX7_allIn_0 rfl (lv_at hl 1 rfl) ?_
  refine lv_iconst (v := (-1)) hx hb dX7_allIn_1 (by decide) ?_
  refine lv_icmp_ne (tgt := 20) hx hb dX7_allIn_2 (by decide) (fun c_1 => ?_) (fun c_1 => ?_)
  · refine lv_aload_n hx hb dX7_allIn_20 rfl (lv_at hl 0 rfl) ?_
    refine lv_iload_n hx hb dX7_allIn_21 rfl (lv_at hl 1 rfl) ?_
    refine ro_callV (As := [.int dv]) (rest := []) (b := th) ctx hKK hP (c_X7_isDoor l g th le dr rd pn sa tk sg us ks sk len pa ps x dy ga gz uk kk dv (by omega) (by omega) (by omega) (by omega)) gX7_allIn_X7_isDoor rfl rfl rfl hdX7_isDoor ⟨Nat.le_of_ble_eq_true rfl, Nat.le_of_ble_eq_true rfl⟩ [0, 1, 2, 3, 4, 5, 6, 7, 8, 9, 10, 11, 12, 13, 14, 15, 16, 17, 18, 19] rfl (ci := 7) (q0 := 0) rfl rfl hl.1 rfl rfl (Nat.le_of_ble_eq_true rfl) dX7_allIn_22 (fun r_2 hr_2 => ?_)
    subst hr_2
    refine lv_if_ne (tgt := 30) hx hb dX7_allIn_25 (by decide) (fun c_3 => ?_) (fun c_3 => ?_)
    · replace c_3 := bI_t c_3
      obtain ⟨d, hd, rfl⟩ := inPb_nat c_3 (by omega)
      refine lv_aload_n hx hb dX7_allIn_30 rfl (lv_at hl 0 rfl) ?_
      refine lv_aload_n hx hb dX7_allIn_31 rfl (lv_at hl 0 rfl) ?_
      refine va_get (D := g.1) (cl := vwCl) (ci := 7) (v := .ref (sa 0)) (C := RX7) (T := TX7) (N := 10) hx hb hts hX7_allIn_X7 hown hK hP 0 rfl rfl 4 (by decide) (hts _ kX7_allIn_f38) (fun _ h9 => h9) rfl dX7_allIn_32 ?_
      refine va_get (D := g.1) (cl := vwCl) (ci := 5) (v := .ref (sa 3)) (C := RX5) (T := TX5) (N := 5) hx hb hts hX7_allIn_X5 hown hK hP 8 rfl rfl 2 (by decide) (hts _ kX7_allIn_f144) (fun _ h9 => h9) rfl dX7_allIn_35 ?_
      refine ro_callV (As := [.ref (sa 3)]) (rest := []) (b := th) ctx hKK hP (c_X7_shutOutBy l g th le dr rd pn sa tk sg us ks sk pa ps (sa 3) (x 2) (by omega)) gX7_allIn_X7_shutOutBy rfl rfl rfl hdX7_shutOutBy ⟨Nat.le_of_ble_eq_true rfl, Nat.le_of_ble_eq_true rfl⟩ [0, 2, 5, 11] rfl (ci := 7) (q0 := 0) rfl rfl hl.1 rfl rfl (Nat.le_of_ble_eq_true rfl) dX7_allIn_38 (fun r_4 hr_4 => ?_)
      subst hr_4
      refine lv_iload_n hx hb dX7_allIn_41 rfl (lv_at hl 1 rfl) ?_
      refine ro_callS (As := [.int (soB (pa 2) (x 2) (ps 2)), .int (nI d)]) (rest := []) ctx hKK hP (c_X7_has l g (soB (pa 2) (x 2) (ps 2)) (nI d)) gX7_allIn_X7_has rfl rfl rfl hdX7_has ⟨Nat.le_of_ble_eq_true rfl, Nat.le_of_ble_eq_true rfl⟩ [] rfl hl.1 rfl rfl (Nat.le_of_ble_eq_true rfl) dX7_allIn_42 (fun r_5 hr_5 => ?_)
      subst hr_5
      refine lv_if_ne (tgt := 51) hx hb dX7_allIn_45 (by decide) (fun c_6 => ?_) (fun c_6 => ?_)
      · replace c_6 := bI_t c_6
        refine lv_aload_n hx hb dX7_allIn_51 rfl (lv_at hl 0 rfl) ?_
        refine lv_aload_n hx hb dX7_allIn_52 rfl (lv_at hl 0 rfl) ?_
        refine va_get (D := g.1) (cl := vwCl) (ci := 7) (v := .ref (pn 0)) (C := RX7) (T := TX7) (N := 10) hx hb hts hX7_allIn_X7 hown hK hP 0 rfl rfl 3 (by decide) (hts _ kX7_allIn_f32) (fun _ h9 => h9) rfl dX7_allIn_53 ?_
        refine va_get (D := g.1) (cl := vwCl) (ci := 1) (v := .ref (pn 3)) (C := RX1) (T := TX1) (N := 10) hx hb hts hX7_allIn_X1 hown hK hP 2 rfl rfl 2 (by decide) (hts _ kX7_allIn_f138) (fun _ h9 => h9) rfl dX7_allIn_56 ?_
        refine lv_iload_n hx hb dX7_allIn_59 rfl (lv_at hl 1 rfl) ?_
        refine ald_i (D := g.1) (cl := vwCl) (f := pa 2) (i := d) (n := 5) hx hb hK hP 5 0 rfl rfl (by omega) (by decide) dX7_allIn_60 ?_
        refine lv_iconst (v := nI 0) hx hb dX7_allIn_61 (by decide) ?_
        refine ro_callV (As := [.int ((pa 2) d), .int (nI 0)]) (rest := []) (b := th) ctx hKK hP (c_X7_callersWhoReach l g th le dr rd pn sa tk sg us ks sk len pa ps x dy ga gz uk kk ((pa 2) d) 0 (by omega) (by omega) (by omega) (by omega) (by omega)) gX7_allIn_X7_callersWhoReach rfl rfl rfl hdX7_callersWhoReach ⟨Nat.le_of_ble_eq_true rfl, Nat.le_of_ble_eq_true rfl⟩ [0, 1, 2, 3, 4, 5, 6, 7, 8, 9, 10, 11, 12, 13, 14, 15, 16, 17, 18, 19] rfl (ci := 7) (q0 := 0) rfl rfl hl.1 rfl rfl (Nat.le_of_ble_eq_true rfl) dX7_allIn_62 (fun r_7 hr_7 => ?_)
        subst hr_7
        refine ro_callS (As := [.int (cwr (pa 0) (x 0) (ps 0) ((pa 2) d) 0 (ps 0))]) (rest := []) ctx hKK hP (c_X7_lowest l g (cwr (pa 0) (x 0) (ps 0) ((pa 2) d) 0 (ps 0))) gX7_allIn_X7_lowest rfl rfl rfl hdX7_lowest ⟨Nat.le_of_ble_eq_true rfl, Nat.le_of_ble_eq_true rfl⟩ [] rfl hl.1 rfl rfl (Nat.le_of_ble_eq_true rfl) dX7_allIn_65 (fun r_8 hr_8 => ?_)
        subst hr_8
        exact hret (lwI (cwr (pa 0) (x 0) (ps 0) ((pa 2) d) 0 (ps 0))) 68 ls (by simp [xAllIn, c_1, c_3, c_6, nI_clamp (show d < 2 ^ 31 by omega)]) (rfl) dX7_allIn_68
      · replace c_6 := bI_f c_6
        refine lv_bipush (v := (-4)) hx hb dX7_allIn_48 (by decide) ?_
        exact hret (-4) 50 ls (by simp [xAllIn, c_1, c_3, c_6, nI_clamp (show d < 2 ^ 31 by omega)]) (rfl) dX7_allIn_50
    · replace c_3 := bI_f c_3
      refine lv_iconst (v := (-1)) hx hb dX7_allIn_28 (by decide) ?_
      exact hret (-1) 29 ls (by simp [xAllIn, c_1, c_3]) (rfl) dX7_allIn_29
  · refine lv_aload_n hx hb dX7_allIn_5 rfl (lv_at hl 0 rfl) ?_
    refine lv_aload_n hx hb dX7_allIn_6 rfl (lv_at hl 0 rfl) ?_
    refine va_get (D := g.1) (cl := vwCl) (ci := 7) (v := .ref (sa 0)) (C := RX7) (T := TX7) (N := 10) hx hb hts hX7_allIn_X7 hown hK hP 0 rfl rfl 4 (by decide) (hts _ kX7_allIn_f38) (fun _ h9 => h9) rfl dX7_allIn_7 ?_
    refine va_get (D := g.1) (cl := vwCl) (ci := 5) (v := .ref (sa 3)) (C := RX5) (T := TX5) (N := 5) hx hb hts hX7_allIn_X5 hown hK hP 8 rfl rfl 2 (by decide) (hts _ kX7_allIn_f144) (fun _ h9 => h9) rfl dX7_allIn_10 ?_
    refine ro_callV (As := [.ref (sa 3)]) (rest := []) (b := th) ctx hKK hP (c_X7_shutOutBy l g th le dr rd pn sa tk sg us ks sk pa ps (sa 3) (x 2) (by omega)) gX7_allIn_X7_shutOutBy rfl rfl rfl hdX7_shutOutBy ⟨Nat.le_of_ble_eq_true rfl, Nat.le_of_ble_eq_true rfl⟩ [0, 2, 5, 11] rfl (ci := 7) (q0 := 0) rfl rfl hl.1 rfl rfl (Nat.le_of_ble_eq_true rfl) dX7_allIn_13 (fun r_9 hr_9 => ?_)
    subst hr_9
    refine ro_callS (As := [.int (soB (pa 2) (x 2) (ps 2))]) (rest := []) ctx hKK hP (c_J6_bitCount_0f7a4 l g (soB (pa 2) (x 2) (ps 2))) gX7_allIn_J6_bitCount_0f7a4 rfl rfl rfl hdJ6_bitCount_0f7a4 ⟨Nat.le_of_ble_eq_true rfl, Nat.le_of_ble_eq_true rfl⟩ [] rfl hl.1 rfl rfl (Nat.le_of_ble_eq_true rfl) dX7_allIn_16 (fun r_10 hr_10 => ?_)
    subst hr_10
    exact hret (bcI (soB (pa 2) (x 2) (ps 2))) 19 ls (by simp [xAllIn, c_1]) (rfl) dX7_allIn_19
theorem kX7_friend_f32 : (Cond.fieldLink RX7 32 "LastCallersWord" "plan" "LLastCallersWord$Plan;" : Cond) ∈ wsX7_friend := List.mem_cons_of_mem _ aw_21
theorem hX7_friend_X7 : ∀ w ∈ wsX70, w ∈ wsX7_friend := fun w h => List.mem_cons_of_mem _ (ac_X7 w h)
theorem kX7_friend_f198 : (Cond.fieldLink RX7 198 "LastCallersWord$Plan" "persons" "I" : Cond) ∈ wsX7_friend := List.mem_cons_of_mem _ aw_435
theorem hX7_friend_X1 : ∀ w ∈ wsX10, w ∈ wsX7_friend := fun w h => List.mem_cons_of_mem _ (ac_X1 w h)
theorem kX7_friend_f38 : (Cond.fieldLink RX7 38 "LastCallersWord" "state" "LLastCallersWord$State;" : Cond) ∈ wsX7_friend := List.mem_cons_of_mem _ aw_25
theorem kX7_friend_f128 : (Cond.fieldLink RX7 128 "LastCallersWord$State" "likings" "[I" : Cond) ∈ wsX7_friend := List.mem_cons_of_mem _ aw_464
theorem hX7_friend_X5 : ∀ w ∈ wsX50, w ∈ wsX7_friend := fun w h => List.mem_cons_of_mem _ (ac_X5 w h)
set_option maxHeartbeats 4000000 in
set_option maxRecDepth 100000 in
theorem c_X7_friend (l : Launch) (g : GG) (th : Nat) (le : Nat → Nat) (dr : Nat → Nat) (rd : Nat) (pn : Nat → Nat) (sa : Nat → Nat) (tk : Nat) (sg : Nat → Nat) (us : Nat → Nat) (ks : Nat → Nat) (sk : Nat) (len : Nat) (pa : Nat → Nat → Int32) (ps : Nat → Nat) (x : Nat → Nat → Int32) (dy : Nat) (ga : Nat → Nat → Int32) (gz : Nat) (uk : Nat) (kk : Nat) (iv : Int32) (wv : Int32) (hP8 : ps 0 ≤ 8) (hD5 : ps 2 ≤ 5) (hW6 : ps 3 ≤ 6) (hgz : gz ≤ 8) : Met l yX7_friend wsX7_friend ({ frames := 1, cells := 0, slots := 0, locals := 21 } : Room) (ro g [.ref th, .int iv, .int wv] [(th, .inr (7, [.ref (le 0), .ref (dr 0), .ref rd, .ref (pn 0), .ref (sa 0), .ref tk, .ref (sg 0), .ref (us 0), .ref (ks 0), .ref sk])), (le 0, .inr (0, [.ref (le 1), .int (nI len)])), (pn 0, .inr (1, [.ref (pn 1), .ref (pn 2), .ref (pn 3), .ref (pn 4), .ref (pn 5), .int (nI (ps 0)), .int (nI (ps 1)), .int (nI (ps 2)), .int (nI (ps 3)), .int (nI (ps 4))])), (pn 1, .inl (g.2.1, 8, .inl (pa 0))), (pn 2, .inl (g.2.1, 64, .inl (pa 1))), (pn 3, .inl (g.2.1, 5, .inl (pa 2))), (pn 4, .inl (g.2.1, 5, .inl (pa 3))), (pn 5, .inl (g.2.1, 6, .inl (pa 4))), (sa 0, .inr (5, [.ref (sa 1), .ref (sa 2), .ref (sa 3), .ref (sa 4), .int (nI dy)])), (sa 1, .inl (g.2.1, 64, .inl (x 0))), (sa 2, .inl (g.2.1, 5, .inl (x 1))), (sa 3, .inl (g.2.1, 5, .inl (x 2))), (sa 4, .inl (g.2.1, 40, .inl (x 3))), (tk, .inr (6, [.ref (pn 0), .ref (sa 0)])), (sg 0, .inr (4, [.ref (sg 1), .ref (sg 2), .ref (sg 3), .int (nI gz)])), (sg 1, .inl (g.2.1, 8, .inl (ga 0))), (sg 2, .inl (g.2.1, 8, .inl (ga 1))), (sg 3, .inl (g.2.1, 8, .inl (ga 2))), (us 0, .inr (3, [.ref (us 1), .int (nI uk)])), (ks 0, .inr (3, [.ref (ks 1), .int (nI kk)]))]) (vp_Si (fun rr => rr = xFriend ps x iv wv)) 0 0 (fun _ => False) := by
  refine ro_start (cc := cX7_friend) (maxL := 7) (ty := .int) (by decide) rfl (Nat.le_of_ble_eq_true rfl) (fun p e s m args below meth c Q C hP hret ls hl => ?_)
  obtain ⟨hx, hb, hml, hr, hown, hts, hlk, hKK⟩ := id C
  have hK := hKK.1
  have hown : s.vm.findClass RX7 = some m.cls := hown
  have ctx : CallFix p m c cX7_friend 7 s args wsX7_friend RX7 := ⟨hx, hb, hml, hown, hts⟩
  have hl : lv_has ls 7 [(0, .ref th), (1, .int iv), (2, .int wv)] := hl
  refine lv_aload_n hx hb dX7_friend_0 rfl (lv_at hl 0 rfl) ?_
  refine lv_iload_n hx hb dX7_friend_1 rfl (lv_at hl 1 rfl) ?_
  refine ro_callV (As := [.int iv]) (rest := []) (b := th) ctx hKK hP (c_X7_isPerson l g th le dr rd pn sa tk sg us ks sk len pa ps x dy ga gz uk kk iv (by omega) (by omega) (by omega) (by omega)) gX7_friend_X7_isPerson rfl rfl rfl hdX7_isPerson ⟨Nat.le_of_ble_eq_true rfl, Nat.le_of_ble_eq_true rfl⟩ [0, 1, 2, 3, 4, 5, 6, 7, 8, 9, 10, 11, 12, 13, 14, 15, 16, 17, 18, 19] rfl (ci := 7) (q0 := 0) rfl rfl hl.1 rfl rfl (Nat.le_of_ble_eq_true rfl) dX7_friend_2 (fun r_1 hr_1 => ?_)
  subst hr_1
  refine lv_if_eq (tgt := 15) hx hb dX7_friend_5 (by decide) (fun c_2 => ?_) (fun c_2 => ?_)
  · replace c_2 := bI_f c_2
    refine lv_iconst (v := (-1)) hx hb dX7_friend_15 (by decide) ?_
    exact hret (-1) 16 ls (by simp [xFriend, c_2]) (rfl) dX7_friend_16
  · replace c_2 := bI_t c_2
    obtain ⟨i, hi, rfl⟩ := inPb_nat c_2 (by omega)
    refine lv_iload_n hx hb dX7_friend_8 rfl (lv_at hl 2 rfl) ?_
    refine ro_callS (As := [.int wv]) (rest := []) ctx hKK hP (c_X7_isPart l g wv) gX7_friend_X7_isPart rfl rfl rfl hdX7_isPart ⟨Nat.le_of_ble_eq_true rfl, Nat.le_of_ble_eq_true rfl⟩ [] rfl hl.1 rfl rfl (Nat.le_of_ble_eq_true rfl) dX7_friend_9 (fun r_3 hr_3 => ?_)
    subst hr_3
    refine lv_if_ne (tgt := 17) hx hb dX7_friend_12 (by decide) (fun c_4 => ?_) (fun c_4 => ?_)
    · replace c_4 := bI_t c_4
      refine lv_bipush (v := (-4)) hx hb dX7_friend_17 (by decide) ?_
      refine lv_istore_n (lv' := [(3, .int (-4)), (0, .ref th), (1, .int (nI i)), (2, .int wv)]) hx hb dX7_friend_19 rfl hl (by decide) rfl (fun ls hl => ?_)
      refine lv_iconst (v := (-1)) hx hb dX7_friend_20 (by decide) ?_
      refine lv_istore (lv' := [(4, .int (-1)), (3, .int (-4)), (0, .ref th), (1, .int (nI i)), (2, .int wv)]) hx hb dX7_friend_21 hl (by decide) rfl (fun ls hl => ?_)
      refine lv_iconst (v := nI 0) hx hb dX7_friend_23 (by decide) ?_
      refine lv_istore (lv' := [(5, .int (nI 0)), (4, .int (-1)), (3, .int (-4)), (0, .ref th), (1, .int (nI i)), (2, .int wv)]) hx hb dX7_friend_24 hl (by decide) rfl (fun ls hl => ?_)
      have LP26 : ∀ (fu : Nat) (j : Nat) (x3 : Int32) (x4 : Int32), ps 0 - j < fu → (j ≤ ps 0) → (x3 = (frL (x 0) i j).1) → (x4 = (frL (x 0) i j).2) → ∀ (ls : Array Slot), lv_has ls 7 [(5, .int (nI j)), (4, .int x4), (3, .int x3), (0, .ref th), (1, .int (nI i)), (2, .int wv)] → W p l e ({ frames := 1, cells := 0, slots := 0, locals := 21 } : Room) s m args below meth c s.heap [] 0 0 Q (F0 m 26 ls []) := by
        intro fu
        induction fu with
        | zero => intro j x3 x4 hfu; exact absurd hfu (Nat.not_lt_zero _)
        | succ fu ih26 =>
          intro j x3 x4 hfu hj ex3 ex4 ls hl
          refine lv_iload hx hb dX7_friend_26 (lv_at hl 0 rfl) ?_
          refine lv_aload_n hx hb dX7_friend_28 rfl (lv_at hl 3 rfl) ?_
          refine va_get (D := g.1) (cl := vwCl) (ci := 7) (v := .ref (pn 0)) (C := RX7) (T := TX7) (N := 10) hx hb hts hX7_friend_X7 hown hK hP 0 rfl rfl 3 (by decide) (hts _ kX7_friend_f32) (fun _ h9 => h9) rfl dX7_friend_29 ?_
          refine va_get (D := g.1) (cl := vwCl) (ci := 1) (v := .int (nI (ps 0))) (C := RX1) (T := TX1) (N := 10) hx hb hts hX7_friend_X1 hown hK hP 2 rfl rfl 5 (by decide) (hts _ kX7_friend_f198) (fun _ h9 => h9) rfl dX7_friend_32 ?_
          refine lv_icmp_ge (tgt := 80) hx hb dX7_friend_35 (by decide) (fun c_5 => ?_) (fun c_5 => ?_)
          · replace c_5 : (ps 0) ≤ j := (nI_leI (a := ps 0) (b := j) (by omega) (by omega)).mp c_5
            refine lv_iload_n hx hb dX7_friend_80 rfl (lv_at hl 5 rfl) ?_
            refine lv_if_ne (tgt := 88) hx hb dX7_friend_81 (by decide) (fun c_6 => ?_) (fun c_6 => ?_)
            · refine lv_iload hx hb dX7_friend_88 (lv_at hl 1 rfl) ?_
              exact hret x4 90 ls (by rw [show j = ps 0 by omega] at ex3 ex4; simp [xFriend, c_2, c_4, c_5, c_6, nI_clamp (show i < 2 ^ 31 by omega), isPb_0, ← ex3, ← ex4]) (rfl) dX7_friend_90
            · refine lv_iload_n hx hb dX7_friend_84 rfl (lv_at hl 2 rfl) ?_
              refine lv_goto (tgt := 90) hx hb dX7_friend_85 (by decide) ?_
              exact hret x3 90 ls (by rw [show j = ps 0 by omega] at ex3 ex4; simp [xFriend, c_2, c_4, c_5, c_6, nI_clamp (show i < 2 ^ 31 by omega), isPb_0, ← ex3, ← ex4]) (rfl) dX7_friend_90
          · replace c_5 : ¬ (ps 0) ≤ j := fun h => c_5 ((nI_leI (a := ps 0) (b := j) (by omega) (by omega)).mpr h)
            refine lv_aload_n hx hb dX7_friend_38 rfl (lv_at hl 3 rfl) ?_
            refine va_get (D := g.1) (cl := vwCl) (ci := 7) (v := .ref (sa 0)) (C := RX7) (T := TX7) (N := 10) hx hb hts hX7_friend_X7 hown hK hP 0 rfl rfl 4 (by decide) (hts _ kX7_friend_f38) (fun _ h9 => h9) rfl dX7_friend_39 ?_
            refine va_get (D := g.1) (cl := vwCl) (ci := 5) (v := .ref (sa 1)) (C := RX5) (T := TX5) (N := 5) hx hb hts hX7_friend_X5 hown hK hP 8 rfl rfl 0 (by decide) (hts _ kX7_friend_f128) (fun _ h9 => h9) rfl dX7_friend_42 ?_
            refine lv_iload hx hb dX7_friend_45 (lv_at hl 0 rfl) ?_
            refine lv_iload_n hx hb dX7_friend_47 rfl (lv_at hl 4 rfl) ?_
            refine ro_callS (As := [.int (nI j), .int (nI i)]) (rest := [.ref (sa 1)]) ctx hKK hP (c_X7_pair l g j i) gX7_friend_X7_pair rfl rfl rfl hdX7_pair ⟨Nat.le_of_ble_eq_true rfl, Nat.le_of_ble_eq_true rfl⟩ [] rfl hl.1 rfl rfl (Nat.le_of_ble_eq_true rfl) dX7_friend_48 (fun r_7 hr_7 => ?_)
            subst hr_7
            refine ald_i (D := g.1) (cl := vwCl) (f := x 0) (i := j * 8 + i) (n := 64) hx hb hK hP 9 0 rfl rfl (by omega) (by decide) dX7_friend_51 ?_
            refine lv_istore (lv' := [(6, .int ((x 0) (j * 8 + i))), (5, .int (nI j)), (4, .int x4), (3, .int x3), (0, .ref th), (1, .int (nI i)), (2, .int wv)]) hx hb dX7_friend_52 hl (by decide) rfl (fun ls hl => ?_)
            refine lv_iload hx hb dX7_friend_54 (lv_at hl 1 rfl) ?_
            refine lv_iload_n hx hb dX7_friend_56 rfl (lv_at hl 5 rfl) ?_
            refine lv_icmp_eq (tgt := 74) hx hb dX7_friend_57 (by decide) (fun c_8 => ?_) (fun c_8 => ?_)
            · replace c_8 : j = i := (nI_eq (a := j) (b := i) (by omega) (by omega)).mp c_8
              refine lv_iinc (v := nI (j + 1)) (lv' := [(5, .int (nI (j + 1))), (6, .int ((x 0) (j * 8 + i))), (4, .int x4), (3, .int x3), (0, .ref th), (1, .int (nI i)), (2, .int wv)]) hx hb dX7_friend_74 hl (k := 1) rfl (iincK j 1) (by decide) rfl (fun ls hl => ?_)
              refine lv_goto (tgt := 26) hx hb dX7_friend_77 (by decide) ?_
              exact ih26 (j + 1) x3 x4 (by omega) (by omega) (by rw [frL, if_neg (by rintro ⟨h1, h2⟩; first | exact h1 c_8 | (rw [← ex4] at h2; exact h2 c_8))]; exact ex3) (by rw [frL, if_neg (by rintro ⟨h1, h2⟩; first | exact h1 c_8 | (rw [← ex4] at h2; exact h2 c_8))]; exact ex4) ls (lv_sub hl [0, 2, 3, 4, 5, 6] rfl)
            · replace c_8 : ¬ j = i := fun h => c_8 ((nI_eq (a := j) (b := i) (by omega) (by omega)).mpr h)
              refine lv_iload hx hb dX7_friend_60 (lv_at hl 0 rfl) ?_
              refine lv_iload hx hb dX7_friend_62 (lv_at hl 2 rfl) ?_
              refine lv_icmp_le (tgt := 74) hx hb dX7_friend_64 (by decide) (fun c_9 => ?_) (fun c_9 => ?_)
              · refine lv_iinc (v := nI (j + 1)) (lv' := [(5, .int (nI (j + 1))), (6, .int ((x 0) (j * 8 + i))), (4, .int x4), (3, .int x3), (0, .ref th), (1, .int (nI i)), (2, .int wv)]) hx hb dX7_friend_74 hl (k := 1) rfl (iincK j 1) (by decide) rfl (fun ls hl => ?_)
                refine lv_goto (tgt := 26) hx hb dX7_friend_77 (by decide) ?_
                exact ih26 (j + 1) x3 x4 (by omega) (by omega) (by rw [frL, if_neg (by rintro ⟨h1, h2⟩; first | exact h1 c_9 | (rw [← ex4] at h2; exact h2 c_9))]; exact ex3) (by rw [frL, if_neg (by rintro ⟨h1, h2⟩; first | exact h1 c_9 | (rw [← ex4] at h2; exact h2 c_9))]; exact ex4) ls (lv_sub hl [0, 2, 3, 4, 5, 6] rfl)
              · refine lv_iload hx hb dX7_friend_67 (lv_at hl 1 rfl) ?_
                refine lv_istore_n (lv' := [(3, .int (nI j)), (6, .int ((x 0) (j * 8 + i))), (5, .int (nI j)), (4, .int x4), (0, .ref th), (1, .int (nI i)), (2, .int wv)]) hx hb dX7_friend_69 rfl hl (by decide) rfl (fun ls hl => ?_)
                refine lv_iload hx hb dX7_friend_70 (lv_at hl 1 rfl) ?_
                refine lv_istore (lv' := [(4, .int ((x 0) (j * 8 + i))), (3, .int (nI j)), (6, .int ((x 0) (j * 8 + i))), (5, .int (nI j)), (0, .ref th), (1, .int (nI i)), (2, .int wv)]) hx hb dX7_friend_72 hl (by decide) rfl (fun ls hl => ?_)
                refine lv_iinc (v := nI (j + 1)) (lv' := [(5, .int (nI (j + 1))), (4, .int ((x 0) (j * 8 + i))), (3, .int (nI j)), (6, .int ((x 0) (j * 8 + i))), (0, .ref th), (1, .int (nI i)), (2, .int wv)]) hx hb dX7_friend_74 hl (k := 3) rfl (iincK j 1) (by decide) rfl (fun ls hl => ?_)
                refine lv_goto (tgt := 26) hx hb dX7_friend_77 (by decide) ?_
                exact ih26 (j + 1) (nI j) ((x 0) (j * 8 + i)) (by omega) (by omega) (by rw [frL, if_pos ⟨c_8, by rw [← ex4]; exact c_9⟩]) (by rw [frL, if_pos ⟨c_8, by rw [← ex4]; exact c_9⟩]) ls (lv_sub hl [0, 1, 2, 4, 5, 6] rfl)
      exact LP26 (ps 0 + 1) 0 (-4) (-1) (by omega) (by omega) (rfl) (rfl) ls (lv_sub hl [0, 1, 2, 3, 4, 5] rfl)
    · replace c_4 := bI_f c_4
      refine lv_iconst (v := (-1)) hx hb dX7_friend_15 (by decide) ?_
      exact hret (-1) 16 ls (by simp [xFriend, c_2, c_4, nI_clamp (show i < 2 ^ 31 by omega)]) (rfl) dX7_friend_16
theorem kX7_called_f54 : (Cond.fieldLink RX7 54 "LastCallersWord" "sightings" "LLastCallersWord$Sightings;" : Cond) ∈ wsX7_called := List.mem_cons_of_mem _ aw_33
theorem hX7_called_X7 : ∀ w ∈ wsX70, w ∈ wsX7_called := fun w h => List.mem_cons_of_mem _ (ac_X7 w h)
theorem kX7_called_f32 : (Cond.fieldLink RX7 32 "LastCallersWord" "plan" "LLastCallersWord$Plan;" : Cond) ∈ wsX7_called := List.mem_cons_of_mem _ aw_21
theorem kX7_called_f198 : (Cond.fieldLink RX7 198 "LastCallersWord$Plan" "persons" "I" : Cond) ∈ wsX7_called := List.mem_cons_of_mem _ aw_435
theorem hX7_called_X1 : ∀ w ∈ wsX10, w ∈ wsX7_called := fun w h => List.mem_cons_of_mem _ (ac_X1 w h)
theorem kX7_called_f47 : (Cond.fieldLink RX7 47 "LastCallersWord" "talk" "LLastCallersWord$Talk;" : Cond) ∈ wsX7_called := List.mem_cons_of_mem _ aw_29
set_option maxHeartbeats 4000000 in
set_option maxRecDepth 100000 in
theorem c_X7_called (l : Launch) (g : GG) (th : Nat) (le : Nat → Nat) (dr : Nat → Nat) (rd : Nat) (pn : Nat → Nat) (sa : Nat → Nat) (tk : Nat) (sg : Nat → Nat) (us : Nat → Nat) (ks : Nat → Nat) (sk : Nat) (len : Nat) (pa : Nat → Nat → Int32) (ps : Nat → Nat) (x : Nat → Nat → Int32) (dy : Nat) (ga : Nat → Nat → Int32) (gz : Nat) (uk : Nat) (kk : Nat) (dv : Int32) (hP8 : ps 0 ≤ 8) (hD5 : ps 2 ≤ 5) (hW6 : ps 3 ≤ 6) (hgz : gz ≤ 8) : Met l yX7_called wsX7_called ({ frames := 5, cells := 0, slots := 0, locals := 113 } : Room) (ro g [.ref th, .int dv] [(th, .inr (7, [.ref (le 0), .ref (dr 0), .ref rd, .ref (pn 0), .ref (sa 0), .ref tk, .ref (sg 0), .ref (us 0), .ref (ks 0), .ref sk])), (le 0, .inr (0, [.ref (le 1), .int (nI len)])), (pn 0, .inr (1, [.ref (pn 1), .ref (pn 2), .ref (pn 3), .ref (pn 4), .ref (pn 5), .int (nI (ps 0)), .int (nI (ps 1)), .int (nI (ps 2)), .int (nI (ps 3)), .int (nI (ps 4))])), (pn 1, .inl (g.2.1, 8, .inl (pa 0))), (pn 2, .inl (g.2.1, 64, .inl (pa 1))), (pn 3, .inl (g.2.1, 5, .inl (pa 2))), (pn 4, .inl (g.2.1, 5, .inl (pa 3))), (pn 5, .inl (g.2.1, 6, .inl (pa 4))), (sa 0, .inr (5, [.ref (sa 1), .ref (sa 2), .ref (sa 3), .ref (sa 4), .int (nI dy)])), (sa 1, .inl (g.2.1, 64, .inl (x 0))), (sa 2, .inl (g.2.1, 5, .inl (x 1))), (sa 3, .inl (g.2.1, 5, .inl (x 2))), (sa 4, .inl (g.2.1, 40, .inl (x 3))), (tk, .inr (6, [.ref (pn 0), .ref (sa 0)])), (sg 0, .inr (4, [.ref (sg 1), .ref (sg 2), .ref (sg 3), .int (nI gz)])), (sg 1, .inl (g.2.1, 8, .inl (ga 0))), (sg 2, .inl (g.2.1, 8, .inl (ga 1))), (sg 3, .inl (g.2.1, 8, .inl (ga 2))), (us 0, .inr (3, [.ref (us 1), .int (nI uk)])), (ks 0, .inr (3, [.ref (ks 1), .int (nI kk)]))]) (vp_Si (fun rr => rr = xCalled pa ps x ga gz dv)) 0 0 (fun _ => False) := by
  refine ro_start (cc := cX7_called) (maxL := 6) (ty := .int) (by decide) rfl (Nat.le_of_ble_eq_true rfl) (fun p e s m args below meth c Q C hP hret ls hl => ?_)
  obtain ⟨hx, hb, hml, hr, hown, hts, hlk, hKK⟩ := id C
  have hK := hKK.1
  have hown : s.vm.findClass RX7 = some m.cls := hown
  have ctx : CallFix p m c cX7_called 6 s args wsX7_called RX7 := ⟨hx, hb, hml, hown, hts⟩
  have hl : lv_has ls 6 [(0, .ref th), (1, .int dv)] := hl
  refine lv_aload_n hx hb dX7_called_0 rfl (lv_at hl 0 rfl) ?_
  refine lv_iload_n hx hb dX7_called_1 rfl (lv_at hl 1 rfl) ?_
  refine ro_callV (As := [.int dv]) (rest := []) (b := th) ctx hKK hP (c_X7_isDoor l g th le dr rd pn sa tk sg us ks sk len pa ps x dy ga gz uk kk dv (by omega) (by omega) (by omega) (by omega)) gX7_called_X7_isDoor rfl rfl rfl hdX7_isDoor ⟨Nat.le_of_ble_eq_true rfl, Nat.le_of_ble_eq_true rfl⟩ [0, 1, 2, 3, 4, 5, 6, 7, 8, 9, 10, 11, 12, 13, 14, 15, 16, 17, 18, 19] rfl (ci := 7) (q0 := 0) rfl rfl hl.1 rfl rfl (Nat.le_of_ble_eq_true rfl) dX7_called_2 (fun r_1 hr_1 => ?_)
  subst hr_1
  refine lv_if_ne (tgt := 10) hx hb dX7_called_5 (by decide) (fun c_2 => ?_) (fun c_2 => ?_)
  · replace c_2 := bI_t c_2
    obtain ⟨d, hd, rfl⟩ := inPb_nat c_2 (by omega)
    refine lv_aload_n hx hb dX7_called_10 rfl (lv_at hl 0 rfl) ?_
    refine va_get (D := g.1) (cl := vwCl) (ci := 7) (v := .ref (sg 0)) (C := RX7) (T := TX7) (N := 10) hx hb hts hX7_called_X7 hown hK hP 0 rfl rfl 6 (by decide) (hts _ kX7_called_f54) (fun _ h9 => h9) rfl dX7_called_11 ?_
    refine lv_iload_n hx hb dX7_called_14 rfl (lv_at hl 1 rfl) ?_
    refine ro_callV (As := [.int (nI d)]) (rest := []) (b := sg 0) ctx hKK hP (c_X4_lookedAt l g (sg 0) (sg 1) (sg 2) (sg 3) (ga 0) (ga 1) (ga 2) gz (nI d) (by omega)) gX7_called_X4_lookedAt rfl rfl rfl hdX4_lookedAt ⟨Nat.le_of_ble_eq_true rfl, Nat.le_of_ble_eq_true rfl⟩ [14, 15, 16, 17] rfl (ci := 4) (q0 := 0) rfl rfl hl.1 rfl rfl (Nat.le_of_ble_eq_true rfl) dX7_called_15 (fun r_3 hr_3 => ?_)
    subst hr_3
    refine lv_istore_n (lv' := [(2, .int (lkA (ga 0) (ga 1) (nI d) gz)), (0, .ref th), (1, .int (nI d))]) hx hb dX7_called_18 rfl hl (by decide) rfl (fun ls hl => ?_)
    refine lv_aload_n hx hb dX7_called_19 rfl (lv_at hl 1 rfl) ?_
    refine va_get (D := g.1) (cl := vwCl) (ci := 7) (v := .ref (sg 0)) (C := RX7) (T := TX7) (N := 10) hx hb hts hX7_called_X7 hown hK hP 0 rfl rfl 6 (by decide) (hts _ kX7_called_f54) (fun _ h9 => h9) rfl dX7_called_20 ?_
    refine lv_iload_n hx hb dX7_called_23 rfl (lv_at hl 2 rfl) ?_
    refine ro_callV (As := [.int (nI d)]) (rest := []) (b := sg 0) ctx hKK hP (c_X4_cameInAt l g (sg 0) (sg 1) (sg 2) (sg 3) (ga 0) (ga 1) (ga 2) gz (nI d) (by omega)) gX7_called_X4_cameInAt rfl rfl rfl hdX4_cameInAt ⟨Nat.le_of_ble_eq_true rfl, Nat.le_of_ble_eq_true rfl⟩ [14, 15, 16, 17] rfl (ci := 4) (q0 := 0) rfl rfl hl.1 rfl rfl (Nat.le_of_ble_eq_true rfl) dX7_called_24 (fun r_4 hr_4 => ?_)
    subst hr_4
    refine lv_istore_n (lv' := [(3, .int (ciA (ga 0) (ga 1) (ga 2) (nI d) gz)), (2, .int (lkA (ga 0) (ga 1) (nI d) gz)), (0, .ref th), (1, .int (nI d))]) hx hb dX7_called_27 rfl hl (by decide) rfl (fun ls hl => ?_)
    refine lv_iconst (v := nI 0) hx hb dX7_called_28 (by decide) ?_
    refine lv_istore (lv' := [(4, .int (nI 0)), (3, .int (ciA (ga 0) (ga 1) (ga 2) (nI d) gz)), (2, .int (lkA (ga 0) (ga 1) (nI d) gz)), (0, .ref th), (1, .int (nI d))]) hx hb dX7_called_29 hl (by decide) rfl (fun ls hl => ?_)
    refine lv_iconst (v := nI 0) hx hb dX7_called_31 (by decide) ?_
    refine lv_istore (lv' := [(5, .int (nI 0)), (4, .int (nI 0)), (3, .int (ciA (ga 0) (ga 1) (ga 2) (nI d) gz)), (2, .int (lkA (ga 0) (ga 1) (nI d) gz)), (0, .ref th), (1, .int (nI d))]) hx hb dX7_called_32 hl (by decide) rfl (fun ls hl => ?_)
    have LP34 : ∀ (fu : Nat) (j : Nat) (x4 : Int32), ps 0 - j < fu → (j ≤ ps 0) → (x4 = caL (pa 0) (x 0) (ps 0) (lkA (ga 0) (ga 1) (nI d) gz) (ciA (ga 0) (ga 1) (ga 2) (nI d) gz) j) → ∀ (ls : Array Slot), lv_has ls 6 [(5, .int (nI j)), (4, .int x4), (3, .int (ciA (ga 0) (ga 1) (ga 2) (nI d) gz)), (2, .int (lkA (ga 0) (ga 1) (nI d) gz)), (0, .ref th), (1, .int (nI d))] → W p l e ({ frames := 5, cells := 0, slots := 0, locals := 113 } : Room) s m args below meth c s.heap [] 0 0 Q (F0 m 34 ls []) := by
      intro fu
      induction fu with
      | zero => intro j x4 hfu; exact absurd hfu (Nat.not_lt_zero _)
      | succ fu ih34 =>
        intro j x4 hfu hj ex4 ls hl
        refine lv_iload hx hb dX7_called_34 (lv_at hl 0 rfl) ?_
        refine lv_aload_n hx hb dX7_called_36 rfl (lv_at hl 4 rfl) ?_
        refine va_get (D := g.1) (cl := vwCl) (ci := 7) (v := .ref (pn 0)) (C := RX7) (T := TX7) (N := 10) hx hb hts hX7_called_X7 hown hK hP 0 rfl rfl 3 (by decide) (hts _ kX7_called_f32) (fun _ h9 => h9) rfl dX7_called_37 ?_
        refine va_get (D := g.1) (cl := vwCl) (ci := 1) (v := .int (nI (ps 0))) (C := RX1) (T := TX1) (N := 10) hx hb hts hX7_called_X1 hown hK hP 2 rfl rfl 5 (by decide) (hts _ kX7_called_f198) (fun _ h9 => h9) rfl dX7_called_40 ?_
        refine lv_icmp_ge (tgt := 76) hx hb dX7_called_43 (by decide) (fun c_5 => ?_) (fun c_5 => ?_)
        · replace c_5 : (ps 0) ≤ j := (nI_leI (a := ps 0) (b := j) (by omega) (by omega)).mp c_5
          refine lv_iload hx hb dX7_called_76 (lv_at hl 1 rfl) ?_
          exact hret x4 78 ls (by rw [xCalled, if_pos (by assumption), ex4, show j = ps 0 by omega]) (rfl) dX7_called_78
        · replace c_5 : ¬ (ps 0) ≤ j := fun h => c_5 ((nI_leI (a := ps 0) (b := j) (by omega) (by omega)).mpr h)
          refine lv_aload_n hx hb dX7_called_46 rfl (lv_at hl 4 rfl) ?_
          refine va_get (D := g.1) (cl := vwCl) (ci := 7) (v := .ref tk) (C := RX7) (T := TX7) (N := 10) hx hb hts hX7_called_X7 hown hK hP 0 rfl rfl 5 (by decide) (hts _ kX7_called_f47) (fun _ h9 => h9) rfl dX7_called_47 ?_
          refine lv_iload hx hb dX7_called_50 (lv_at hl 0 rfl) ?_
          refine ro_callV (As := [.int (nI j)]) (rest := []) (b := tk) ctx hKK hP (c_X6_knowersByCall l g tk (pn 0) (pn 1) (pn 2) (pn 3) (pn 4) (pn 5) (sa 0) (sa 1) (sa 2) (sa 3) (sa 4) (ps 0) (ps 1) (ps 2) (ps 3) (ps 4) dy (pa 0) (x 0) (nI j) (by omega)) gX7_called_X6_knowersByCall rfl rfl rfl hdX6_knowersByCall ⟨Nat.le_of_ble_eq_true rfl, Nat.le_of_ble_eq_true rfl⟩ [13, 2, 3, 8, 9] rfl (ci := 6) (q0 := 0) rfl rfl hl.1 rfl rfl (Nat.le_of_ble_eq_true rfl) dX7_called_52 (fun r_6 hr_6 => ?_)
          subst hr_6
          refine lv_iload_n hx hb dX7_called_55 rfl (lv_at hl 3 rfl) ?_
          refine lv_iand hx hb dX7_called_56 ?_
          refine lv_iload_n hx hb dX7_called_57 rfl (lv_at hl 2 rfl) ?_
          refine lv_icmp_ne (tgt := 70) hx hb dX7_called_58 (by decide) (fun c_7 => ?_) (fun c_7 => ?_)
          · refine lv_iinc (v := nI (j + 1)) (lv' := [(5, .int (nI (j + 1))), (4, .int x4), (3, .int (ciA (ga 0) (ga 1) (ga 2) (nI d) gz)), (2, .int (lkA (ga 0) (ga 1) (nI d) gz)), (0, .ref th), (1, .int (nI d))]) hx hb dX7_called_70 hl (k := 0) rfl (iincK j 1) (by decide) rfl (fun ls hl => ?_)
            refine lv_goto (tgt := 34) hx hb dX7_called_73 (by decide) ?_
            exact ih34 (j + 1) x4 (by omega) (by omega) (by rw [caL, ← ex4]; simp [c_2, c_5, c_7]) ls (lv_sub hl [0, 1, 2, 3, 4, 5] rfl)
          · refine lv_iload hx hb dX7_called_61 (lv_at hl 1 rfl) ?_
            refine lv_iconst (v := nI 1) hx hb dX7_called_63 (by decide) ?_
            refine lv_iload hx hb dX7_called_64 (lv_at hl 0 rfl) ?_
            refine lv_ishl hx hb dX7_called_66 ?_
            refine lv_ior hx hb dX7_called_67 ?_
            refine lv_istore (lv' := [(4, .int (x4 ||| ((nI 1) <<< ((nI j) &&& 31)))), (5, .int (nI j)), (3, .int (ciA (ga 0) (ga 1) (ga 2) (nI d) gz)), (2, .int (lkA (ga 0) (ga 1) (nI d) gz)), (0, .ref th), (1, .int (nI d))]) hx hb dX7_called_68 hl (by decide) rfl (fun ls hl => ?_)
            refine lv_iinc (v := nI (j + 1)) (lv' := [(5, .int (nI (j + 1))), (4, .int (x4 ||| ((nI 1) <<< ((nI j) &&& 31)))), (3, .int (ciA (ga 0) (ga 1) (ga 2) (nI d) gz)), (2, .int (lkA (ga 0) (ga 1) (nI d) gz)), (0, .ref th), (1, .int (nI d))]) hx hb dX7_called_70 hl (k := 1) rfl (iincK j 1) (by decide) rfl (fun ls hl => ?_)
            refine lv_goto (tgt := 34) hx hb dX7_called_73 (by decide) ?_
            exact ih34 (j + 1) (x4 ||| ((nI 1) <<< ((nI j) &&& 31))) (by omega) (by omega) (by rw [caL, ← ex4]; simp [c_2, c_5, c_7]) ls (lv_sub hl [0, 1, 2, 3, 4, 5] rfl)
    exact LP34 (ps 0 + 1) 0 (nI 0) (by omega) (by omega) (rfl) ls (lv_sub hl [0, 1, 2, 3, 4, 5] rfl)
  · replace c_2 := bI_f c_2
    refine lv_iconst (v := (-1)) hx hb dX7_called_8 (by decide) ?_
    exact hret (-1) 9 ls (by simp [xCalled, c_2]) (rfl) dX7_called_9
theorem kX7_guess_f32 : (Cond.fieldLink RX7 32 "LastCallersWord" "plan" "LLastCallersWord$Plan;" : Cond) ∈ wsX7_guess := List.mem_cons_of_mem _ aw_21
theorem hX7_guess_X7 : ∀ w ∈ wsX70, w ∈ wsX7_guess := fun w h => List.mem_cons_of_mem _ (ac_X7 w h)
theorem kX7_guess_f213 : (Cond.fieldLink RX7 213 "LastCallersWord$Plan" "words" "I" : Cond) ∈ wsX7_guess := List.mem_cons_of_mem _ aw_678
theorem hX7_guess_X1 : ∀ w ∈ wsX10, w ∈ wsX7_guess := fun w h => List.mem_cons_of_mem _ (ac_X1 w h)
set_option maxHeartbeats 4000000 in
set_option maxRecDepth 100000 in
theorem c_X7_guess (l : Launch) (g : GG) (th : Nat) (le : Nat → Nat) (dr : Nat → Nat) (rd : Nat) (pn : Nat → Nat) (sa : Nat → Nat) (tk : Nat) (sg : Nat → Nat) (us : Nat → Nat) (ks : Nat → Nat) (sk : Nat) (len : Nat) (pa : Nat → Nat → Int32) (ps : Nat → Nat) (x : Nat → Nat → Int32) (dy : Nat) (ga : Nat → Nat → Int32) (gz : Nat) (uk : Nat) (kk : Nat) (kv : Int32) (hP8 : ps 0 ≤ 8) (hD5 : ps 2 ≤ 5) (hW6 : ps 3 ≤ 6) (hgz : gz ≤ 8) : Met l yX7_guess wsX7_guess ({ frames := 1, cells := 0, slots := 0, locals := 25 } : Room) (ro g [.ref th, .int kv] [(th, .inr (7, [.ref (le 0), .ref (dr 0), .ref rd, .ref (pn 0), .ref (sa 0), .ref tk, .ref (sg 0), .ref (us 0), .ref (ks 0), .ref sk])), (le 0, .inr (0, [.ref (le 1), .int (nI len)])), (pn 0, .inr (1, [.ref (pn 1), .ref (pn 2), .ref (pn 3), .ref (pn 4), .ref (pn 5), .int (nI (ps 0)), .int (nI (ps 1)), .int (nI (ps 2)), .int (nI (ps 3)), .int (nI (ps 4))])), (pn 1, .inl (g.2.1, 8, .inl (pa 0))), (pn 2, .inl (g.2.1, 64, .inl (pa 1))), (pn 3, .inl (g.2.1, 5, .inl (pa 2))), (pn 4, .inl (g.2.1, 5, .inl (pa 3))), (pn 5, .inl (g.2.1, 6, .inl (pa 4))), (sa 0, .inr (5, [.ref (sa 1), .ref (sa 2), .ref (sa 3), .ref (sa 4), .int (nI dy)])), (sa 1, .inl (g.2.1, 64, .inl (x 0))), (sa 2, .inl (g.2.1, 5, .inl (x 1))), (sa 3, .inl (g.2.1, 5, .inl (x 2))), (sa 4, .inl (g.2.1, 40, .inl (x 3))), (tk, .inr (6, [.ref (pn 0), .ref (sa 0)])), (sg 0, .inr (4, [.ref (sg 1), .ref (sg 2), .ref (sg 3), .int (nI gz)])), (sg 1, .inl (g.2.1, 8, .inl (ga 0))), (sg 2, .inl (g.2.1, 8, .inl (ga 1))), (sg 3, .inl (g.2.1, 8, .inl (ga 2))), (us 0, .inr (3, [.ref (us 1), .int (nI uk)])), (ks 0, .inr (3, [.ref (ks 1), .int (nI kk)]))]) (vp_Si (fun rr => rr = xGuess pa ps kv)) 0 0 (fun _ => False) := by
  refine ro_start (cc := cX7_guess) (maxL := 3) (ty := .int) (by decide) rfl (Nat.le_of_ble_eq_true rfl) (fun p e s m args below meth c Q C hP hret ls hl => ?_)
  obtain ⟨hx, hb, hml, hr, hown, hts, hlk, hKK⟩ := id C
  have hK := hKK.1
  have hown : s.vm.findClass RX7 = some m.cls := hown
  have ctx : CallFix p m c cX7_guess 3 s args wsX7_guess RX7 := ⟨hx, hb, hml, hown, hts⟩
  have hl : lv_has ls 3 [(0, .ref th), (1, .int kv)] := hl
  refine lv_iload_n hx hb dX7_guess_0 rfl (lv_at hl 1 rfl) ?_
  refine lv_if_ge (tgt := 6) hx hb dX7_guess_1 (by decide) (fun c_1 => ?_) (fun c_1 => ?_)
  · refine lv_iconst (v := nI 0) hx hb dX7_guess_6 (by decide) ?_
    refine lv_istore_n (lv' := [(2, .int (nI 0)), (0, .ref th), (1, .int kv)]) hx hb dX7_guess_7 rfl hl (by decide) rfl (fun ls hl => ?_)
    have LP8 : ∀ (fu : Nat) (j : Nat), ps 3 - j < fu → (j ≤ ps 3) → (guL (pa 4) (ps 3) kv (ps 3) = guL (pa 4) (ps 3) kv (ps 3 - j)) → ∀ (ls : Array Slot), lv_has ls 3 [(2, .int (nI j)), (0, .ref th), (1, .int kv)] → W p l e ({ frames := 1, cells := 0, slots := 0, locals := 25 } : Room) s m args below meth c s.heap [] 0 0 Q (F0 m 8 ls []) := by
      intro fu
      induction fu with
      | zero => intro j hfu; exact absurd hfu (Nat.not_lt_zero _)
      | succ fu ih8 =>
        intro j hfu hj eg ls hl
        refine lv_iload_n hx hb dX7_guess_8 rfl (lv_at hl 0 rfl) ?_
        refine lv_aload_n hx hb dX7_guess_9 rfl (lv_at hl 1 rfl) ?_
        refine va_get (D := g.1) (cl := vwCl) (ci := 7) (v := .ref (pn 0)) (C := RX7) (T := TX7) (N := 10) hx hb hts hX7_guess_X7 hown hK hP 0 rfl rfl 3 (by decide) (hts _ kX7_guess_f32) (fun _ h9 => h9) rfl dX7_guess_10 ?_
        refine va_get (D := g.1) (cl := vwCl) (ci := 1) (v := .int (nI (ps 3))) (C := RX1) (T := TX1) (N := 10) hx hb hts hX7_guess_X1 hown hK hP 2 rfl rfl 8 (by decide) (hts _ kX7_guess_f213) (fun _ h9 => h9) rfl dX7_guess_13 ?_
        refine lv_icmp_ge (tgt := 39) hx hb dX7_guess_16 (by decide) (fun c_2 => ?_) (fun c_2 => ?_)
        · replace c_2 : (ps 3) ≤ j := (nI_leI (a := ps 3) (b := j) (by omega) (by omega)).mp c_2
          refine lv_bipush (v := (-4)) hx hb dX7_guess_39 (by decide) ?_
          exact hret (-4) 41 ls (by rw [xGuess, if_pos c_1, eg, show ps 3 - j = 0 by omega, guL]) (rfl) dX7_guess_41
        · replace c_2 : ¬ (ps 3) ≤ j := fun h => c_2 ((nI_leI (a := ps 3) (b := j) (by omega) (by omega)).mpr h)
          refine lv_aload_n hx hb dX7_guess_19 rfl (lv_at hl 1 rfl) ?_
          refine va_get (D := g.1) (cl := vwCl) (ci := 7) (v := .ref (pn 0)) (C := RX7) (T := TX7) (N := 10) hx hb hts hX7_guess_X7 hown hK hP 0 rfl rfl 3 (by decide) (hts _ kX7_guess_f32) (fun _ h9 => h9) rfl dX7_guess_20 ?_
          refine lv_iload_n hx hb dX7_guess_23 rfl (lv_at hl 0 rfl) ?_
          refine ro_callV (As := [.int (nI j)]) (rest := []) (b := pn 0) ctx hKK hP (c_X1_rankOf l g (pn 0) (pn 1) (pn 2) (pn 3) (pn 4) (pn 5) (ps 0) (ps 1) (ps 2) (ps 3) (ps 4) (pa 4) j (by omega) (by omega)) gX7_guess_X1_rankOf rfl rfl rfl hdX1_rankOf ⟨Nat.le_of_ble_eq_true rfl, Nat.le_of_ble_eq_true rfl⟩ [2, 7] rfl (ci := 1) (q0 := 0) rfl rfl hl.1 rfl rfl (Nat.le_of_ble_eq_true rfl) dX7_guess_24 (fun r_3 hr_3 => ?_)
          subst hr_3
          refine lv_iload_n hx hb dX7_guess_27 rfl (lv_at hl 2 rfl) ?_
          refine lv_icmp_ne (tgt := 33) hx hb dX7_guess_28 (by decide) (fun c_4 => ?_) (fun c_4 => ?_)
          · refine lv_iinc (v := nI (j + 1)) (lv' := [(2, .int (nI (j + 1))), (0, .ref th), (1, .int kv)]) hx hb dX7_guess_33 hl (k := 0) rfl (iincK j 1) (by decide) rfl (fun ls hl => ?_)
            refine lv_goto (tgt := 8) hx hb dX7_guess_36 (by decide) ?_
            exact ih8 (j + 1) (by omega) (by omega) (by rw [eg, show ps 3 - j = ps 3 - (j + 1) + 1 by omega, guL, show ps 3 - (ps 3 - (j + 1) + 1) = j by omega, if_neg c_4]) ls (lv_sub hl [0, 1, 2] rfl)
          · refine lv_iload_n hx hb dX7_guess_31 rfl (lv_at hl 0 rfl) ?_
            exact hret (nI j) 32 ls (by rw [xGuess, if_pos c_1, eg, show ps 3 - j = ps 3 - (j + 1) + 1 by omega, guL, show ps 3 - (ps 3 - (j + 1) + 1) = j by omega, if_pos c_4]) (rfl) dX7_guess_32
    exact LP8 (ps 3 + 1) 0 (by omega) (by omega) (rfl) ls (lv_sub hl [0, 1, 2] rfl)
  · refine lv_iconst (v := (-1)) hx hb dX7_guess_4 (by decide) ?_
    exact hret (-1) 5 ls (by simp [xGuess, c_1]) (rfl) dX7_guess_5
theorem kX7_mean_f32 : (Cond.fieldLink RX7 32 "LastCallersWord" "plan" "LLastCallersWord$Plan;" : Cond) ∈ wsX7_mean := List.mem_cons_of_mem _ aw_21
theorem hX7_mean_X7 : ∀ w ∈ wsX70, w ∈ wsX7_mean := fun w h => List.mem_cons_of_mem _ (ac_X7 w h)
theorem kX7_mean_f213 : (Cond.fieldLink RX7 213 "LastCallersWord$Plan" "words" "I" : Cond) ∈ wsX7_mean := List.mem_cons_of_mem _ aw_678
theorem hX7_mean_X1 : ∀ w ∈ wsX10, w ∈ wsX7_mean := fun w h => List.mem_cons_of_mem _ (ac_X1 w h)
theorem kX7_mean_f219 : (Cond.fieldLink RX7 219 "LastCallersWord$Plan" "parts" "[I" : Cond) ∈ wsX7_mean := List.mem_cons_of_mem _ aw_693
set_option maxHeartbeats 4000000 in
set_option maxRecDepth 100000 in
theorem c_X7_mean (l : Launch) (g : GG) (th : Nat) (le : Nat → Nat) (dr : Nat → Nat) (rd : Nat) (pn : Nat → Nat) (sa : Nat → Nat) (tk : Nat) (sg : Nat → Nat) (us : Nat → Nat) (ks : Nat → Nat) (sk : Nat) (len : Nat) (pa : Nat → Nat → Int32) (ps : Nat → Nat) (x : Nat → Nat → Int32) (dy : Nat) (ga : Nat → Nat → Int32) (gz : Nat) (uk : Nat) (kk : Nat) (pv : Int32) (hP8 : ps 0 ≤ 8) (hD5 : ps 2 ≤ 5) (hW6 : ps 3 ≤ 6) (hgz : gz ≤ 8) : Met l yX7_mean wsX7_mean ({ frames := 2, cells := 0, slots := 0, locals := 48 } : Room) (ro g [.ref th, .int pv] [(th, .inr (7, [.ref (le 0), .ref (dr 0), .ref rd, .ref (pn 0), .ref (sa 0), .ref tk, .ref (sg 0), .ref (us 0), .ref (ks 0), .ref sk])), (le 0, .inr (0, [.ref (le 1), .int (nI len)])), (pn 0, .inr (1, [.ref (pn 1), .ref (pn 2), .ref (pn 3), .ref (pn 4), .ref (pn 5), .int (nI (ps 0)), .int (nI (ps 1)), .int (nI (ps 2)), .int (nI (ps 3)), .int (nI (ps 4))])), (pn 1, .inl (g.2.1, 8, .inl (pa 0))), (pn 2, .inl (g.2.1, 64, .inl (pa 1))), (pn 3, .inl (g.2.1, 5, .inl (pa 2))), (pn 4, .inl (g.2.1, 5, .inl (pa 3))), (pn 5, .inl (g.2.1, 6, .inl (pa 4))), (sa 0, .inr (5, [.ref (sa 1), .ref (sa 2), .ref (sa 3), .ref (sa 4), .int (nI dy)])), (sa 1, .inl (g.2.1, 64, .inl (x 0))), (sa 2, .inl (g.2.1, 5, .inl (x 1))), (sa 3, .inl (g.2.1, 5, .inl (x 2))), (sa 4, .inl (g.2.1, 40, .inl (x 3))), (tk, .inr (6, [.ref (pn 0), .ref (sa 0)])), (sg 0, .inr (4, [.ref (sg 1), .ref (sg 2), .ref (sg 3), .int (nI gz)])), (sg 1, .inl (g.2.1, 8, .inl (ga 0))), (sg 2, .inl (g.2.1, 8, .inl (ga 1))), (sg 3, .inl (g.2.1, 8, .inl (ga 2))), (us 0, .inr (3, [.ref (us 1), .int (nI uk)])), (ks 0, .inr (3, [.ref (ks 1), .int (nI kk)]))]) (vp_Si (fun rr => rr = xMean pa ps pv)) 0 0 (fun _ => False) := by
  refine ro_start (cc := cX7_mean) (maxL := 4) (ty := .int) (by decide) rfl (Nat.le_of_ble_eq_true rfl) (fun p e s m args below meth c Q C hP hret ls hl => ?_)
  obtain ⟨hx, hb, hml, hr, hown, hts, hlk, hKK⟩ := id C
  have hK := hKK.1
  have hown : s.vm.findClass RX7 = some m.cls := hown
  have ctx : CallFix p m c cX7_mean 4 s args wsX7_mean RX7 := ⟨hx, hb, hml, hown, hts⟩
  have hl : lv_has ls 4 [(0, .ref th), (1, .int pv)] := hl
  refine lv_iload_n hx hb dX7_mean_0 rfl (lv_at hl 1 rfl) ?_
  refine ro_callS (As := [.int pv]) (rest := []) ctx hKK hP (c_X7_isPart l g pv) gX7_mean_X7_isPart rfl rfl rfl hdX7_isPart ⟨Nat.le_of_ble_eq_true rfl, Nat.le_of_ble_eq_true rfl⟩ [] rfl hl.1 rfl rfl (Nat.le_of_ble_eq_true rfl) dX7_mean_1 (fun r_1 hr_1 => ?_)
  subst hr_1
  refine lv_if_ne (tgt := 9) hx hb dX7_mean_4 (by decide) (fun c_2 => ?_) (fun c_2 => ?_)
  · replace c_2 := bI_t c_2
    refine lv_aload_n hx hb dX7_mean_9 rfl (lv_at hl 0 rfl) ?_
    refine va_get (D := g.1) (cl := vwCl) (ci := 7) (v := .ref (pn 0)) (C := RX7) (T := TX7) (N := 10) hx hb hts hX7_mean_X7 hown hK hP 0 rfl rfl 3 (by decide) (hts _ kX7_mean_f32) (fun _ h9 => h9) rfl dX7_mean_10 ?_
    refine va_get (D := g.1) (cl := vwCl) (ci := 1) (v := .int (nI (ps 3))) (C := RX1) (T := TX1) (N := 10) hx hb hts hX7_mean_X1 hown hK hP 2 rfl rfl 8 (by decide) (hts _ kX7_mean_f213) (fun _ h9 => h9) rfl dX7_mean_13 ?_
    refine lv_if_ne (tgt := 22) hx hb dX7_mean_16 (by decide) (fun c_3 => ?_) (fun c_3 => ?_)
    · replace c_3 : ¬ (ps 3) = 0 := fun h => c_3 ((nI_eq (a := ps 3) (b := 0) (by omega) (by omega)).mpr h)
      refine lv_iconst (v := nI 0) hx hb dX7_mean_22 (by decide) ?_
      refine lv_istore_n (lv' := [(2, .int (nI 0)), (0, .ref th), (1, .int pv)]) hx hb dX7_mean_23 rfl hl (by decide) rfl (fun ls hl => ?_)
      refine lv_iconst (v := nI 0) hx hb dX7_mean_24 (by decide) ?_
      refine lv_istore_n (lv' := [(3, .int (nI 0)), (2, .int (nI 0)), (0, .ref th), (1, .int pv)]) hx hb dX7_mean_25 rfl hl (by decide) rfl (fun ls hl => ?_)
      have LP26 : ∀ (fu : Nat) (j : Nat) (x2 : Int32), ps 3 - j < fu → (j ≤ ps 3) → (x2 = mnA (pa 4) (ps 3) j) → ∀ (ls : Array Slot), lv_has ls 4 [(3, .int (nI j)), (2, .int x2), (0, .ref th), (1, .int pv)] → W p l e ({ frames := 2, cells := 0, slots := 0, locals := 48 } : Room) s m args below meth c s.heap [] 0 0 Q (F0 m 26 ls []) := by
        intro fu
        induction fu with
        | zero => intro j x2 hfu; exact absurd hfu (Nat.not_lt_zero _)
        | succ fu ih26 =>
          intro j x2 hfu hj ex2 ls hl
          refine lv_iload_n hx hb dX7_mean_26 rfl (lv_at hl 0 rfl) ?_
          refine lv_aload_n hx hb dX7_mean_27 rfl (lv_at hl 2 rfl) ?_
          refine va_get (D := g.1) (cl := vwCl) (ci := 7) (v := .ref (pn 0)) (C := RX7) (T := TX7) (N := 10) hx hb hts hX7_mean_X7 hown hK hP 0 rfl rfl 3 (by decide) (hts _ kX7_mean_f32) (fun _ h9 => h9) rfl dX7_mean_28 ?_
          refine va_get (D := g.1) (cl := vwCl) (ci := 1) (v := .int (nI (ps 3))) (C := RX1) (T := TX1) (N := 10) hx hb hts hX7_mean_X1 hown hK hP 2 rfl rfl 8 (by decide) (hts _ kX7_mean_f213) (fun _ h9 => h9) rfl dX7_mean_31 ?_
          refine lv_icmp_ge (tgt := 66) hx hb dX7_mean_34 (by decide) (fun c_4 => ?_) (fun c_4 => ?_)
          · replace c_4 : (ps 3) ≤ j := (nI_leI (a := ps 3) (b := j) (by omega) (by omega)).mp c_4
            refine lv_iload_n hx hb dX7_mean_66 rfl (lv_at hl 1 rfl) ?_
            refine lv_aload_n hx hb dX7_mean_67 rfl (lv_at hl 2 rfl) ?_
            refine va_get (D := g.1) (cl := vwCl) (ci := 7) (v := .ref (pn 0)) (C := RX7) (T := TX7) (N := 10) hx hb hts hX7_mean_X7 hown hK hP 0 rfl rfl 3 (by decide) (hts _ kX7_mean_f32) (fun _ h9 => h9) rfl dX7_mean_68 ?_
            refine ro_callV (As := []) (rest := [.int x2]) (b := pn 0) ctx hKK hP (c_X1_allParts l g (pn 0) (pn 1) (pn 2) (pn 3) (pn 4) (pn 5) (ps 0) (ps 1) (ps 2) (ps 3) (ps 4) (pa 4) (by omega)) gX7_mean_X1_allParts rfl rfl rfl hdX1_allParts ⟨Nat.le_of_ble_eq_true rfl, Nat.le_of_ble_eq_true rfl⟩ [2, 7] rfl (ci := 1) (q0 := 0) rfl rfl hl.1 rfl rfl (Nat.le_of_ble_eq_true rfl) dX7_mean_71 (fun r_5 hr_5 => ?_)
            subst hr_5
            refine lv_iload_n hx hb dX7_mean_74 rfl (lv_at hl 3 rfl) ?_
            refine ro_callS (As := [.int x2, .int (sumP (pa 4) (ps 3)), .int pv]) (rest := []) ctx hKK hP (c_X7_inLowestTerms l g x2 (sumP (pa 4) (ps 3)) pv) gX7_mean_X7_inLowestTerms rfl rfl rfl hdX7_inLowestTerms ⟨Nat.le_of_ble_eq_true rfl, Nat.le_of_ble_eq_true rfl⟩ [] rfl hl.1 rfl rfl (Nat.le_of_ble_eq_true rfl) dX7_mean_75 (fun r_6 hr_6 => ?_)
            subst hr_6
            exact hret (ltI x2 (sumP (pa 4) (ps 3)) pv) 78 ls (by rw [show j = ps 3 by omega] at ex2; simp [xMean, c_2, c_3, c_4, ← ex2]) (rfl) dX7_mean_78
          · replace c_4 : ¬ (ps 3) ≤ j := fun h => c_4 ((nI_leI (a := ps 3) (b := j) (by omega) (by omega)).mpr h)
            refine lv_iload_n hx hb dX7_mean_37 rfl (lv_at hl 1 rfl) ?_
            refine lv_aload_n hx hb dX7_mean_38 rfl (lv_at hl 2 rfl) ?_
            refine va_get (D := g.1) (cl := vwCl) (ci := 7) (v := .ref (pn 0)) (C := RX7) (T := TX7) (N := 10) hx hb hts hX7_mean_X7 hown hK hP 0 rfl rfl 3 (by decide) (hts _ kX7_mean_f32) (fun _ h9 => h9) rfl dX7_mean_39 ?_
            refine va_get (D := g.1) (cl := vwCl) (ci := 1) (v := .ref (pn 5)) (C := RX1) (T := TX1) (N := 10) hx hb hts hX7_mean_X1 hown hK hP 2 rfl rfl 4 (by decide) (hts _ kX7_mean_f219) (fun _ h9 => h9) rfl dX7_mean_42 ?_
            refine lv_iload_n hx hb dX7_mean_45 rfl (lv_at hl 0 rfl) ?_
            refine ald_i (D := g.1) (cl := vwCl) (f := pa 4) (i := j) (n := 6) hx hb hK hP 7 0 rfl rfl (by omega) (by decide) dX7_mean_46 ?_
            refine lv_aload_n hx hb dX7_mean_47 rfl (lv_at hl 2 rfl) ?_
            refine va_get (D := g.1) (cl := vwCl) (ci := 7) (v := .ref (pn 0)) (C := RX7) (T := TX7) (N := 10) hx hb hts hX7_mean_X7 hown hK hP 0 rfl rfl 3 (by decide) (hts _ kX7_mean_f32) (fun _ h9 => h9) rfl dX7_mean_48 ?_
            refine lv_iload_n hx hb dX7_mean_51 rfl (lv_at hl 0 rfl) ?_
            refine ro_callV (As := [.int (nI j)]) (rest := [.int ((pa 4) j), .int x2]) (b := pn 0) ctx hKK hP (c_X1_rankOf l g (pn 0) (pn 1) (pn 2) (pn 3) (pn 4) (pn 5) (ps 0) (ps 1) (ps 2) (ps 3) (ps 4) (pa 4) j (by omega) (by omega)) gX7_mean_X1_rankOf rfl rfl rfl hdX1_rankOf ⟨Nat.le_of_ble_eq_true rfl, Nat.le_of_ble_eq_true rfl⟩ [2, 7] rfl (ci := 1) (q0 := 0) rfl rfl hl.1 rfl rfl (Nat.le_of_ble_eq_true rfl) dX7_mean_52 (fun r_7 hr_7 => ?_)
            subst hr_7
            refine lv_iconst (v := nI 1) hx hb dX7_mean_55 (by decide) ?_
            refine lv_iadd hx hb dX7_mean_56 ?_
            refine lv_is (nI_add (rkN (pa 4) j (ps 3)) 1) ?_
            refine lv_imul hx hb dX7_mean_57 ?_
            refine lv_iadd hx hb dX7_mean_58 ?_
            refine lv_istore_n (lv' := [(2, .int (x2 + (((pa 4) j) * (nI ((rkN (pa 4) j (ps 3)) + 1))))), (3, .int (nI j)), (0, .ref th), (1, .int pv)]) hx hb dX7_mean_59 rfl hl (by decide) rfl (fun ls hl => ?_)
            refine lv_iinc (v := nI (j + 1)) (lv' := [(3, .int (nI (j + 1))), (2, .int (x2 + (((pa 4) j) * (nI ((rkN (pa 4) j (ps 3)) + 1))))), (0, .ref th), (1, .int pv)]) hx hb dX7_mean_60 hl (k := 1) rfl (iincK j 1) (by decide) rfl (fun ls hl => ?_)
            refine lv_goto (tgt := 26) hx hb dX7_mean_63 (by decide) ?_
            exact ih26 (j + 1) (x2 + (((pa 4) j) * (nI ((rkN (pa 4) j (ps 3)) + 1)))) (by omega) (by omega) (by rw [mnA, ← ex2]) ls (lv_sub hl [0, 1, 2, 3] rfl)
      exact LP26 (ps 3 + 1) 0 (nI 0) (by omega) (by omega) (rfl) ls (lv_sub hl [0, 1, 2, 3] rfl)
    · replace c_3 : (ps 3) = 0 := (nI_eq (a := ps 3) (b := 0) (by omega) (by omega)).mp c_3
      refine lv_bipush (v := (-4)) hx hb dX7_mean_19 (by decide) ?_
      exact hret (-4) 21 ls (by simp [xMean, c_2, c_3]) (rfl) dX7_mean_21
  · replace c_2 := bI_f c_2
    refine lv_iconst (v := (-1)) hx hb dX7_mean_7 (by decide) ?_
    exact hret (-1) 8 ls (by simp [xMean, c_2]) (rfl) dX7_mean_8
theorem kX7_inTime_f32 : (Cond.fieldLink RX7 32 "LastCallersWord" "plan" "LLastCallersWord$Plan;" : Cond) ∈ wsX7_inTime := List.mem_cons_of_mem _ aw_21
theorem hX7_inTime_X7 : ∀ w ∈ wsX70, w ∈ wsX7_inTime := fun w h => List.mem_cons_of_mem _ (ac_X7 w h)
theorem kX7_inTime_f213 : (Cond.fieldLink RX7 213 "LastCallersWord$Plan" "words" "I" : Cond) ∈ wsX7_inTime := List.mem_cons_of_mem _ aw_678
theorem hX7_inTime_X1 : ∀ w ∈ wsX10, w ∈ wsX7_inTime := fun w h => List.mem_cons_of_mem _ (ac_X1 w h)
theorem kX7_inTime_f229 : (Cond.fieldLink RX7 229 "LastCallersWord$Plan" "limit" "I" : Cond) ∈ wsX7_inTime := List.mem_cons_of_mem _ aw_487
theorem kX7_inTime_f219 : (Cond.fieldLink RX7 219 "LastCallersWord$Plan" "parts" "[I" : Cond) ∈ wsX7_inTime := List.mem_cons_of_mem _ aw_693
set_option maxHeartbeats 4000000 in
set_option maxRecDepth 100000 in
theorem c_X7_inTime (l : Launch) (g : GG) (th : Nat) (le : Nat → Nat) (dr : Nat → Nat) (rd : Nat) (pn : Nat → Nat) (sa : Nat → Nat) (tk : Nat) (sg : Nat → Nat) (us : Nat → Nat) (ks : Nat → Nat) (sk : Nat) (len : Nat) (pa : Nat → Nat → Int32) (ps : Nat → Nat) (x : Nat → Nat → Int32) (dy : Nat) (ga : Nat → Nat → Int32) (gz : Nat) (uk : Nat) (kk : Nat) (pv : Int32) (hP8 : ps 0 ≤ 8) (hD5 : ps 2 ≤ 5) (hW6 : ps 3 ≤ 6) (hgz : gz ≤ 8) : Met l yX7_inTime wsX7_inTime ({ frames := 2, cells := 0, slots := 0, locals := 48 } : Room) (ro g [.ref th, .int pv] [(th, .inr (7, [.ref (le 0), .ref (dr 0), .ref rd, .ref (pn 0), .ref (sa 0), .ref tk, .ref (sg 0), .ref (us 0), .ref (ks 0), .ref sk])), (le 0, .inr (0, [.ref (le 1), .int (nI len)])), (pn 0, .inr (1, [.ref (pn 1), .ref (pn 2), .ref (pn 3), .ref (pn 4), .ref (pn 5), .int (nI (ps 0)), .int (nI (ps 1)), .int (nI (ps 2)), .int (nI (ps 3)), .int (nI (ps 4))])), (pn 1, .inl (g.2.1, 8, .inl (pa 0))), (pn 2, .inl (g.2.1, 64, .inl (pa 1))), (pn 3, .inl (g.2.1, 5, .inl (pa 2))), (pn 4, .inl (g.2.1, 5, .inl (pa 3))), (pn 5, .inl (g.2.1, 6, .inl (pa 4))), (sa 0, .inr (5, [.ref (sa 1), .ref (sa 2), .ref (sa 3), .ref (sa 4), .int (nI dy)])), (sa 1, .inl (g.2.1, 64, .inl (x 0))), (sa 2, .inl (g.2.1, 5, .inl (x 1))), (sa 3, .inl (g.2.1, 5, .inl (x 2))), (sa 4, .inl (g.2.1, 40, .inl (x 3))), (tk, .inr (6, [.ref (pn 0), .ref (sa 0)])), (sg 0, .inr (4, [.ref (sg 1), .ref (sg 2), .ref (sg 3), .int (nI gz)])), (sg 1, .inl (g.2.1, 8, .inl (ga 0))), (sg 2, .inl (g.2.1, 8, .inl (ga 1))), (sg 3, .inl (g.2.1, 8, .inl (ga 2))), (us 0, .inr (3, [.ref (us 1), .int (nI uk)])), (ks 0, .inr (3, [.ref (ks 1), .int (nI kk)]))]) (vp_Si (fun rr => rr = xInTime pa ps pv)) 0 0 (fun _ => False) := by
  refine ro_start (cc := cX7_inTime) (maxL := 4) (ty := .int) (by decide) rfl (Nat.le_of_ble_eq_true rfl) (fun p e s m args below meth c Q C hP hret ls hl => ?_)
  obtain ⟨hx, hb, hml, hr, hown, hts, hlk, hKK⟩ := id C
  have hK := hKK.1
  have hown : s.vm.findClass RX7 = some m.cls := hown
  have ctx : CallFix p m c cX7_inTime 4 s args wsX7_inTime RX7 := ⟨hx, hb, hml, hown, hts⟩
  have hl : lv_has ls 4 [(0, .ref th), (1, .int pv)] := hl
  refine lv_iload_n hx hb dX7_inTime_0 rfl (lv_at hl 1 rfl) ?_
  refine ro_callS (As := [.int pv]) (rest := []) ctx hKK hP (c_X7_isPart l g pv) gX7_inTime_X7_isPart rfl rfl rfl hdX7_isPart ⟨Nat.le_of_ble_eq_true rfl, Nat.le_of_ble_eq_true rfl⟩ [] rfl hl.1 rfl rfl (Nat.le_of_ble_eq_true rfl) dX7_inTime_1 (fun r_1 hr_1 => ?_)
  subst hr_1
  refine lv_if_ne (tgt := 9) hx hb dX7_inTime_4 (by decide) (fun c_2 => ?_) (fun c_2 => ?_)
  · replace c_2 := bI_t c_2
    refine lv_aload_n hx hb dX7_inTime_9 rfl (lv_at hl 0 rfl) ?_
    refine va_get (D := g.1) (cl := vwCl) (ci := 7) (v := .ref (pn 0)) (C := RX7) (T := TX7) (N := 10) hx hb hts hX7_inTime_X7 hown hK hP 0 rfl rfl 3 (by decide) (hts _ kX7_inTime_f32) (fun _ h9 => h9) rfl dX7_inTime_10 ?_
    refine va_get (D := g.1) (cl := vwCl) (ci := 1) (v := .int (nI (ps 3))) (C := RX1) (T := TX1) (N := 10) hx hb hts hX7_inTime_X1 hown hK hP 2 rfl rfl 8 (by decide) (hts _ kX7_inTime_f213) (fun _ h9 => h9) rfl dX7_inTime_13 ?_
    refine lv_if_ne (tgt := 22) hx hb dX7_inTime_16 (by decide) (fun c_3 => ?_) (fun c_3 => ?_)
    · replace c_3 : ¬ (ps 3) = 0 := fun h => c_3 ((nI_eq (a := ps 3) (b := 0) (by omega) (by omega)).mpr h)
      refine lv_iconst (v := nI 0) hx hb dX7_inTime_22 (by decide) ?_
      refine lv_istore_n (lv' := [(2, .int (nI 0)), (0, .ref th), (1, .int pv)]) hx hb dX7_inTime_23 rfl hl (by decide) rfl (fun ls hl => ?_)
      refine lv_iconst (v := nI 0) hx hb dX7_inTime_24 (by decide) ?_
      refine lv_istore_n (lv' := [(3, .int (nI 0)), (2, .int (nI 0)), (0, .ref th), (1, .int pv)]) hx hb dX7_inTime_25 rfl hl (by decide) rfl (fun ls hl => ?_)
      have LP26 : ∀ (fu : Nat) (j : Nat) (x2 : Int32), ps 3 - j < fu → (j ≤ ps 3) → (x2 = itA (pa 4) (ps 3) (ps 4) j) → ∀ (ls : Array Slot), lv_has ls 4 [(3, .int (nI j)), (2, .int x2), (0, .ref th), (1, .int pv)] → W p l e ({ frames := 2, cells := 0, slots := 0, locals := 48 } : Room) s m args below meth c s.heap [] 0 0 Q (F0 m 26 ls []) := by
        intro fu
        induction fu with
        | zero => intro j x2 hfu; exact absurd hfu (Nat.not_lt_zero _)
        | succ fu ih26 =>
          intro j x2 hfu hj ex2 ls hl
          refine lv_iload_n hx hb dX7_inTime_26 rfl (lv_at hl 0 rfl) ?_
          refine lv_aload_n hx hb dX7_inTime_27 rfl (lv_at hl 2 rfl) ?_
          refine va_get (D := g.1) (cl := vwCl) (ci := 7) (v := .ref (pn 0)) (C := RX7) (T := TX7) (N := 10) hx hb hts hX7_inTime_X7 hown hK hP 0 rfl rfl 3 (by decide) (hts _ kX7_inTime_f32) (fun _ h9 => h9) rfl dX7_inTime_28 ?_
          refine va_get (D := g.1) (cl := vwCl) (ci := 1) (v := .int (nI (ps 3))) (C := RX1) (T := TX1) (N := 10) hx hb hts hX7_inTime_X1 hown hK hP 2 rfl rfl 8 (by decide) (hts _ kX7_inTime_f213) (fun _ h9 => h9) rfl dX7_inTime_31 ?_
          refine lv_icmp_ge (tgt := 73) hx hb dX7_inTime_34 (by decide) (fun c_4 => ?_) (fun c_4 => ?_)
          · replace c_4 : (ps 3) ≤ j := (nI_leI (a := ps 3) (b := j) (by omega) (by omega)).mp c_4
            refine lv_iload_n hx hb dX7_inTime_73 rfl (lv_at hl 1 rfl) ?_
            refine lv_aload_n hx hb dX7_inTime_74 rfl (lv_at hl 2 rfl) ?_
            refine va_get (D := g.1) (cl := vwCl) (ci := 7) (v := .ref (pn 0)) (C := RX7) (T := TX7) (N := 10) hx hb hts hX7_inTime_X7 hown hK hP 0 rfl rfl 3 (by decide) (hts _ kX7_inTime_f32) (fun _ h9 => h9) rfl dX7_inTime_75 ?_
            refine ro_callV (As := []) (rest := [.int x2]) (b := pn 0) ctx hKK hP (c_X1_allParts l g (pn 0) (pn 1) (pn 2) (pn 3) (pn 4) (pn 5) (ps 0) (ps 1) (ps 2) (ps 3) (ps 4) (pa 4) (by omega)) gX7_inTime_X1_allParts rfl rfl rfl hdX1_allParts ⟨Nat.le_of_ble_eq_true rfl, Nat.le_of_ble_eq_true rfl⟩ [2, 7] rfl (ci := 1) (q0 := 0) rfl rfl hl.1 rfl rfl (Nat.le_of_ble_eq_true rfl) dX7_inTime_78 (fun r_5 hr_5 => ?_)
            subst hr_5
            refine lv_iload_n hx hb dX7_inTime_81 rfl (lv_at hl 3 rfl) ?_
            refine ro_callS (As := [.int x2, .int (sumP (pa 4) (ps 3)), .int pv]) (rest := []) ctx hKK hP (c_X7_inLowestTerms l g x2 (sumP (pa 4) (ps 3)) pv) gX7_inTime_X7_inLowestTerms rfl rfl rfl hdX7_inLowestTerms ⟨Nat.le_of_ble_eq_true rfl, Nat.le_of_ble_eq_true rfl⟩ [] rfl hl.1 rfl rfl (Nat.le_of_ble_eq_true rfl) dX7_inTime_82 (fun r_6 hr_6 => ?_)
            subst hr_6
            exact hret (ltI x2 (sumP (pa 4) (ps 3)) pv) 85 ls (by rw [show j = ps 3 by omega] at ex2; simp [xInTime, c_2, c_3, c_4, ← ex2]) (rfl) dX7_inTime_85
          · replace c_4 : ¬ (ps 3) ≤ j := fun h => c_4 ((nI_leI (a := ps 3) (b := j) (by omega) (by omega)).mpr h)
            refine lv_aload_n hx hb dX7_inTime_37 rfl (lv_at hl 2 rfl) ?_
            refine va_get (D := g.1) (cl := vwCl) (ci := 7) (v := .ref (pn 0)) (C := RX7) (T := TX7) (N := 10) hx hb hts hX7_inTime_X7 hown hK hP 0 rfl rfl 3 (by decide) (hts _ kX7_inTime_f32) (fun _ h9 => h9) rfl dX7_inTime_38 ?_
            refine lv_iload_n hx hb dX7_inTime_41 rfl (lv_at hl 0 rfl) ?_
            refine ro_callV (As := [.int (nI j)]) (rest := []) (b := pn 0) ctx hKK hP (c_X1_rankOf l g (pn 0) (pn 1) (pn 2) (pn 3) (pn 4) (pn 5) (ps 0) (ps 1) (ps 2) (ps 3) (ps 4) (pa 4) j (by omega) (by omega)) gX7_inTime_X1_rankOf rfl rfl rfl hdX1_rankOf ⟨Nat.le_of_ble_eq_true rfl, Nat.le_of_ble_eq_true rfl⟩ [2, 7] rfl (ci := 1) (q0 := 0) rfl rfl hl.1 rfl rfl (Nat.le_of_ble_eq_true rfl) dX7_inTime_42 (fun r_7 hr_7 => ?_)
            subst hr_7
            refine lv_aload_n hx hb dX7_inTime_45 rfl (lv_at hl 2 rfl) ?_
            refine va_get (D := g.1) (cl := vwCl) (ci := 7) (v := .ref (pn 0)) (C := RX7) (T := TX7) (N := 10) hx hb hts hX7_inTime_X7 hown hK hP 0 rfl rfl 3 (by decide) (hts _ kX7_inTime_f32) (fun _ h9 => h9) rfl dX7_inTime_46 ?_
            refine va_get (D := g.1) (cl := vwCl) (ci := 1) (v := .int (nI (ps 4))) (C := RX1) (T := TX1) (N := 10) hx hb hts hX7_inTime_X1 hown hK hP 2 rfl rfl 9 (by decide) (hts _ kX7_inTime_f229) (fun _ h9 => h9) rfl dX7_inTime_49 ?_
            refine lv_icmp_ge (tgt := 67) hx hb dX7_inTime_52 (by decide) (fun c_8 => ?_) (fun c_8 => ?_)
            · refine lv_iinc (v := nI (j + 1)) (lv' := [(3, .int (nI (j + 1))), (2, .int x2), (0, .ref th), (1, .int pv)]) hx hb dX7_inTime_67 hl (k := 0) rfl (iincK j 1) (by decide) rfl (fun ls hl => ?_)
              refine lv_goto (tgt := 26) hx hb dX7_inTime_70 (by decide) ?_
              exact ih26 (j + 1) x2 (by omega) (by omega) (by rw [itA, ← ex2]; simp [c_2, c_3, c_4, c_8]) ls (lv_sub hl [0, 1, 2, 3] rfl)
            · refine lv_iload_n hx hb dX7_inTime_55 rfl (lv_at hl 1 rfl) ?_
              refine lv_aload_n hx hb dX7_inTime_56 rfl (lv_at hl 2 rfl) ?_
              refine va_get (D := g.1) (cl := vwCl) (ci := 7) (v := .ref (pn 0)) (C := RX7) (T := TX7) (N := 10) hx hb hts hX7_inTime_X7 hown hK hP 0 rfl rfl 3 (by decide) (hts _ kX7_inTime_f32) (fun _ h9 => h9) rfl dX7_inTime_57 ?_
              refine va_get (D := g.1) (cl := vwCl) (ci := 1) (v := .ref (pn 5)) (C := RX1) (T := TX1) (N := 10) hx hb hts hX7_inTime_X1 hown hK hP 2 rfl rfl 4 (by decide) (hts _ kX7_inTime_f219) (fun _ h9 => h9) rfl dX7_inTime_60 ?_
              refine lv_iload_n hx hb dX7_inTime_63 rfl (lv_at hl 0 rfl) ?_
              refine ald_i (D := g.1) (cl := vwCl) (f := pa 4) (i := j) (n := 6) hx hb hK hP 7 0 rfl rfl (by omega) (by decide) dX7_inTime_64 ?_
              refine lv_iadd hx hb dX7_inTime_65 ?_
              refine lv_istore_n (lv' := [(2, .int (x2 + ((pa 4) j))), (3, .int (nI j)), (0, .ref th), (1, .int pv)]) hx hb dX7_inTime_66 rfl hl (by decide) rfl (fun ls hl => ?_)
              refine lv_iinc (v := nI (j + 1)) (lv' := [(3, .int (nI (j + 1))), (2, .int (x2 + ((pa 4) j))), (0, .ref th), (1, .int pv)]) hx hb dX7_inTime_67 hl (k := 1) rfl (iincK j 1) (by decide) rfl (fun ls hl => ?_)
              refine lv_goto (tgt := 26) hx hb dX7_inTime_70 (by decide) ?_
              exact ih26 (j + 1) (x2 + ((pa 4) j)) (by omega) (by omega) (by rw [itA, ← ex2]; simp [c_2, c_3, c_4, c_8]) ls (lv_sub hl [0, 1, 2, 3] rfl)
      exact LP26 (ps 3 + 1) 0 (nI 0) (by omega) (by omega) (rfl) ls (lv_sub hl [0, 1, 2, 3] rfl)
    · replace c_3 : (ps 3) = 0 := (nI_eq (a := ps 3) (b := 0) (by omega) (by omega)).mp c_3
      refine lv_bipush (v := (-4)) hx hb dX7_inTime_19 (by decide) ?_
      exact hret (-4) 21 ls (by simp [xInTime, c_2, c_3]) (rfl) dX7_inTime_21
  · replace c_2 := bI_f c_2
    refine lv_iconst (v := (-1)) hx hb dX7_inTime_7 (by decide) ?_
    exact hret (-1) 8 ls (by simp [xInTime, c_2]) (rfl) dX7_inTime_8
theorem kX7_likely_f32 : (Cond.fieldLink RX7 32 "LastCallersWord" "plan" "LLastCallersWord$Plan;" : Cond) ∈ wsX7_likely := List.mem_cons_of_mem _ aw_21
theorem hX7_likely_X7 : ∀ w ∈ wsX70, w ∈ wsX7_likely := fun w h => List.mem_cons_of_mem _ (ac_X7 w h)
theorem kX7_likely_f138 : (Cond.fieldLink RX7 138 "LastCallersWord$Plan" "hosts" "[I" : Cond) ∈ wsX7_likely := List.mem_cons_of_mem _ aw_472
theorem hX7_likely_X1 : ∀ w ∈ wsX10, w ∈ wsX7_likely := fun w h => List.mem_cons_of_mem _ (ac_X1 w h)
theorem kX7_likely_f198 : (Cond.fieldLink RX7 198 "LastCallersWord$Plan" "persons" "I" : Cond) ∈ wsX7_likely := List.mem_cons_of_mem _ aw_435
set_option maxHeartbeats 4000000 in
set_option maxRecDepth 100000 in
theorem c_X7_likely (l : Launch) (g : GG) (th : Nat) (le : Nat → Nat) (dr : Nat → Nat) (rd : Nat) (pn : Nat → Nat) (sa : Nat → Nat) (tk : Nat) (sg : Nat → Nat) (us : Nat → Nat) (ks : Nat → Nat) (sk : Nat) (len : Nat) (pa : Nat → Nat → Int32) (ps : Nat → Nat) (x : Nat → Nat → Int32) (dy : Nat) (ga : Nat → Nat → Int32) (gz : Nat) (uk : Nat) (kk : Nat) (dv : Int32) (nv : Int32) (pv : Int32) (hP8 : ps 0 ≤ 8) (hD5 : ps 2 ≤ 5) (hW6 : ps 3 ≤ 6) (hgz : gz ≤ 8) : Met l yX7_likely wsX7_likely ({ frames := 6, cells := 0, slots := 0, locals := 140 } : Room) (ro g [.ref th, .int dv, .int nv, .int pv] [(th, .inr (7, [.ref (le 0), .ref (dr 0), .ref rd, .ref (pn 0), .ref (sa 0), .ref tk, .ref (sg 0), .ref (us 0), .ref (ks 0), .ref sk])), (le 0, .inr (0, [.ref (le 1), .int (nI len)])), (pn 0, .inr (1, [.ref (pn 1), .ref (pn 2), .ref (pn 3), .ref (pn 4), .ref (pn 5), .int (nI (ps 0)), .int (nI (ps 1)), .int (nI (ps 2)), .int (nI (ps 3)), .int (nI (ps 4))])), (pn 1, .inl (g.2.1, 8, .inl (pa 0))), (pn 2, .inl (g.2.1, 64, .inl (pa 1))), (pn 3, .inl (g.2.1, 5, .inl (pa 2))), (pn 4, .inl (g.2.1, 5, .inl (pa 3))), (pn 5, .inl (g.2.1, 6, .inl (pa 4))), (sa 0, .inr (5, [.ref (sa 1), .ref (sa 2), .ref (sa 3), .ref (sa 4), .int (nI dy)])), (sa 1, .inl (g.2.1, 64, .inl (x 0))), (sa 2, .inl (g.2.1, 5, .inl (x 1))), (sa 3, .inl (g.2.1, 5, .inl (x 2))), (sa 4, .inl (g.2.1, 40, .inl (x 3))), (tk, .inr (6, [.ref (pn 0), .ref (sa 0)])), (sg 0, .inr (4, [.ref (sg 1), .ref (sg 2), .ref (sg 3), .int (nI gz)])), (sg 1, .inl (g.2.1, 8, .inl (ga 0))), (sg 2, .inl (g.2.1, 8, .inl (ga 1))), (sg 3, .inl (g.2.1, 8, .inl (ga 2))), (us 0, .inr (3, [.ref (us 1), .int (nI uk)])), (ks 0, .inr (3, [.ref (ks 1), .int (nI kk)]))]) (vp_Si (fun rr => rr = xLikely pa ps x dv nv pv)) 0 0 (fun _ => False) := by
  refine ro_start (cc := cX7_likely) (maxL := 7) (ty := .int) (by decide) rfl (Nat.le_of_ble_eq_true rfl) (fun p e s m args below meth c Q C hP hret ls hl => ?_)
  obtain ⟨hx, hb, hml, hr, hown, hts, hlk, hKK⟩ := id C
  have hK := hKK.1
  have hown : s.vm.findClass RX7 = some m.cls := hown
  have ctx : CallFix p m c cX7_likely 7 s args wsX7_likely RX7 := ⟨hx, hb, hml, hown, hts⟩
  have hl : lv_has ls 7 [(0, .ref th), (1, .int dv), (2, .int nv), (3, .int pv)] := hl
  refine lv_aload_n hx hb dX7_likely_0 rfl (lv_at hl 0 rfl) ?_
  refine lv_iload_n hx hb dX7_likely_1 rfl (lv_at hl 1 rfl) ?_
  refine ro_callV (As := [.int dv]) (rest := []) (b := th) ctx hKK hP (c_X7_isDoor l g th le dr rd pn sa tk sg us ks sk len pa ps x dy ga gz uk kk dv (by omega) (by omega) (by omega) (by omega)) gX7_likely_X7_isDoor rfl rfl rfl hdX7_isDoor ⟨Nat.le_of_ble_eq_true rfl, Nat.le_of_ble_eq_true rfl⟩ [0, 1, 2, 3, 4, 5, 6, 7, 8, 9, 10, 11, 12, 13, 14, 15, 16, 17, 18, 19] rfl (ci := 7) (q0 := 0) rfl rfl hl.1 rfl rfl (Nat.le_of_ble_eq_true rfl) dX7_likely_2 (fun r_1 hr_1 => ?_)
  subst hr_1
  refine lv_if_eq (tgt := 24) hx hb dX7_likely_5 (by decide) (fun c_2 => ?_) (fun c_2 => ?_)
  · replace c_2 := bI_f c_2
    refine lv_iconst (v := (-1)) hx hb dX7_likely_24 (by decide) ?_
    exact hret (-1) 25 ls (by simp [xLikely, c_2]) (rfl) dX7_likely_25
  · replace c_2 := bI_t c_2
    obtain ⟨d, hd, rfl⟩ := inPb_nat c_2 (by omega)
    refine lv_iload_n hx hb dX7_likely_8 rfl (lv_at hl 2 rfl) ?_
    refine lv_if_lt (tgt := 24) hx hb dX7_likely_9 (by decide) (fun c_3 => ?_) (fun c_3 => ?_)
    · refine lv_iconst (v := (-1)) hx hb dX7_likely_24 (by decide) ?_
      exact hret (-1) 25 ls (by simp [xLikely, c_2, c_3, nI_clamp (show d < 2 ^ 31 by omega)]) (rfl) dX7_likely_25
    · refine lv_iload_n hx hb dX7_likely_12 rfl (lv_at hl 2 rfl) ?_
      refine lv_iconst (v := nI 3) hx hb dX7_likely_13 (by decide) ?_
      refine lv_icmp_gt (tgt := 24) hx hb dX7_likely_14 (by decide) (fun c_4 => ?_) (fun c_4 => ?_)
      · refine lv_iconst (v := (-1)) hx hb dX7_likely_24 (by decide) ?_
        exact hret (-1) 25 ls (by simp [xLikely, c_2, c_3, c_4, nI_clamp (show d < 2 ^ 31 by omega)]) (rfl) dX7_likely_25
      · obtain ⟨n, hn, rfl⟩ := rng_natg (n := 3) (by assumption) c_4 (by decide)
        refine lv_iload_n hx hb dX7_likely_17 rfl (lv_at hl 3 rfl) ?_
        refine ro_callS (As := [.int pv]) (rest := []) ctx hKK hP (c_X7_isPart l g pv) gX7_likely_X7_isPart rfl rfl rfl hdX7_isPart ⟨Nat.le_of_ble_eq_true rfl, Nat.le_of_ble_eq_true rfl⟩ [] rfl hl.1 rfl rfl (Nat.le_of_ble_eq_true rfl) dX7_likely_18 (fun r_5 hr_5 => ?_)
        subst hr_5
        refine lv_if_ne (tgt := 26) hx hb dX7_likely_21 (by decide) (fun c_6 => ?_) (fun c_6 => ?_)
        · replace c_6 := bI_t c_6
          refine lv_iconst (v := nI 1) hx hb dX7_likely_26 (by decide) ?_
          refine lv_istore (lv' := [(4, .int (nI 1)), (0, .ref th), (1, .int (nI d)), (2, .int (nI n)), (3, .int pv)]) hx hb dX7_likely_27 hl (by decide) rfl (fun ls hl => ?_)
          refine lv_iconst (v := nI 0) hx hb dX7_likely_29 (by decide) ?_
          refine lv_istore (lv' := [(5, .int (nI 0)), (4, .int (nI 1)), (0, .ref th), (1, .int (nI d)), (2, .int (nI n)), (3, .int pv)]) hx hb dX7_likely_30 hl (by decide) rfl (fun ls hl => ?_)
          have LP32 : ∀ (fu : Nat) (j : Nat) (x4 : Nat), n - j < fu → (j ≤ n) → (x4 = ps 0 ^ j) → ∀ (ls : Array Slot), lv_has ls 7 [(5, .int (nI j)), (4, .int (nI x4)), (0, .ref th), (1, .int (nI d)), (2, .int (nI n)), (3, .int pv)] → W p l e ({ frames := 6, cells := 0, slots := 0, locals := 140 } : Room) s m args below meth c s.heap [] 0 0 Q (F0 m 32 ls []) := by
            intro fu
            induction fu with
            | zero => intro j x4 hfu; exact absurd hfu (Nat.not_lt_zero _)
            | succ fu ih32 =>
              intro j x4 hfu hj ex4 ls hl
              refine lv_iload hx hb dX7_likely_32 (lv_at hl 0 rfl) ?_
              refine lv_iload_n hx hb dX7_likely_34 rfl (lv_at hl 4 rfl) ?_
              refine lv_icmp_ge (tgt := 56) hx hb dX7_likely_35 (by decide) (fun c_7 => ?_) (fun c_7 => ?_)
              · replace c_7 : n ≤ j := (nI_leI (a := n) (b := j) (by omega) (by omega)).mp c_7
                have hje : n = j := by omega
                subst hje
                have hx4 : x4 ≤ 512 := by rw [ex4]; exact pow_le hP8 hn
                refine lv_iconst (v := nI 0) hx hb dX7_likely_56 (by decide) ?_
                refine lv_istore (lv' := [(5, .int (nI 0)), (4, .int (nI x4)), (0, .ref th), (1, .int (nI d)), (2, .int (nI n)), (3, .int pv)]) hx hb dX7_likely_57 hl (by decide) rfl (fun ls hl => ?_)
                refine lv_iconst (v := nI 0) hx hb dX7_likely_59 (by decide) ?_
                refine lv_istore (lv' := [(6, .int (nI 0)), (5, .int (nI 0)), (4, .int (nI x4)), (0, .ref th), (1, .int (nI d)), (2, .int (nI n)), (3, .int pv)]) hx hb dX7_likely_60 hl (by decide) rfl (fun ls hl => ?_)
                have LP62 : ∀ (fu : Nat) (w : Nat) (x5 : Nat), x4 - w < fu → (w ≤ x4) → (x5 = shN (pa 0) (x 0) (ps 0) (x 2 d) (pa 2 d) n w) → ∀ (ls : Array Slot), lv_has ls 7 [(6, .int (nI w)), (5, .int (nI x5)), (4, .int (nI x4)), (0, .ref th), (1, .int (nI d)), (2, .int (nI n)), (3, .int pv)] → W p l e ({ frames := 6, cells := 0, slots := 0, locals := 140 } : Room) s m args below meth c s.heap [] 0 0 Q (F0 m 62 ls []) := by
                  intro fu
                  induction fu with
                  | zero => intro w x5 hfu; exact absurd hfu (Nat.not_lt_zero _)
                  | succ fu ih62 =>
                    intro w x5 hfu hw ex5 ls hl
                    have hx5 := shN_le (pa 0) (x 0) (ps 0) (x 2 d) (pa 2 d) n w
                    rw [← ex5] at hx5
                    refine lv_iload hx hb dX7_likely_62 (lv_at hl 0 rfl) ?_
                    refine lv_iload hx hb dX7_likely_64 (lv_at hl 2 rfl) ?_
                    refine lv_icmp_ge (tgt := 101) hx hb dX7_likely_66 (by decide) (fun c_8 => ?_) (fun c_8 => ?_)
                    · replace c_8 : x4 ≤ w := (nI_leI (a := x4) (b := w) (by omega) (by omega)).mp c_8
                      refine lv_iload hx hb dX7_likely_101 (lv_at hl 1 rfl) ?_
                      refine lv_iload hx hb dX7_likely_103 (lv_at hl 2 rfl) ?_
                      refine lv_iload_n hx hb dX7_likely_105 rfl (lv_at hl 6 rfl) ?_
                      refine ro_callS (As := [.int (nI x5), .int (nI x4), .int pv]) (rest := []) ctx hKK hP (c_X7_inLowestTerms l g (nI x5) (nI x4) pv) gX7_likely_X7_inLowestTerms rfl rfl rfl hdX7_inLowestTerms ⟨Nat.le_of_ble_eq_true rfl, Nat.le_of_ble_eq_true rfl⟩ [] rfl hl.1 rfl rfl (Nat.le_of_ble_eq_true rfl) dX7_likely_106 (fun r_9 hr_9 => ?_)
                      subst hr_9
                      exact hret (ltI (nI x5) (nI x4) pv) 109 ls (by rw [show w = x4 by omega] at ex5; simp [xLikely, c_2, c_3, c_4, c_6, c_7, c_8, nI_clamp (show d < 2 ^ 31 by omega), nI_clamp (show n < 2 ^ 31 by omega), ← ex4, ← ex5]) (rfl) dX7_likely_109
                    · replace c_8 : ¬ x4 ≤ w := fun h => c_8 ((nI_leI (a := x4) (b := w) (by omega) (by omega)).mpr h)
                      refine lv_aload_n hx hb dX7_likely_69 rfl (lv_at hl 3 rfl) ?_
                      refine lv_iload_n hx hb dX7_likely_70 rfl (lv_at hl 4 rfl) ?_
                      refine lv_iload_n hx hb dX7_likely_71 rfl (lv_at hl 5 rfl) ?_
                      refine lv_iload hx hb dX7_likely_72 (lv_at hl 0 rfl) ?_
                      refine ro_callV (As := [.int (nI d), .int (nI n), .int (nI w)]) (rest := []) (b := th) ctx hKK hP (c_X7_knowersByVisitors l g th le dr rd pn sa tk sg us ks sk len pa ps x dy ga gz uk kk d n w (by omega) (by omega) (by omega) (by omega) (by omega) (by omega) (by omega)) gX7_likely_X7_knowersByVisitors rfl rfl rfl hdX7_knowersByVisitors ⟨Nat.le_of_ble_eq_true rfl, Nat.le_of_ble_eq_true rfl⟩ [0, 1, 2, 3, 4, 5, 6, 7, 8, 9, 10, 11, 12, 13, 14, 15, 16, 17, 18, 19] rfl (ci := 7) (q0 := 0) rfl rfl hl.1 rfl rfl (Nat.le_of_ble_eq_true rfl) dX7_likely_74 (fun r_10 hr_10 => ?_)
                      subst hr_10
                      refine lv_aload_n hx hb dX7_likely_77 rfl (lv_at hl 3 rfl) ?_
                      refine va_get (D := g.1) (cl := vwCl) (ci := 7) (v := .ref (pn 0)) (C := RX7) (T := TX7) (N := 10) hx hb hts hX7_likely_X7 hown hK hP 0 rfl rfl 3 (by decide) (hts _ kX7_likely_f32) (fun _ h9 => h9) rfl dX7_likely_78 ?_
                      refine va_get (D := g.1) (cl := vwCl) (ci := 1) (v := .ref (pn 3)) (C := RX1) (T := TX1) (N := 10) hx hb hts hX7_likely_X1 hown hK hP 2 rfl rfl 2 (by decide) (hts _ kX7_likely_f138) (fun _ h9 => h9) rfl dX7_likely_81 ?_
                      refine lv_iload_n hx hb dX7_likely_84 rfl (lv_at hl 4 rfl) ?_
                      refine ald_i (D := g.1) (cl := vwCl) (f := pa 2) (i := d) (n := 5) hx hb hK hP 5 0 rfl rfl (by omega) (by decide) dX7_likely_85 ?_
                      refine ro_callS (As := [.int ((kbv (pa 0) (x 0) (ps 0) (x 2 d) w n).1), .int ((pa 2) d)]) (rest := []) ctx hKK hP (c_X7_has l g ((kbv (pa 0) (x 0) (ps 0) (x 2 d) w n).1) ((pa 2) d)) gX7_likely_X7_has rfl rfl rfl hdX7_has ⟨Nat.le_of_ble_eq_true rfl, Nat.le_of_ble_eq_true rfl⟩ [] rfl hl.1 rfl rfl (Nat.le_of_ble_eq_true rfl) dX7_likely_86 (fun r_11 hr_11 => ?_)
                      subst hr_11
                      refine lv_if_ne (tgt := 95) hx hb dX7_likely_89 (by decide) (fun c_12 => ?_) (fun c_12 => ?_)
                      · replace c_12 := bI_t c_12
                        refine lv_iinc (v := nI (w + 1)) (lv' := [(6, .int (nI (w + 1))), (5, .int (nI x5)), (4, .int (nI x4)), (0, .ref th), (1, .int (nI d)), (2, .int (nI n)), (3, .int pv)]) hx hb dX7_likely_95 hl (k := 0) rfl (iincK w 1) (by decide) rfl (fun ls hl => ?_)
                        refine lv_goto (tgt := 62) hx hb dX7_likely_98 (by decide) ?_
                        exact ih62 (w + 1) x5 (by omega) (by omega) (by rw [shN, ← ex5]; simp [c_2, c_3, c_4, c_6, c_7, c_8, c_12]) ls (lv_sub hl [0, 1, 2, 3, 4, 5, 6] rfl)
                      · replace c_12 := bI_f c_12
                        refine lv_iinc (v := nI (x5 + 1)) (lv' := [(5, .int (nI (x5 + 1))), (6, .int (nI w)), (4, .int (nI x4)), (0, .ref th), (1, .int (nI d)), (2, .int (nI n)), (3, .int pv)]) hx hb dX7_likely_92 hl (k := 1) rfl (iincK x5 1) (by decide) rfl (fun ls hl => ?_)
                        refine lv_iinc (v := nI (w + 1)) (lv' := [(6, .int (nI (w + 1))), (5, .int (nI (x5 + 1))), (4, .int (nI x4)), (0, .ref th), (1, .int (nI d)), (2, .int (nI n)), (3, .int pv)]) hx hb dX7_likely_95 hl (k := 1) rfl (iincK w 1) (by decide) rfl (fun ls hl => ?_)
                        refine lv_goto (tgt := 62) hx hb dX7_likely_98 (by decide) ?_
                        exact ih62 (w + 1) (x5 + 1) (by omega) (by omega) (by rw [shN, ← ex5]; simp [c_2, c_3, c_4, c_6, c_7, c_8, c_12]) ls (lv_sub hl [0, 1, 2, 3, 4, 5, 6] rfl)
                exact LP62 (x4 + 1) 0 0 (by omega) (by omega) (rfl) ls (lv_sub hl [0, 1, 2, 3, 4, 5, 6] rfl)
              · replace c_7 : ¬ n ≤ j := fun h => c_7 ((nI_leI (a := n) (b := j) (by omega) (by omega)).mpr h)
                refine lv_iload hx hb dX7_likely_38 (lv_at hl 1 rfl) ?_
                refine lv_aload_n hx hb dX7_likely_40 rfl (lv_at hl 2 rfl) ?_
                refine va_get (D := g.1) (cl := vwCl) (ci := 7) (v := .ref (pn 0)) (C := RX7) (T := TX7) (N := 10) hx hb hts hX7_likely_X7 hown hK hP 0 rfl rfl 3 (by decide) (hts _ kX7_likely_f32) (fun _ h9 => h9) rfl dX7_likely_41 ?_
                refine va_get (D := g.1) (cl := vwCl) (ci := 1) (v := .int (nI (ps 0))) (C := RX1) (T := TX1) (N := 10) hx hb hts hX7_likely_X1 hown hK hP 2 rfl rfl 5 (by decide) (hts _ kX7_likely_f198) (fun _ h9 => h9) rfl dX7_likely_44 ?_
                refine lv_imul hx hb dX7_likely_47 ?_
                refine lv_is (pk_mul x4 (ps 0)) ?_
                refine lv_istore (lv' := [(4, .int (nI (x4 * (ps 0)))), (5, .int (nI j)), (0, .ref th), (1, .int (nI d)), (2, .int (nI n)), (3, .int pv)]) hx hb dX7_likely_48 hl (by decide) rfl (fun ls hl => ?_)
                refine lv_iinc (v := nI (j + 1)) (lv' := [(5, .int (nI (j + 1))), (4, .int (nI (x4 * (ps 0)))), (0, .ref th), (1, .int (nI d)), (2, .int (nI n)), (3, .int pv)]) hx hb dX7_likely_50 hl (k := 1) rfl (iincK j 1) (by decide) rfl (fun ls hl => ?_)
                refine lv_goto (tgt := 32) hx hb dX7_likely_53 (by decide) ?_
                exact ih32 (j + 1) (x4 * (ps 0)) (by omega) (by omega) (by rw [ex4, Nat.pow_succ]) ls (lv_sub hl [0, 1, 2, 3, 4, 5] rfl)
          exact LP32 (n + 1) 0 1 (by omega) (by omega) (rfl) ls (lv_sub hl [0, 1, 2, 3, 4, 5] rfl)
        · replace c_6 := bI_f c_6
          refine lv_iconst (v := (-1)) hx hb dX7_likely_24 (by decide) ?_
          exact hret (-1) 25 ls (by simp [xLikely, c_2, c_3, c_4, c_6, nI_clamp (show d < 2 ^ 31 by omega), nI_clamp (show n < 2 ^ 31 by omega)]) (rfl) dX7_likely_25
theorem kX7_count_f32 : (Cond.fieldLink RX7 32 "LastCallersWord" "plan" "LLastCallersWord$Plan;" : Cond) ∈ wsX7_count := List.mem_cons_of_mem _ aw_21
theorem hX7_count_X7 : ∀ w ∈ wsX70, w ∈ wsX7_count := fun w h => List.mem_cons_of_mem _ (ac_X7 w h)
theorem kX7_count_f198 : (Cond.fieldLink RX7 198 "LastCallersWord$Plan" "persons" "I" : Cond) ∈ wsX7_count := List.mem_cons_of_mem _ aw_435
theorem hX7_count_X1 : ∀ w ∈ wsX10, w ∈ wsX7_count := fun w h => List.mem_cons_of_mem _ (ac_X1 w h)
theorem kX7_count_f106 : (Cond.fieldLink RX7 106 "LastCallersWord$Plan" "doors" "I" : Cond) ∈ wsX7_count := List.mem_cons_of_mem _ aw_222
theorem kX7_count_f213 : (Cond.fieldLink RX7 213 "LastCallersWord$Plan" "words" "I" : Cond) ∈ wsX7_count := List.mem_cons_of_mem _ aw_678
theorem kX7_count_f38 : (Cond.fieldLink RX7 38 "LastCallersWord" "state" "LLastCallersWord$State;" : Cond) ∈ wsX7_count := List.mem_cons_of_mem _ aw_25
theorem kX7_count_f173 : (Cond.fieldLink RX7 173 "LastCallersWord$State" "days" "I" : Cond) ∈ wsX7_count := List.mem_cons_of_mem _ aw_531
theorem hX7_count_X5 : ∀ w ∈ wsX50, w ∈ wsX7_count := fun w h => List.mem_cons_of_mem _ (ac_X5 w h)
theorem kX7_count_f229 : (Cond.fieldLink RX7 229 "LastCallersWord$Plan" "limit" "I" : Cond) ∈ wsX7_count := List.mem_cons_of_mem _ aw_487
theorem kX7_count_f54 : (Cond.fieldLink RX7 54 "LastCallersWord" "sightings" "LLastCallersWord$Sightings;" : Cond) ∈ wsX7_count := List.mem_cons_of_mem _ aw_33
theorem kX7_count_f201 : (Cond.fieldLink RX7 201 "LastCallersWord$Sightings" "size" "I" : Cond) ∈ wsX7_count := List.mem_cons_of_mem _ aw_647
theorem hX7_count_X4 : ∀ w ∈ wsX40, w ∈ wsX7_count := fun w h => List.mem_cons_of_mem _ (ac_X4 w h)
theorem kX7_count_f63 : (Cond.fieldLink RX7 63 "LastCallersWord" "undoable" "LLastCallersWord$Shelf;" : Cond) ∈ wsX7_count := List.mem_cons_of_mem _ aw_37
theorem kX7_count_f176 : (Cond.fieldLink RX7 176 "LastCallersWord$Shelf" "size" "I" : Cond) ∈ wsX7_count := List.mem_cons_of_mem _ aw_557
theorem hX7_count_X3 : ∀ w ∈ wsX30, w ∈ wsX7_count := fun w h => List.mem_cons_of_mem _ (ac_X3 w h)
theorem kX7_count_f67 : (Cond.fieldLink RX7 67 "LastCallersWord" "kept" "LLastCallersWord$Shelf;" : Cond) ∈ wsX7_count := List.mem_cons_of_mem _ aw_38
theorem kX7_count_f10 : (Cond.fieldLink RX7 10 "LastCallersWord" "letters" "LLastCallersWord$Letters;" : Cond) ∈ wsX7_count := List.mem_cons_of_mem _ aw_12
theorem kX7_count_f99 : (Cond.fieldLink RX7 99 "LastCallersWord$Letters" "length" "I" : Cond) ∈ wsX7_count := List.mem_cons_of_mem _ aw_356
theorem hX7_count_X0 : ∀ w ∈ wsX00, w ∈ wsX7_count := fun w h => List.mem_cons_of_mem _ (ac_X0 w h)
set_option maxHeartbeats 4000000 in
set_option maxRecDepth 100000 in
theorem c_X7_count (l : Launch) (g : GG) (th : Nat) (le : Nat → Nat) (dr : Nat → Nat) (rd : Nat) (pn : Nat → Nat) (sa : Nat → Nat) (tk : Nat) (sg : Nat → Nat) (us : Nat → Nat) (ks : Nat → Nat) (sk : Nat) (len : Nat) (pa : Nat → Nat → Int32) (ps : Nat → Nat) (x : Nat → Nat → Int32) (dy : Nat) (ga : Nat → Nat → Int32) (gz : Nat) (uk : Nat) (kk : Nat) (wv : Int32) (hP8 : ps 0 ≤ 8) (hD5 : ps 2 ≤ 5) (hW6 : ps 3 ≤ 6) (hgz : gz ≤ 8) : Met l yX7_count wsX7_count ({ frames := 0, cells := 0, slots := 0, locals := 0 } : Room) (ro g [.ref th, .int wv] [(th, .inr (7, [.ref (le 0), .ref (dr 0), .ref rd, .ref (pn 0), .ref (sa 0), .ref tk, .ref (sg 0), .ref (us 0), .ref (ks 0), .ref sk])), (le 0, .inr (0, [.ref (le 1), .int (nI len)])), (pn 0, .inr (1, [.ref (pn 1), .ref (pn 2), .ref (pn 3), .ref (pn 4), .ref (pn 5), .int (nI (ps 0)), .int (nI (ps 1)), .int (nI (ps 2)), .int (nI (ps 3)), .int (nI (ps 4))])), (pn 1, .inl (g.2.1, 8, .inl (pa 0))), (pn 2, .inl (g.2.1, 64, .inl (pa 1))), (pn 3, .inl (g.2.1, 5, .inl (pa 2))), (pn 4, .inl (g.2.1, 5, .inl (pa 3))), (pn 5, .inl (g.2.1, 6, .inl (pa 4))), (sa 0, .inr (5, [.ref (sa 1), .ref (sa 2), .ref (sa 3), .ref (sa 4), .int (nI dy)])), (sa 1, .inl (g.2.1, 64, .inl (x 0))), (sa 2, .inl (g.2.1, 5, .inl (x 1))), (sa 3, .inl (g.2.1, 5, .inl (x 2))), (sa 4, .inl (g.2.1, 40, .inl (x 3))), (tk, .inr (6, [.ref (pn 0), .ref (sa 0)])), (sg 0, .inr (4, [.ref (sg 1), .ref (sg 2), .ref (sg 3), .int (nI gz)])), (sg 1, .inl (g.2.1, 8, .inl (ga 0))), (sg 2, .inl (g.2.1, 8, .inl (ga 1))), (sg 3, .inl (g.2.1, 8, .inl (ga 2))), (us 0, .inr (3, [.ref (us 1), .int (nI uk)])), (ks 0, .inr (3, [.ref (ks 1), .int (nI kk)]))]) (vp_Si (fun rr => rr = xCount ps dy gz uk kk len wv)) 0 0 (fun _ => False) := by
  refine ro_start (cc := cX7_count) (maxL := 2) (ty := .int) (by decide) rfl (Nat.le_of_ble_eq_true rfl) (fun p e s m args below meth c Q C hP hret ls hl => ?_)
  obtain ⟨hx, hb, hml, hr, hown, hts, hlk, hKK⟩ := id C
  have hK := hKK.1
  have hown : s.vm.findClass RX7 = some m.cls := hown
  have ctx : CallFix p m c cX7_count 2 s args wsX7_count RX7 := ⟨hx, hb, hml, hown, hts⟩
  have hl : lv_has ls 2 [(0, .ref th), (1, .int wv)] := hl
  refine lv_iload_n hx hb dX7_count_0 rfl (lv_at hl 1 rfl) ?_
  by_cases c_1 : wv = nI 0
  · refine lv_tableIn (x := wv) (off := 51) (tgt := 52) hx hb dX7_count_1 (by rw [c_1]; decide) (by rw [c_1]; decide) (by rw [c_1]; rfl) (by decide) ?_
    refine lv_aload_n hx hb dX7_count_52 rfl (lv_at hl 0 rfl) ?_
    refine va_get (D := g.1) (cl := vwCl) (ci := 7) (v := .ref (pn 0)) (C := RX7) (T := TX7) (N := 10) hx hb hts hX7_count_X7 hown hK hP 0 rfl rfl 3 (by decide) (hts _ kX7_count_f32) (fun _ h9 => h9) rfl dX7_count_53 ?_
    refine va_get (D := g.1) (cl := vwCl) (ci := 1) (v := .int (nI (ps 0))) (C := RX1) (T := TX1) (N := 10) hx hb hts hX7_count_X1 hown hK hP 2 rfl rfl 5 (by decide) (hts _ kX7_count_f198) (fun _ h9 => h9) rfl dX7_count_56 ?_
    exact hret (nI (ps 0)) 59 ls (by simp (decide := true) [xCount, c_1]) (rfl) dX7_count_59
  by_cases c_2 : wv = nI 1
  · refine lv_tableIn (x := wv) (off := 59) (tgt := 60) hx hb dX7_count_1 (by rw [c_2]; decide) (by rw [c_2]; decide) (by rw [c_2]; rfl) (by decide) ?_
    refine lv_aload_n hx hb dX7_count_60 rfl (lv_at hl 0 rfl) ?_
    refine va_get (D := g.1) (cl := vwCl) (ci := 7) (v := .ref (pn 0)) (C := RX7) (T := TX7) (N := 10) hx hb hts hX7_count_X7 hown hK hP 0 rfl rfl 3 (by decide) (hts _ kX7_count_f32) (fun _ h9 => h9) rfl dX7_count_61 ?_
    refine va_get (D := g.1) (cl := vwCl) (ci := 1) (v := .int (nI (ps 2))) (C := RX1) (T := TX1) (N := 10) hx hb hts hX7_count_X1 hown hK hP 2 rfl rfl 7 (by decide) (hts _ kX7_count_f106) (fun _ h9 => h9) rfl dX7_count_64 ?_
    exact hret (nI (ps 2)) 67 ls (by simp (decide := true) [xCount, c_1, c_2]) (rfl) dX7_count_67
  by_cases c_3 : wv = nI 2
  · refine lv_tableIn (x := wv) (off := 67) (tgt := 68) hx hb dX7_count_1 (by rw [c_3]; decide) (by rw [c_3]; decide) (by rw [c_3]; rfl) (by decide) ?_
    refine lv_aload_n hx hb dX7_count_68 rfl (lv_at hl 0 rfl) ?_
    refine va_get (D := g.1) (cl := vwCl) (ci := 7) (v := .ref (pn 0)) (C := RX7) (T := TX7) (N := 10) hx hb hts hX7_count_X7 hown hK hP 0 rfl rfl 3 (by decide) (hts _ kX7_count_f32) (fun _ h9 => h9) rfl dX7_count_69 ?_
    refine va_get (D := g.1) (cl := vwCl) (ci := 1) (v := .int (nI (ps 3))) (C := RX1) (T := TX1) (N := 10) hx hb hts hX7_count_X1 hown hK hP 2 rfl rfl 8 (by decide) (hts _ kX7_count_f213) (fun _ h9 => h9) rfl dX7_count_72 ?_
    exact hret (nI (ps 3)) 75 ls (by simp (decide := true) [xCount, c_1, c_2, c_3]) (rfl) dX7_count_75
  by_cases c_4 : wv = nI 3
  · refine lv_tableIn (x := wv) (off := 75) (tgt := 76) hx hb dX7_count_1 (by rw [c_4]; decide) (by rw [c_4]; decide) (by rw [c_4]; rfl) (by decide) ?_
    refine lv_aload_n hx hb dX7_count_76 rfl (lv_at hl 0 rfl) ?_
    refine va_get (D := g.1) (cl := vwCl) (ci := 7) (v := .ref (sa 0)) (C := RX7) (T := TX7) (N := 10) hx hb hts hX7_count_X7 hown hK hP 0 rfl rfl 4 (by decide) (hts _ kX7_count_f38) (fun _ h9 => h9) rfl dX7_count_77 ?_
    refine va_get (D := g.1) (cl := vwCl) (ci := 5) (v := .int (nI dy)) (C := RX5) (T := TX5) (N := 5) hx hb hts hX7_count_X5 hown hK hP 8 rfl rfl 4 (by decide) (hts _ kX7_count_f173) (fun _ h9 => h9) rfl dX7_count_80 ?_
    exact hret (nI dy) 83 ls (by simp (decide := true) [xCount, c_1, c_2, c_3, c_4]) (rfl) dX7_count_83
  by_cases c_5 : wv = nI 4
  · refine lv_tableIn (x := wv) (off := 83) (tgt := 84) hx hb dX7_count_1 (by rw [c_5]; decide) (by rw [c_5]; decide) (by rw [c_5]; rfl) (by decide) ?_
    refine lv_aload_n hx hb dX7_count_84 rfl (lv_at hl 0 rfl) ?_
    refine va_get (D := g.1) (cl := vwCl) (ci := 7) (v := .ref (pn 0)) (C := RX7) (T := TX7) (N := 10) hx hb hts hX7_count_X7 hown hK hP 0 rfl rfl 3 (by decide) (hts _ kX7_count_f32) (fun _ h9 => h9) rfl dX7_count_85 ?_
    refine va_get (D := g.1) (cl := vwCl) (ci := 1) (v := .int (nI (ps 4))) (C := RX1) (T := TX1) (N := 10) hx hb hts hX7_count_X1 hown hK hP 2 rfl rfl 9 (by decide) (hts _ kX7_count_f229) (fun _ h9 => h9) rfl dX7_count_88 ?_
    exact hret (nI (ps 4)) 91 ls (by simp (decide := true) [xCount, c_1, c_2, c_3, c_4, c_5]) (rfl) dX7_count_91
  by_cases c_6 : wv = nI 5
  · refine lv_tableIn (x := wv) (off := 91) (tgt := 92) hx hb dX7_count_1 (by rw [c_6]; decide) (by rw [c_6]; decide) (by rw [c_6]; rfl) (by decide) ?_
    refine lv_aload_n hx hb dX7_count_92 rfl (lv_at hl 0 rfl) ?_
    refine va_get (D := g.1) (cl := vwCl) (ci := 7) (v := .ref (sg 0)) (C := RX7) (T := TX7) (N := 10) hx hb hts hX7_count_X7 hown hK hP 0 rfl rfl 6 (by decide) (hts _ kX7_count_f54) (fun _ h9 => h9) rfl dX7_count_93 ?_
    refine va_get (D := g.1) (cl := vwCl) (ci := 4) (v := .int (nI gz)) (C := RX4) (T := TX4) (N := 4) hx hb hts hX7_count_X4 hown hK hP 14 rfl rfl 3 (by decide) (hts _ kX7_count_f201) (fun _ h9 => h9) rfl dX7_count_96 ?_
    exact hret (nI gz) 99 ls (by simp (decide := true) [xCount, c_1, c_2, c_3, c_4, c_5, c_6]) (rfl) dX7_count_99
  by_cases c_7 : wv = nI 6
  · refine lv_tableIn (x := wv) (off := 99) (tgt := 100) hx hb dX7_count_1 (by rw [c_7]; decide) (by rw [c_7]; decide) (by rw [c_7]; rfl) (by decide) ?_
    refine lv_aload_n hx hb dX7_count_100 rfl (lv_at hl 0 rfl) ?_
    refine va_get (D := g.1) (cl := vwCl) (ci := 7) (v := .ref (us 0)) (C := RX7) (T := TX7) (N := 10) hx hb hts hX7_count_X7 hown hK hP 0 rfl rfl 7 (by decide) (hts _ kX7_count_f63) (fun _ h9 => h9) rfl dX7_count_101 ?_
    refine va_get (D := g.1) (cl := vwCl) (ci := 3) (v := .int (nI uk)) (C := RX3) (T := TX3) (N := 2) hx hb hts hX7_count_X3 hown hK hP 18 rfl rfl 1 (by decide) (hts _ kX7_count_f176) (fun _ h9 => h9) rfl dX7_count_104 ?_
    exact hret (nI uk) 107 ls (by simp (decide := true) [xCount, c_1, c_2, c_3, c_4, c_5, c_6, c_7]) (rfl) dX7_count_107
  by_cases c_8 : wv = nI 7
  · refine lv_tableIn (x := wv) (off := 107) (tgt := 108) hx hb dX7_count_1 (by rw [c_8]; decide) (by rw [c_8]; decide) (by rw [c_8]; rfl) (by decide) ?_
    refine lv_aload_n hx hb dX7_count_108 rfl (lv_at hl 0 rfl) ?_
    refine va_get (D := g.1) (cl := vwCl) (ci := 7) (v := .ref (ks 0)) (C := RX7) (T := TX7) (N := 10) hx hb hts hX7_count_X7 hown hK hP 0 rfl rfl 8 (by decide) (hts _ kX7_count_f67) (fun _ h9 => h9) rfl dX7_count_109 ?_
    refine va_get (D := g.1) (cl := vwCl) (ci := 3) (v := .int (nI kk)) (C := RX3) (T := TX3) (N := 2) hx hb hts hX7_count_X3 hown hK hP 19 rfl rfl 1 (by decide) (hts _ kX7_count_f176) (fun _ h9 => h9) rfl dX7_count_112 ?_
    exact hret (nI kk) 115 ls (by simp (decide := true) [xCount, c_1, c_2, c_3, c_4, c_5, c_6, c_7, c_8]) (rfl) dX7_count_115
  by_cases c_9 : wv = nI 8
  · refine lv_tableIn (x := wv) (off := 115) (tgt := 116) hx hb dX7_count_1 (by rw [c_9]; decide) (by rw [c_9]; decide) (by rw [c_9]; rfl) (by decide) ?_
    refine lv_aload_n hx hb dX7_count_116 rfl (lv_at hl 0 rfl) ?_
    refine va_get (D := g.1) (cl := vwCl) (ci := 7) (v := .ref (le 0)) (C := RX7) (T := TX7) (N := 10) hx hb hts hX7_count_X7 hown hK hP 0 rfl rfl 0 (by decide) (hts _ kX7_count_f10) (fun _ h9 => h9) rfl dX7_count_117 ?_
    refine va_get (D := g.1) (cl := vwCl) (ci := 0) (v := .int (nI len)) (C := RX0) (T := TX0) (N := 2) hx hb hts hX7_count_X0 hown hK hP 1 rfl rfl 1 (by decide) (hts _ kX7_count_f99) (fun _ h9 => h9) rfl dX7_count_120 ?_
    exact hret (nI len) 123 ls (by simp (decide := true) [xCount, c_1, c_2, c_3, c_4, c_5, c_6, c_7, c_8, c_9]) (rfl) dX7_count_123
  refine lv_tableOut (x := wv) (tgt := 124) hx hb dX7_count_1 (swOut 8 (by decide) (fun k hk => by rcases (by omega : k = 0 ∨ k = 1 ∨ k = 2 ∨ k = 3 ∨ k = 4 ∨ k = 5 ∨ k = 6 ∨ k = 7 ∨ k = 8) with rfl | rfl | rfl | rfl | rfl | rfl | rfl | rfl | rfl <;> assumption)) (by decide) ?_
  refine lv_iconst (v := (-1)) hx hb dX7_count_124 (by decide) ?_
  exact hret (-1) 125 ls (by simp (decide := true) [xCount, c_1, c_2, c_3, c_4, c_5, c_6, c_7, c_8, c_9]) (rfl) dX7_count_125
