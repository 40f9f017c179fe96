
def bcI (x : Int32) : Int32 :=
  let a := x - ((x.toUInt32 >>> ((nI 1).toUInt32 &&& Int32.toUInt32 31)).toInt32 &&& 1431655765)
  let b := (a &&& 858993459) + ((a.toUInt32 >>> ((nI 2).toUInt32 &&& Int32.toUInt32 31)).toInt32 &&& 858993459)
  let c := (b + (b.toUInt32 >>> ((nI 4).toUInt32 &&& Int32.toUInt32 31)).toInt32) &&& 252645135
  let d := c + (c.toUInt32 >>> ((nI 8).toUInt32 &&& Int32.toUInt32 31)).toInt32
  let e := d + (d.toUInt32 >>> ((nI 16).toUInt32 &&& Int32.toUInt32 31)).toInt32
  e &&& nI 63
def nzS (b : Int32) (k : Nat) (q : Int32 × Nat) : Int32 × Nat := if q.1 ≤ b then q else ((q.1.toUInt32 >>> ((nI k).toUInt32 &&& Int32.toUInt32 31)).toInt32, q.2 + k)
def ntzI (x : Int32) : Int32 :=
  if 0 < ((x ^^^ (-1)) &&& (x - nI 1)) then
    nI (nzS (nI 4) 2 (nzS (nI 16) 4 (nzS (nI 256) 8 (nzS 65536 16 ((x ^^^ (-1)) &&& (x - nI 1), 1))))).2 + ((nzS (nI 4) 2 (nzS (nI 16) 4 (nzS (nI 256) 8 (nzS 65536 16 ((x ^^^ (-1)) &&& (x - nI 1), 1))))).1.toUInt32 >>> ((nI 1).toUInt32 &&& Int32.toUInt32 31)).toInt32
  else ((x ^^^ (-1)) &&& (x - nI 1)) &&& nI 32
def lwI (x : Int32) : Int32 := if x = 0 then -4 else ntzI x
def isPb (v : Int32) : Bool := decide (v = 0 ∨ v = nI 1)
def quI (a d : Int32) : Int32 := if d ≤ 0 then nI 0 else a / d
def reI (a d : Int32) : Int32 := if d ≤ 0 then nI 0 else a - a / d * d
def quN (a d : Nat) : Nat := if d ≤ 0 then 0 else a / d
def reN (a d : Nat) : Nat := if d ≤ 0 then 0 else a % d
def cdI : Nat → Int32 → Int32 → Int32
  | 0, a, _ => a
  | f + 1, a, b => if b = 0 then a else cdI f b (a - a / b * b)
def ltI (a b part : Int32) : Int32 := quI (if part = 0 then a else b) (cdI 64 a b)
def dN (z t : Nat) : Nat := (((((7919 * z) + (6151 * t)) + 1) * (((7919 * z) + (6151 * t)) + 1)) % 65521) / 4
theorem inPb_nat {P : Nat} {x : Int32} (h : inPb P x = true) (hP : P < 2 ^ 31) : ∃ i : Nat, i < P ∧ x = nI i := by
  have h2 : ¬ x < 0 ∧ ¬ nI P ≤ x := by simpa [inPb] using h
  obtain ⟨i, hi, rfl⟩ := nI_of h2.1
  exact ⟨i, Nat.lt_of_not_le (fun hh => h2.2 (nI_le hh hi)), rfl⟩
theorem rng_nat {x : Int32} {n : Nat} (h0 : ¬ x < 0) (h : x ≤ nI n) (hn : n < 2 ^ 31) : ∃ i : Nat, i ≤ n ∧ x = nI i := by
  obtain ⟨i, hi, rfl⟩ := nI_of h0
  exact ⟨i, (nI_leI hi hn).mp h, rfl⟩
theorem rng_natg {x : Int32} {n : Nat} (h0 : ¬ x < 0) (h : ¬ nI n < x) (hn : n < 2 ^ 31) : ∃ i : Nat, i ≤ n ∧ x = nI i := by
  obtain ⟨i, hi, rfl⟩ := nI_of h0
  exact ⟨i, Nat.le_of_not_lt (fun hh => h (nI_lt hh hi)), rfl⟩
theorem reN_lt {a d : Nat} (h : 0 < d) : reN a d < d := by rw [reN, if_neg (by omega)]; exact Nat.mod_lt _ h
theorem reN_le (a d : Nat) : reN a d ≤ a := by rw [reN]; split; exact Nat.zero_le _; exact Nat.mod_le _ _
theorem quN_le (a d : Nat) : quN a d ≤ a := by rw [quN]; split; exact Nat.zero_le _; exact Nat.div_le_self _ _
theorem kJ6_bitCount_0f7a4_I265 : (Cond.constant RJ6 265 (1431655765) : Cond) ∈ wsJ6_bitCount_0f7a4 := List.mem_cons_of_mem _ aw_444
theorem kJ6_bitCount_0f7a4_I266 : (Cond.constant RJ6 266 (858993459) : Cond) ∈ wsJ6_bitCount_0f7a4 := List.mem_cons_of_mem _ aw_445
theorem kJ6_bitCount_0f7a4_I267 : (Cond.constant RJ6 267 (252645135) : Cond) ∈ wsJ6_bitCount_0f7a4 := List.mem_cons_of_mem _ aw_446
set_option maxHeartbeats 4000000 in
set_option maxRecDepth 100000 in
theorem c_J6_bitCount_0f7a4 (l : Launch) (g : GG) (x : Int32) : Met l yJ6_bitCount_0f7a4 wsJ6_bitCount_0f7a4 ({ frames := 0, cells := 0, slots := 0, locals := 0 } : Room) (ro g [.int x] []) (vp_Si (fun rr => rr = bcI x)) 0 0 (fun _ => False) := by
  refine ro_start (cc := cJ6_bitCount_0f7a4) (maxL := 1) (ty := .int) (by decide) rfl (Nat.le_of_ble_eq_true rfl) (fun p e s m args below meth c Q C hP hret ls hl => ?_)
  obtain ⟨hx, hb, hml, hr, hown, hts, hlk, hKK⟩ := id C
  have hK := hKK.1
  have hown : s.vm.findClass RJ6 = some m.cls := hown
  have ctx : CallFix p m c cJ6_bitCount_0f7a4 1 s args wsJ6_bitCount_0f7a4 RJ6 := ⟨hx, hb, hml, hown, hts⟩
  have hl : lv_has ls 1 [(0, .int x)] := hl
  refine lv_iload_n hx hb dJ6_bitCount_0f7a4_0 rfl (lv_at hl 0 rfl) ?_
  refine lv_iload_n hx hb dJ6_bitCount_0f7a4_1 rfl (lv_at hl 0 rfl) ?_
  refine lv_iconst (v := nI 1) hx hb dJ6_bitCount_0f7a4_2 (by decide) ?_
  refine lv_iushr (v := (x.toUInt32 >>> ((nI 1).toUInt32 &&& Int32.toUInt32 31)).toInt32) hx hb dJ6_bitCount_0f7a4_3 rfl ?_
  refine lv_ldcw (v := 1431655765) hx hb hown (hts _ kJ6_bitCount_0f7a4_I265) dJ6_bitCount_0f7a4_4 ?_
  refine lv_iand hx hb dJ6_bitCount_0f7a4_7 ?_
  refine lv_isub hx hb dJ6_bitCount_0f7a4_8 ?_
  refine lv_istore_n (lv' := [(0, .int (x - (((x.toUInt32 >>> ((nI 1).toUInt32 &&& Int32.toUInt32 31)).toInt32) &&& (1431655765))))]) hx hb dJ6_bitCount_0f7a4_9 rfl hl (by decide) rfl (fun ls hl => ?_)
  refine lv_iload_n hx hb dJ6_bitCount_0f7a4_10 rfl (lv_at hl 0 rfl) ?_
  refine lv_ldcw (v := 858993459) hx hb hown (hts _ kJ6_bitCount_0f7a4_I266) dJ6_bitCount_0f7a4_11 ?_
  refine lv_iand hx hb dJ6_bitCount_0f7a4_14 ?_
  refine lv_iload_n hx hb dJ6_bitCount_0f7a4_15 rfl (lv_at hl 0 rfl) ?_
  refine lv_iconst (v := nI 2) hx hb dJ6_bitCount_0f7a4_16 (by decide) ?_
  refine lv_iushr (v := ((x - (((x.toUInt32 >>> ((nI 1).toUInt32 &&& Int32.toUInt32 31)).toInt32) &&& (1431655765))).toUInt32 >>> ((nI 2).toUInt32 &&& Int32.toUInt32 31)).toInt32) hx hb dJ6_bitCount_0f7a4_17 rfl ?_
  refine lv_ldcw (v := 858993459) hx hb hown (hts _ kJ6_bitCount_0f7a4_I266) dJ6_bitCount_0f7a4_18 ?_
  refine lv_iand hx hb dJ6_bitCount_0f7a4_21 ?_
  refine lv_iadd hx hb dJ6_bitCount_0f7a4_22 ?_
  refine lv_istore_n (lv' := [(0, .int (((x - (((x.toUInt32 >>> ((nI 1).toUInt32 &&& Int32.toUInt32 31)).toInt32) &&& (1431655765))) &&& (858993459)) + ((((x - (((x.toUInt32 >>> ((nI 1).toUInt32 &&& Int32.toUInt32 31)).toInt32) &&& (1431655765))).toUInt32 >>> ((nI 2).toUInt32 &&& Int32.toUInt32 31)).toInt32) &&& (858993459))))]) hx hb dJ6_bitCount_0f7a4_23 rfl hl (by decide) rfl (fun ls hl => ?_)
  refine lv_iload_n hx hb dJ6_bitCount_0f7a4_24 rfl (lv_at hl 0 rfl) ?_
  refine lv_iload_n hx hb dJ6_bitCount_0f7a4_25 rfl (lv_at hl 0 rfl) ?_
  refine lv_iconst (v := nI 4) hx hb dJ6_bitCount_0f7a4_26 (by decide) ?_
  refine lv_iushr (v := ((((x - (((x.toUInt32 >>> ((nI 1).toUInt32 &&& Int32.toUInt32 31)).toInt32) &&& (1431655765))) &&& (858993459)) + ((((x - (((x.toUInt32 >>> ((nI 1).toUInt32 &&& Int32.toUInt32 31)).toInt32) &&& (1431655765))).toUInt32 >>> ((nI 2).toUInt32 &&& Int32.toUInt32 31)).toInt32) &&& (858993459))).toUInt32 >>> ((nI 4).toUInt32 &&& Int32.toUInt32 31)).toInt32) hx hb dJ6_bitCount_0f7a4_27 rfl ?_
  refine lv_iadd hx hb dJ6_bitCount_0f7a4_28 ?_
  refine lv_ldcw (v := 252645135) hx hb hown (hts _ kJ6_bitCount_0f7a4_I267) dJ6_bitCount_0f7a4_29 ?_
  refine lv_iand hx hb dJ6_bitCount_0f7a4_32 ?_
  refine lv_istore_n (lv' := [(0, .int (((((x - (((x.toUInt32 >>> ((nI 1).toUInt32 &&& Int32.toUInt32 31)).toInt32) &&& (1431655765))) &&& (858993459)) + ((((x - (((x.toUInt32 >>> ((nI 1).toUInt32 &&& Int32.toUInt32 31)).toInt32) &&& (1431655765))).toUInt32 >>> ((nI 2).toUInt32 &&& Int32.toUInt32 31)).toInt32) &&& (858993459))) + (((((x - (((x.toUInt32 >>> ((nI 1).toUInt32 &&& Int32.toUInt32 31)).toInt32) &&& (1431655765))) &&& (858993459)) + ((((x - (((x.toUInt32 >>> ((nI 1).toUInt32 &&& Int32.toUInt32 31)).toInt32) &&& (1431655765))).toUInt32 >>> ((nI 2).toUInt32 &&& Int32.toUInt32 31)).toInt32) &&& (858993459))).toUInt32 >>> ((nI 4).toUInt32 &&& Int32.toUInt32 31)).toInt32)) &&& (252645135)))]) hx hb dJ6_bitCount_0f7a4_33 rfl hl (by decide) rfl (fun ls hl => ?_)
  refine lv_iload_n hx hb dJ6_bitCount_0f7a4_34 rfl (lv_at hl 0 rfl) ?_
  refine lv_iload_n hx hb dJ6_bitCount_0f7a4_35 rfl (lv_at hl 0 rfl) ?_
  refine lv_bipush (v := nI 8) hx hb dJ6_bitCount_0f7a4_36 (by decide) ?_
  refine lv_iushr (v := ((((((x - (((x.toUInt32 >>> ((nI 1).toUInt32 &&& Int32.toUInt32 31)).toInt32) &&& (1431655765))) &&& (858993459)) + ((((x - (((x.toUInt32 >>> ((nI 1).toUInt32 &&& Int32.toUInt32 31)).toInt32) &&& (1431655765))).toUInt32 >>> ((nI 2).toUInt32 &&& Int32.toUInt32 31)).toInt32) &&& (858993459))) + (((((x - (((x.toUInt32 >>> ((nI 1).toUInt32 &&& Int32.toUInt32 31)).toInt32) &&& (1431655765))) &&& (858993459)) + ((((x - (((x.toUInt32 >>> ((nI 1).toUInt32 &&& Int32.toUInt32 31)).toInt32) &&& (1431655765))).toUInt32 >>> ((nI 2).toUInt32 &&& Int32.toUInt32 31)).toInt32) &&& (858993459))).toUInt32 >>> ((nI 4).toUInt32 &&& Int32.toUInt32 31)).toInt32)) &&& (252645135)).toUInt32 >>> ((nI 8).toUInt32 &&& Int32.toUInt32 31)).toInt32) hx hb dJ6_bitCount_0f7a4_38 rfl ?_
  refine lv_iadd hx hb dJ6_bitCount_0f7a4_39 ?_
  refine lv_istore_n (lv' := [(0, .int ((((((x - (((x.toUInt32 >>> ((nI 1).toUInt32 &&& Int32.toUInt32 31)).toInt32) &&& (1431655765))) &&& (858993459)) + ((((x - (((x.toUInt32 >>> ((nI 1).toUInt32 &&& Int32.toUInt32 31)).toInt32) &&& (1431655765))).toUInt32 >>> ((nI 2).toUInt32 &&& Int32.toUInt32 31)).toInt32) &&& (858993459))) + (((((x - (((x.toUInt32 >>> ((nI 1).toUInt32 &&& Int32.toUInt32 31)).toInt32) &&& (1431655765))) &&& (858993459)) + ((((x - (((x.toUInt32 >>> ((nI 1).toUInt32 &&& Int32.toUInt32 31)).toInt32) &&& (1431655765))).toUInt32 >>> ((nI 2).toUInt32 &&& Int32.toUInt32 31)).toInt32) &&& (858993459))).toUInt32 >>> ((nI 4).toUInt32 &&& Int32.toUInt32 31)).toInt32)) &&& (252645135)) + (((((((x - (((x.toUInt32 >>> ((nI 1).toUInt32 &&& Int32.toUInt32 31)).toInt32) &&& (1431655765))) &&& (858993459)) + ((((x - (((x.toUInt32 >>> ((nI 1).toUInt32 &&& Int32.toUInt32 31)).toInt32) &&& (1431655765))).toUInt32 >>> ((nI 2).toUInt32 &&& Int32.toUInt32 31)).toInt32) &&& (858993459))) + (((((x - (((x.toUInt32 >>> ((nI 1).toUInt32 &&& Int32.toUInt32 31)).toInt32) &&& (1431655765))) &&& (858993459)) + ((((x - (((x.toUInt32 >>> ((nI 1).toUInt32 &&& Int32.toUInt32 31)).toInt32) &&& (1431655765))).toUInt32 >>> ((nI 2).toUInt32 &&& Int32.toUInt32 31)).toInt32) &&& (858993459))).toUInt32 >>> ((nI 4).toUInt32 &&& Int32.toUInt32 31)).toInt32)) &&& (252645135)).toUInt32 >>> ((nI 8).toUInt32 &&& Int32.toUInt32 31)).toInt32)))]) hx hb dJ6_bitCount_0f7a4_40 rfl hl (by decide) rfl (fun ls hl => ?_)
  refine lv_iload_n hx hb dJ6_bitCount_0f7a4_41 rfl (lv_at hl 0 rfl) ?_
  refine lv_iload_n hx hb dJ6_bitCount_0f7a4_42 rfl (lv_at hl 0 rfl) ?_
  refine lv_bipush (v := nI 16) hx hb dJ6_bitCount_0f7a4_43 (by decide) ?_
  refine lv_iushr (v := (((((((x - (((x.toUInt32 >>> ((nI 1).toUInt32 &&& Int32.toUInt32 31)).toInt32) &&& (1431655765))) &&& (858993459)) + ((((x - (((x.toUInt32 >>> ((nI 1).toUInt32 &&& Int32.toUInt32 31)).toInt32) &&& (1431655765))).toUInt32 >>> ((nI 2).toUInt32 &&& Int32.toUInt32 31)).toInt32) &&& (858993459))) + (((((x - (((x.toUInt32 >>> ((nI 1).toUInt32 &&& Int32.toUInt32 31)).toInt32) &&& (1431655765))) &&& (858993459)) + ((((x - (((x.toUInt32 >>> ((nI 1).toUInt32 &&& Int32.toUInt32 31)).toInt32) &&& (1431655765))).toUInt32 >>> ((nI 2).toUInt32 &&& Int32.toUInt32 31)).toInt32) &&& (858993459))).toUInt32 >>> ((nI 4).toUInt32 &&& Int32.toUInt32 31)).toInt32)) &&& (252645135)) + (((((((x - (((x.toUInt32 >>> ((nI 1).toUInt32 &&& Int32.toUInt32 31)).toInt32) &&& (1431655765))) &&& (858993459)) + ((((x - (((x.toUInt32 >>> ((nI 1).toUInt32 &&& Int32.toUInt32 31)).toInt32) &&& (1431655765))).toUInt32 >>> ((nI 2).toUInt32 &&& Int32.toUInt32 31)).toInt32) &&& (858993459))) + (((((x - (((x.toUInt32 >>> ((nI 1).toUInt32 &&& Int32.toUInt32 31)).toInt32) &&& (1431655765))) &&& (858993459)) + ((((x - (((x.toUInt32 >>> ((nI 1).toUInt32 &&& Int32.toUInt32 31)).toInt32) &&& (1431655765))).toUInt32 >>> ((nI 2).toUInt32 &&& Int32.toUInt32 31)).toInt32) &&& (858993459))).toUInt32 >>> ((nI 4).toUInt32 &&& Int32.toUInt32 31)).toInt32)) &&& (252645135)).toUInt32 >>> ((nI 8).toUInt32 &&& Int32.toUInt32 31)).toInt32)).toUInt32 >>> ((nI 16).toUInt32 &&& Int32.toUInt32 31)).toInt32) hx hb dJ6_bitCount_0f7a4_45 rfl ?_
  refine lv_iadd hx hb dJ6_bitCount_0f7a4_46 ?_
  refine lv_istore_n (lv' := [(0, .int (((((((x - (((x.toUInt32 >>> ((nI 1).toUInt32 &&& Int32.toUInt32 31)).toInt32) &&& (1431655765))) &&& (858993459)) + ((((x - (((x.toUInt32 >>> ((nI 1).toUInt32 &&& Int32.toUInt32 31)).toInt32) &&& (1431655765))).toUInt32 >>> ((nI 2).toUInt32 &&& Int32.toUInt32 31)).toInt32) &&& (858993459))) + (((((x - (((x.toUInt32 >>> ((nI 1).toUInt32 &&& Int32.toUInt32 31)).toInt32) &&& (1431655765))) &&& (858993459)) + ((((x - (((x.toUInt32 >>> ((nI 1).toUInt32 &&& Int32.toUInt32 31)).toInt32) &&& (1431655765))).toUInt32 >>> ((nI 2).toUInt32 &&& Int32.toUInt32 31)).toInt32) &&& (858993459))).toUInt32 >>> ((nI 4).toUInt32 &&& Int32.toUInt32 31)).toInt32)) &&& (252645135)) + (((((((x - (((x.toUInt32 >>> ((nI 1).toUInt32 &&& Int32.toUInt32 31)).toInt32) &&& (1431655765))) &&& (858993459)) + ((((x - (((x.toUInt32 >>> ((nI 1).toUInt32 &&& Int32.toUInt32 31)).toInt32) &&& (1431655765))).toUInt32 >>> ((nI 2).toUInt32 &&& Int32.toUInt32 31)).toInt32) &&& (858993459))) + (((((x - (((x.toUInt32 >>> ((nI 1).toUInt32 &&& Int32.toUInt32 31)).toInt32) &&& (1431655765))) &&& (858993459)) + ((((x - (((x.toUInt32 >>> ((nI 1).toUInt32 &&& Int32.toUInt32 31)).toInt32) &&& (1431655765))).toUInt32 >>> ((nI 2).toUInt32 &&& Int32.toUInt32 31)).toInt32) &&& (858993459))).toUInt32 >>> ((nI 4).toUInt32 &&& Int32.toUInt32 31)).toInt32)) &&& (252645135)).toUInt32 >>> ((nI 8).toUInt32 &&& Int32.toUInt32 31)).toInt32)) + ((((((((x - (((x.toUInt32 >>> ((nI 1).toUInt32 &&& Int32.toUInt32 31)).toInt32) &&& (1431655765))) &&& (858993459)) + ((((x - (((x.toUInt32 >>> ((nI 1).toUInt32 &&& Int32.toUInt32 31)).toInt32) &&& (1431655765))).toUInt32 >>> ((nI 2).toUInt32 &&& Int32.toUInt32 31)).toInt32) &&& (858993459))) + (((((x - (((x.toUInt32 >>> ((nI 1).toUInt32 &&& Int32.toUInt32 31)).toInt32) &&& (1431655765))) &&& (858993459)) + ((((x - (((x.toUInt32 >>> ((nI 1).toUInt32 &&& Int32.toUInt32 31)).toInt32) &&& (1431655765))).toUInt32 >>> ((nI 2).toUInt32 &&& Int32.toUInt32 31)).toInt32) &&& (858993459))).toUInt32 >>> ((nI 4).toUInt32 &&& Int32.toUInt32 31)).toInt32)) &&& (252645135)) + (((((((x - (((x.toUInt32 >>> ((nI 1).toUInt32 &&& Int32.toUInt32 31)).toInt32) &&& (1431655765))) &&& (858993459)) + ((((x - (((x.toUInt32 >>> ((nI 1).toUInt32 &&& Int32.toUInt32 31)).toInt32) &&& (1431655765))).toUInt32 >>> ((nI 2).toUInt32 &&& Int32.toUInt32 31)).toInt32) &&& (858993459))) + (((((x - (((x.toUInt32 >>> ((nI 1).toUInt32 &&& Int32.toUInt32 31)).toInt32) &&& (1431655765))) &&& (858993459)) + ((((x - (((x.toUInt32 >>> ((nI 1).toUInt32 &&& Int32.toUInt32 31)).toInt32) &&& (1431655765))).toUInt32 >>> ((nI 2).toUInt32 &&& Int32.toUInt32 31)).toInt32) &&& (858993459))).toUInt32 >>> ((nI 4).toUInt32 &&& Int32.toUInt32 31)).toInt32)) &&& (252645135)).toUInt32 >>> ((nI 8).toUInt32 &&& Int32.toUInt32 31)).toInt32)).toUInt32 >>> ((nI 16).toUInt32 &&& Int32.toUInt32 31)).toInt32)))]) hx hb dJ6_bitCount_0f7a4_47 rfl hl (by decide) rfl (fun ls hl => ?_)
  refine lv_iload_n hx hb dJ6_bitCount_0f7a4_48 rfl (lv_at hl 0 rfl) ?_
  refine lv_bipush (v := nI 63) hx hb dJ6_bitCount_0f7a4_49 (by decide) ?_
  refine lv_iand hx hb dJ6_bitCount_0f7a4_51 ?_
  exact hret ((((((((x - (((x.toUInt32 >>> ((nI 1).toUInt32 &&& Int32.toUInt32 31)).toInt32) &&& (1431655765))) &&& (858993459)) + ((((x - (((x.toUInt32 >>> ((nI 1).toUInt32 &&& Int32.toUInt32 31)).toInt32) &&& (1431655765))).toUInt32 >>> ((nI 2).toUInt32 &&& Int32.toUInt32 31)).toInt32) &&& (858993459))) + (((((x - (((x.toUInt32 >>> ((nI 1).toUInt32 &&& Int32.toUInt32 31)).toInt32) &&& (1431655765))) &&& (858993459)) + ((((x - (((x.toUInt32 >>> ((nI 1).toUInt32 &&& Int32.toUInt32 31)).toInt32) &&& (1431655765))).toUInt32 >>> ((nI 2).toUInt32 &&& Int32.toUInt32 31)).toInt32) &&& (858993459))).toUInt32 >>> ((nI 4).toUInt32 &&& Int32.toUInt32 31)).toInt32)) &&& (252645135)) + (((((((x - (((x.toUInt32 >>> ((nI 1).toUInt32 &&& Int32.toUInt32 31)).toInt32) &&& (1431655765))) &&& (858993459)) + ((((x - (((x.toUInt32 >>> ((nI 1).toUInt32 &&& Int32.toUInt32 31)).toInt32) &&& (1431655765))).toUInt32 >>> ((nI 2).toUInt32 &&& Int32.toUInt32 31)).toInt32) &&& (858993459))) + (((((x - (((x.toUInt32 >>> ((nI 1).toUInt32 &&& Int32.toUInt32 31)).toInt32) &&& (1431655765))) &&& (858993459)) + ((((x - (((x.toUInt32 >>> ((nI 1).toUInt32 &&& Int32.toUInt32 31)).toInt32) &&& (1431655765))).toUInt32 >>> ((nI 2).toUInt32 &&& Int32.toUInt32 31)).toInt32) &&& (858993459))).toUInt32 >>> ((nI 4).toUInt32 &&& Int32.toUInt32 31)).toInt32)) &&& (252645135)).toUInt32 >>> ((nI 8).toUInt32 &&& Int32.toUInt32 31)).toInt32)) + ((((((((x - (((x.toUInt32 >>> ((nI 1).toUInt32 &&& Int32.toUInt32 31)).toInt32) &&& (1431655765))) &&& (858993459)) + ((((x - (((x.toUInt32 >>> ((nI 1).toUInt32 &&& Int32.toUInt32 31)).toInt32) &&& (1431655765))).toUInt32 >>> ((nI 2).toUInt32 &&& Int32.toUInt32 31)).toInt32) &&& (858993459))) + (((((x - (((x.toUInt32 >>> ((nI 1).toUInt32 &&& Int32.toUInt32 31)).toInt32) &&& (1431655765))) &&& (858993459)) + ((((x - (((x.toUInt32 >>> ((nI 1).toUInt32 &&& Int32.toUInt32 31)).toInt32) &&& (1431655765))).toUInt32 >>> ((nI 2).toUInt32 &&& Int32.toUInt32 31)).toInt32) &&& (858993459))).toUInt32 >>> ((nI 4).toUInt32 &&& Int32.toUInt32 31)).toInt32)) &&& (252645135)) + (((((((x - (((x.toUInt32 >>> ((nI 1).toUInt32 &&& Int32.toUInt32 31)).toInt32) &&& (1431655765))) &&& (858993459)) + ((((x - (((x.toUInt32 >>> ((nI 1).toUInt32 &&& Int32.toUInt32 31)).toInt32) &&& (1431655765))).toUInt32 >>> ((nI 2).toUInt32 &&& Int32.toUInt32 31)).toInt32) &&& (858993459))) + (((((x - (((x.toUInt32 >>> ((nI 1).toUInt32 &&& Int32.toUInt32 31)).toInt32) &&& (1431655765))) &&& (858993459)) + ((((x - (((x.toUInt32 >>> ((nI 1).toUInt32 &&& Int32.toUInt32 31)).toInt32) &&& (1431655765))).toUInt32 >>> ((nI 2).toUInt32 &&& Int32.toUInt32 31)).toInt32) &&& (858993459))).toUInt32 >>> ((nI 4).toUInt32 &&& Int32.toUInt32 31)).toInt32)) &&& (252645135)).toUInt32 >>> ((nI 8).toUInt32 &&& Int32.toUInt32 31)).toInt32)).toUInt32 >>> ((nI 16).toUInt32 &&& Int32.toUInt32 31)).toInt32)) &&& (nI 63)) 52 ls (rfl) (rfl) dJ6_bitCount_0f7a4_52
theorem kJ6_numberOfTrailingZeros_0f7a4_I264 : (Cond.constant RJ6 264 (65536) : Cond) ∈ wsJ6_numberOfTrailingZeros_0f7a4 := List.mem_cons_of_mem _ aw_634
set_option maxHeartbeats 4000000 in
set_option maxRecDepth 100000 in
theorem c_J6_numberOfTrailingZeros_0f7a4 (l : Launch) (g : GG) (x : Int32) : Met l yJ6_numberOfTrailingZeros_0f7a4 wsJ6_numberOfTrailingZeros_0f7a4 ({ frames := 0, cells := 0, slots := 0, locals := 0 } : Room) (ro g [.int x] []) (vp_Si (fun rr => rr = ntzI x)) 0 0 (fun _ => False) := by
  refine ro_start (cc := cJ6_numberOfTrailingZeros_0f7a4) (maxL := 2) (ty := .int) (by decide) rfl (Nat.le_of_ble_eq_true rfl) (fun p e s m args below meth c Q C hP hret ls hl => ?_)
  obtain ⟨hx, hb, hml, hr, hown, hts, hlk, hKK⟩ := id C
  have hK := hKK.1
  have hown : s.vm.findClass RJ6 = some m.cls := hown
  have ctx : CallFix p m c cJ6_numberOfTrailingZeros_0f7a4 2 s args wsJ6_numberOfTrailingZeros_0f7a4 RJ6 := ⟨hx, hb, hml, hown, hts⟩
  have hl : lv_has ls 2 [(0, .int x)] := hl
  refine lv_iload_n hx hb dJ6_numberOfTrailingZeros_0f7a4_0 rfl (lv_at hl 0 rfl) ?_
  refine lv_iconst (v := (-1)) hx hb dJ6_numberOfTrailingZeros_0f7a4_1 (by decide) ?_
  refine lv_ixor hx hb dJ6_numberOfTrailingZeros_0f7a4_2 ?_
  refine lv_iload_n hx hb dJ6_numberOfTrailingZeros_0f7a4_3 rfl (lv_at hl 0 rfl) ?_
  refine lv_iconst (v := nI 1) hx hb dJ6_numberOfTrailingZeros_0f7a4_4 (by decide) ?_
  refine lv_isub hx hb dJ6_numberOfTrailingZeros_0f7a4_5 ?_
  refine lv_iand hx hb dJ6_numberOfTrailingZeros_0f7a4_6 ?_
  refine lv_istore_n (lv' := [(0, .int ((x ^^^ (-1)) &&& (x - (nI 1))))]) hx hb dJ6_numberOfTrailingZeros_0f7a4_7 rfl hl (by decide) rfl (fun ls hl => ?_)
  refine lv_iload_n hx hb dJ6_numberOfTrailingZeros_0f7a4_8 rfl (lv_at hl 0 rfl) ?_
  refine lv_if_gt (tgt := 17) hx hb dJ6_numberOfTrailingZeros_0f7a4_9 (by decide) (fun c_1 => ?_) (fun c_1 => ?_)
  · refine lv_iconst (v := nI 1) hx hb dJ6_numberOfTrailingZeros_0f7a4_17 (by decide) ?_
    refine lv_istore_n (lv' := [(1, .int (nI 1)), (0, .int ((x ^^^ (-1)) &&& (x - (nI 1))))]) hx hb dJ6_numberOfTrailingZeros_0f7a4_18 rfl hl (by decide) rfl (fun ls hl => ?_)
    refine lv_iload_n hx hb dJ6_numberOfTrailingZeros_0f7a4_19 rfl (lv_at hl 1 rfl) ?_
    refine lv_ldcw (v := 65536) hx hb hown (hts _ kJ6_numberOfTrailingZeros_0f7a4_I264) dJ6_numberOfTrailingZeros_0f7a4_20 ?_
    refine lv_icmp_le (tgt := 34) hx hb dJ6_numberOfTrailingZeros_0f7a4_23 (by decide) (fun c_2 => ?_) (fun c_2 => ?_)
    · refine lv_iload_n hx hb dJ6_numberOfTrailingZeros_0f7a4_34 rfl (lv_at hl 1 rfl) ?_
      refine lv_sipush (v := nI 256) hx hb dJ6_numberOfTrailingZeros_0f7a4_35 (by decide) ?_
      refine lv_icmp_le (tgt := 49) hx hb dJ6_numberOfTrailingZeros_0f7a4_38 (by decide) (fun c_3 => ?_) (fun c_3 => ?_)
      · refine lv_iload_n hx hb dJ6_numberOfTrailingZeros_0f7a4_49 rfl (lv_at hl 1 rfl) ?_
        refine lv_bipush (v := nI 16) hx hb dJ6_numberOfTrailingZeros_0f7a4_50 (by decide) ?_
        refine lv_icmp_le (tgt := 62) hx hb dJ6_numberOfTrailingZeros_0f7a4_52 (by decide) (fun c_4 => ?_) (fun c_4 => ?_)
        · refine lv_iload_n hx hb dJ6_numberOfTrailingZeros_0f7a4_62 rfl (lv_at hl 1 rfl) ?_
          refine lv_iconst (v := nI 4) hx hb dJ6_numberOfTrailingZeros_0f7a4_63 (by decide) ?_
          refine lv_icmp_le (tgt := 74) hx hb dJ6_numberOfTrailingZeros_0f7a4_64 (by decide) (fun c_5 => ?_) (fun c_5 => ?_)
          · refine lv_iload_n hx hb dJ6_numberOfTrailingZeros_0f7a4_74 rfl (lv_at hl 0 rfl) ?_
            refine lv_iload_n hx hb dJ6_numberOfTrailingZeros_0f7a4_75 rfl (lv_at hl 1 rfl) ?_
            refine lv_iconst (v := nI 1) hx hb dJ6_numberOfTrailingZeros_0f7a4_76 (by decide) ?_
            refine lv_iushr (v := (((x ^^^ (-1)) &&& (x - (nI 1))).toUInt32 >>> ((nI 1).toUInt32 &&& Int32.toUInt32 31)).toInt32) hx hb dJ6_numberOfTrailingZeros_0f7a4_77 rfl ?_
            refine lv_iadd hx hb dJ6_numberOfTrailingZeros_0f7a4_78 ?_
            exact hret ((nI 1) + ((((x ^^^ (-1)) &&& (x - (nI 1))).toUInt32 >>> ((nI 1).toUInt32 &&& Int32.toUInt32 31)).toInt32)) 79 ls (by simp only [ntzI, nzS, c_1, c_2, c_3, c_4, c_5, if_true, if_false, Nat.reduceAdd]) (rfl) dJ6_numberOfTrailingZeros_0f7a4_79
          · refine lv_iinc (v := nI 3) (lv' := [(1, .int (nI 3)), (0, .int ((x ^^^ (-1)) &&& (x - (nI 1))))]) hx hb dJ6_numberOfTrailingZeros_0f7a4_67 hl (k := 0) rfl (by decide) (by decide) rfl (fun ls hl => ?_)
            refine lv_iload_n hx hb dJ6_numberOfTrailingZeros_0f7a4_70 rfl (lv_at hl 1 rfl) ?_
            refine lv_iconst (v := nI 2) hx hb dJ6_numberOfTrailingZeros_0f7a4_71 (by decide) ?_
            refine lv_iushr (v := (((x ^^^ (-1)) &&& (x - (nI 1))).toUInt32 >>> ((nI 2).toUInt32 &&& Int32.toUInt32 31)).toInt32) hx hb dJ6_numberOfTrailingZeros_0f7a4_72 rfl ?_
            refine lv_istore_n (lv' := [(0, .int ((((x ^^^ (-1)) &&& (x - (nI 1))).toUInt32 >>> ((nI 2).toUInt32 &&& Int32.toUInt32 31)).toInt32)), (1, .int (nI 3))]) hx hb dJ6_numberOfTrailingZeros_0f7a4_73 rfl hl (by decide) rfl (fun ls hl => ?_)
            refine lv_iload_n hx hb dJ6_numberOfTrailingZeros_0f7a4_74 rfl (lv_at hl 1 rfl) ?_
            refine lv_iload_n hx hb dJ6_numberOfTrailingZeros_0f7a4_75 rfl (lv_at hl 0 rfl) ?_
            refine lv_iconst (v := nI 1) hx hb dJ6_numberOfTrailingZeros_0f7a4_76 (by decide) ?_
            refine lv_iushr (v := (((((x ^^^ (-1)) &&& (x - (nI 1))).toUInt32 >>> ((nI 2).toUInt32 &&& Int32.toUInt32 31)).toInt32).toUInt32 >>> ((nI 1).toUInt32 &&& Int32.toUInt32 31)).toInt32) hx hb dJ6_numberOfTrailingZeros_0f7a4_77 rfl ?_
            refine lv_iadd hx hb dJ6_numberOfTrailingZeros_0f7a4_78 ?_
            exact hret ((nI 3) + ((((((x ^^^ (-1)) &&& (x - (nI 1))).toUInt32 >>> ((nI 2).toUInt32 &&& Int32.toUInt32 31)).toInt32).toUInt32 >>> ((nI 1).toUInt32 &&& Int32.toUInt32 31)).toInt32)) 79 ls (by simp only [ntzI, nzS, c_1, c_2, c_3, c_4, c_5, if_true, if_false, Nat.reduceAdd]) (rfl) dJ6_numberOfTrailingZeros_0f7a4_79
        · refine lv_iinc (v := nI 5) (lv' := [(1, .int (nI 5)), (0, .int ((x ^^^ (-1)) &&& (x - (nI 1))))]) hx hb dJ6_numberOfTrailingZeros_0f7a4_55 hl (k := 0) rfl (by decide) (by decide) rfl (fun ls hl => ?_)
          refine lv_iload_n hx hb dJ6_numberOfTrailingZeros_0f7a4_58 rfl (lv_at hl 1 rfl) ?_
          refine lv_iconst (v := nI 4) hx hb dJ6_numberOfTrailingZeros_0f7a4_59 (by decide) ?_
          refine lv_iushr (v := (((x ^^^ (-1)) &&& (x - (nI 1))).toUInt32 >>> ((nI 4).toUInt32 &&& Int32.toUInt32 31)).toInt32) hx hb dJ6_numberOfTrailingZeros_0f7a4_60 rfl ?_
          refine lv_istore_n (lv' := [(0, .int ((((x ^^^ (-1)) &&& (x - (nI 1))).toUInt32 >>> ((nI 4).toUInt32 &&& Int32.toUInt32 31)).toInt32)), (1, .int (nI 5))]) hx hb dJ6_numberOfTrailingZeros_0f7a4_61 rfl hl (by decide) rfl (fun ls hl => ?_)
          refine lv_iload_n hx hb dJ6_numberOfTrailingZeros_0f7a4_62 rfl (lv_at hl 0 rfl) ?_
          refine lv_iconst (v := nI 4) hx hb dJ6_numberOfTrailingZeros_0f7a4_63 (by decide) ?_
          refine lv_icmp_le (tgt := 74) hx hb dJ6_numberOfTrailingZeros_0f7a4_64 (by decide) (fun c_6 => ?_) (fun c_6 => ?_)
          · refine lv_iload_n hx hb dJ6_numberOfTrailingZeros_0f7a4_74 rfl (lv_at hl 1 rfl) ?_
            refine lv_iload_n hx hb dJ6_numberOfTrailingZeros_0f7a4_75 rfl (lv_at hl 0 rfl) ?_
            refine lv_iconst (v := nI 1) hx hb dJ6_numberOfTrailingZeros_0f7a4_76 (by decide) ?_
            refine lv_iushr (v := (((((x ^^^ (-1)) &&& (x - (nI 1))).toUInt32 >>> ((nI 4).toUInt32 &&& Int32.toUInt32 31)).toInt32).toUInt32 >>> ((nI 1).toUInt32 &&& Int32.toUInt32 31)).toInt32) hx hb dJ6_numberOfTrailingZeros_0f7a4_77 rfl ?_
            refine lv_iadd hx hb dJ6_numberOfTrailingZeros_0f7a4_78 ?_
            exact hret ((nI 5) + ((((((x ^^^ (-1)) &&& (x - (nI 1))).toUInt32 >>> ((nI 4).toUInt32 &&& Int32.toUInt32 31)).toInt32).toUInt32 >>> ((nI 1).toUInt32 &&& Int32.toUInt32 31)).toInt32)) 79 ls (by simp only [ntzI, nzS, c_1, c_2, c_3, c_4, c_6, if_true, if_false, Nat.reduceAdd]) (rfl) dJ6_numberOfTrailingZeros_0f7a4_79
          · refine lv_iinc (v := nI 7) (lv' := [(1, .int (nI 7)), (0, .int ((((x ^^^ (-1)) &&& (x - (nI 1))).toUInt32 >>> ((nI 4).toUInt32 &&& Int32.toUInt32 31)).toInt32))]) hx hb dJ6_numberOfTrailingZeros_0f7a4_67 hl (k := 1) rfl (by decide) (by decide) rfl (fun ls hl => ?_)
            refine lv_iload_n hx hb dJ6_numberOfTrailingZeros_0f7a4_70 rfl (lv_at hl 1 rfl) ?_
            refine lv_iconst (v := nI 2) hx hb dJ6_numberOfTrailingZeros_0f7a4_71 (by decide) ?_
            refine lv_iushr (v := (((((x ^^^ (-1)) &&& (x - (nI 1))).toUInt32 >>> ((nI 4).toUInt32 &&& Int32.toUInt32 31)).toInt32).toUInt32 >>> ((nI 2).toUInt32 &&& Int32.toUInt32 31)).toInt32) hx hb dJ6_numberOfTrailingZeros_0f7a4_72 rfl ?_
            refine lv_istore_n (lv' := [(0, .int ((((((x ^^^ (-1)) &&& (x - (nI 1))).toUInt32 >>> ((nI 4).toUInt32 &&& Int32.toUInt32 31)).toInt32).toUInt32 >>> ((nI 2).toUInt32 &&& Int32.toUInt32 31)).toInt32)), (1, .int (nI 7))]) hx hb dJ6_numberOfTrailingZeros_0f7a4_73 rfl hl (by decide) rfl (fun ls hl => ?_)
            refine lv_iload_n hx hb dJ6_numberOfTrailingZeros_0f7a4_74 rfl (lv_at hl 1 rfl) ?_
            refine lv_iload_n hx hb dJ6_numberOfTrailingZeros_0f7a4_75 rfl (lv_at hl 0 rfl) ?_
            refine lv_iconst (v := nI 1) hx hb dJ6_numberOfTrailingZeros_0f7a4_76 (by decide) ?_
            refine lv_iushr (v := (((((((x ^^^ (-1)) &&& (x - (nI 1))).toUInt32 >>> ((nI 4).toUInt32 &&& Int32.toUInt32 31)).toInt32).toUInt32 >>> ((nI 2).toUInt32 &&& Int32.toUInt32 31)).toInt32).toUInt32 >>> ((nI 1).toUInt32 &&& Int32.toUInt32 31)).toInt32) hx hb dJ6_numberOfTrailingZeros_0f7a4_77 rfl ?_
            refine lv_iadd hx hb dJ6_numberOfTrailingZeros_0f7a4_78 ?_
            exact hret ((nI 7) + ((((((((x ^^^ (-1)) &&& (x - (nI 1))).toUInt32 >>> ((nI 4).toUInt32 &&& Int32.toUInt32 31)).toInt32).toUInt32 >>> ((nI 2).toUInt32 &&& Int32.toUInt32 31)).toInt32).toUInt32 >>> ((nI 1).toUInt32 &&& Int32.toUInt32 31)).toInt32)) 79 ls (by simp only [ntzI, nzS, c_1, c_2, c_3, c_4, c_6, if_true, if_false, Nat.reduceAdd]) (rfl) dJ6_numberOfTrailingZeros_0f7a4_79
      · refine lv_iinc (v := nI 9) (lv' := [(1, .int (nI 9)), (0, .int ((x ^^^ (-1)) &&& (x - (nI 1))))]) hx hb dJ6_numberOfTrailingZeros_0f7a4_41 hl (k := 0) rfl (by decide) (by decide) rfl (fun ls hl => ?_)
        refine lv_iload_n hx hb dJ6_numberOfTrailingZeros_0f7a4_44 rfl (lv_at hl 1 rfl) ?_
        refine lv_bipush (v := nI 8) hx hb dJ6_numberOfTrailingZeros_0f7a4_45 (by decide) ?_
        refine lv_iushr (v := (((x ^^^ (-1)) &&& (x - (nI 1))).toUInt32 >>> ((nI 8).toUInt32 &&& Int32.toUInt32 31)).toInt32) hx hb dJ6_numberOfTrailingZeros_0f7a4_47 rfl ?_
        refine lv_istore_n (lv' := [(0, .int ((((x ^^^ (-1)) &&& (x - (nI 1))).toUInt32 >>> ((nI 8).toUInt32 &&& Int32.toUInt32 31)).toInt32)), (1, .int (nI 9))]) hx hb dJ6_numberOfTrailingZeros_0f7a4_48 rfl hl (by decide) rfl (fun ls hl => ?_)
        refine lv_iload_n hx hb dJ6_numberOfTrailingZeros_0f7a4_49 rfl (lv_at hl 0 rfl) ?_
        refine lv_bipush (v := nI 16) hx hb dJ6_numberOfTrailingZeros_0f7a4_50 (by decide) ?_
        refine lv_icmp_le (tgt := 62) hx hb dJ6_numberOfTrailingZeros_0f7a4_52 (by decide) (fun c_7 => ?_) (fun c_7 => ?_)
        · refine lv_iload_n hx hb dJ6_numberOfTrailingZeros_0f7a4_62 rfl (lv_at hl 0 rfl) ?_
          refine lv_iconst (v := nI 4) hx hb dJ6_numberOfTrailingZeros_0f7a4_63 (by decide) ?_
          refine lv_icmp_le (tgt := 74) hx hb dJ6_numberOfTrailingZeros_0f7a4_64 (by decide) (fun c_8 => ?_) (fun c_8 => ?_)
          · refine lv_iload_n hx hb dJ6_numberOfTrailingZeros_0f7a4_74 rfl (lv_at hl 1 rfl) ?_
            refine lv_iload_n hx hb dJ6_numberOfTrailingZeros_0f7a4_75 rfl (lv_at hl 0 rfl) ?_
            refine lv_iconst (v := nI 1) hx hb dJ6_numberOfTrailingZeros_0f7a4_76 (by decide) ?_
            refine lv_iushr (v := (((((x ^^^ (-1)) &&& (x - (nI 1))).toUInt32 >>> ((nI 8).toUInt32 &&& Int32.toUInt32 31)).toInt32).toUInt32 >>> ((nI 1).toUInt32 &&& Int32.toUInt32 31)).toInt32) hx hb dJ6_numberOfTrailingZeros_0f7a4_77 rfl ?_
            refine lv_iadd hx hb dJ6_numberOfTrailingZeros_0f7a4_78 ?_
            exact hret ((nI 9) + ((((((x ^^^ (-1)) &&& (x - (nI 1))).toUInt32 >>> ((nI 8).toUInt32 &&& Int32.toUInt32 31)).toInt32).toUInt32 >>> ((nI 1).toUInt32 &&& Int32.toUInt32 31)).toInt32)) 79 ls (by simp only [ntzI, nzS, c_1, c_2, c_3, c_7, c_8, if_true, if_false, Nat.reduceAdd]) (rfl) dJ6_numberOfTrailingZeros_0f7a4_79
          · refine lv_iinc (v := nI 11) (lv' := [(1, .int (nI 11)), (0, .int ((((x ^^^ (-1)) &&& (x - (nI 1))).toUInt32 >>> ((nI 8).toUInt32 &&& Int32.toUInt32 31)).toInt32))]) hx hb dJ6_numberOfTrailingZeros_0f7a4_67 hl (k := 1) rfl (by decide) (by decide) rfl (fun ls hl => ?_)
            refine lv_iload_n hx hb dJ6_numberOfTrailingZeros_0f7a4_70 rfl (lv_at hl 1 rfl) ?_
            refine lv_iconst (v := nI 2) hx hb dJ6_numberOfTrailingZeros_0f7a4_71 (by decide) ?_
            refine lv_iushr (v := (((((x ^^^ (-1)) &&& (x - (nI 1))).toUInt32 >>> ((nI 8).toUInt32 &&& Int32.toUInt32 31)).toInt32).toUInt32 >>> ((nI 2).toUInt32 &&& Int32.toUInt32 31)).toInt32) hx hb dJ6_numberOfTrailingZeros_0f7a4_72 rfl ?_
            refine lv_istore_n (lv' := [(0, .int ((((((x ^^^ (-1)) &&& (x - (nI 1))).toUInt32 >>> ((nI 8).toUInt32 &&& Int32.toUInt32 31)).toInt32).toUInt32 >>> ((nI 2).toUInt32 &&& Int32.toUInt32 31)).toInt32)), (1, .int (nI 11))]) hx hb dJ6_numberOfTrailingZeros_0f7a4_73 rfl hl (by decide) rfl (fun ls hl => ?_)
            refine lv_iload_n hx hb dJ6_numberOfTrailingZeros_0f7a4_74 rfl (lv_at hl 1 rfl) ?_
            refine lv_iload_n hx hb dJ6_numberOfTrailingZeros_0f7a4_75 rfl (lv_at hl 0 rfl) ?_
            refine lv_iconst (v := nI 1) hx hb dJ6_numberOfTrailingZeros_0f7a4_76 (by decide) ?_
            refine lv_iushr (v := (((((((x ^^^ (-1)) &&& (x - (nI 1))).toUInt32 >>> ((nI 8).toUInt32 &&& Int32.toUInt32 31)).toInt32).toUInt32 >>> ((nI 2).toUInt32 &&& Int32.toUInt32 31)).toInt32).toUInt32 >>> ((nI 1).toUInt32 &&& Int32.toUInt32 31)).toInt32) hx hb dJ6_numberOfTrailingZeros_0f7a4_77 rfl ?_
            refine lv_iadd hx hb dJ6_numberOfTrailingZeros_0f7a4_78 ?_
            exact hret ((nI 11) + ((((((((x ^^^ (-1)) &&& (x - (nI 1))).toUInt32 >>> ((nI 8).toUInt32 &&& Int32.toUInt32 31)).toInt32).toUInt32 >>> ((nI 2).toUInt32 &&& Int32.toUInt32 31)).toInt32).toUInt32 >>> ((nI 1).toUInt32 &&& Int32.toUInt32 31)).toInt32)) 79 ls (by simp only [ntzI, nzS, c_1, c_2, c_3, c_7, c_8, if_true, if_false, Nat.reduceAdd]) (rfl) dJ6_numberOfTrailingZeros_0f7a4_79
        · refine lv_iinc (v := nI 13) (lv' := [(1, .int (nI 13)), (0, .int ((((x ^^^ (-1)) &&& (x - (nI 1))).toUInt32 >>> ((nI 8).toUInt32 &&& Int32.toUInt32 31)).toInt32))]) hx hb dJ6_numberOfTrailingZeros_0f7a4_55 hl (k := 1) rfl (by decide) (by decide) rfl (fun ls hl => ?_)
          refine lv_iload_n hx hb dJ6_numberOfTrailingZeros_0f7a4_58 rfl (lv_at hl 1 rfl) ?_
          refine lv_iconst (v := nI 4) hx hb dJ6_numberOfTrailingZeros_0f7a4_59 (by decide) ?_
          refine lv_iushr (v := (((((x ^^^ (-1)) &&& (x - (nI 1))).toUInt32 >>> ((nI 8).toUInt32 &&& Int32.toUInt32 31)).toInt32).toUInt32 >>> ((nI 4).toUInt32 &&& Int32.toUInt32 31)).toInt32) hx hb dJ6_numberOfTrailingZeros_0f7a4_60 rfl ?_
          refine lv_istore_n (lv' := [(0, .int ((((((x ^^^ (-1)) &&& (x - (nI 1))).toUInt32 >>> ((nI 8).toUInt32 &&& Int32.toUInt32 31)).toInt32).toUInt32 >>> ((nI 4).toUInt32 &&& Int32.toUInt32 31)).toInt32)), (1, .int (nI 13))]) hx hb dJ6_numberOfTrailingZeros_0f7a4_61 rfl hl (by decide) rfl (fun ls hl => ?_)
          refine lv_iload_n hx hb dJ6_numberOfTrailingZeros_0f7a4_62 rfl (lv_at hl 0 rfl) ?_
          refine lv_iconst (v := nI 4) hx hb dJ6_numberOfTrailingZeros_0f7a4_63 (by decide) ?_
          refine lv_icmp_le (tgt := 74) hx hb dJ6_numberOfTrailingZeros_0f7a4_64 (by decide) (fun c_9 => ?_) (fun c_9 => ?_)
          · refine lv_iload_n hx hb dJ6_numberOfTrailingZeros_0f7a4_74 rfl (lv_at hl 1 rfl) ?_
            refine lv_iload_n hx hb dJ6_numberOfTrailingZeros_0f7a4_75 rfl (lv_at hl 0 rfl) ?_
            refine lv_iconst (v := nI 1) hx hb dJ6_numberOfTrailingZeros_0f7a4_76 (by decide) ?_
            refine lv_iushr (v := (((((((x ^^^ (-1)) &&& (x - (nI 1))).toUInt32 >>> ((nI 8).toUInt32 &&& Int32.toUInt32 31)).toInt32).toUInt32 >>> ((nI 4).toUInt32 &&& Int32.toUInt32 31)).toInt32).toUInt32 >>> ((nI 1).toUInt32 &&& Int32.toUInt32 31)).toInt32) hx hb dJ6_numberOfTrailingZeros_0f7a4_77 rfl ?_
            refine lv_iadd hx hb dJ6_numberOfTrailingZeros_0f7a4_78 ?_
            exact hret ((nI 13) + ((((((((x ^^^ (-1)) &&& (x - (nI 1))).toUInt32 >>> ((nI 8).toUInt32 &&& Int32.toUInt32 31)).toInt32).toUInt32 >>> ((nI 4).toUInt32 &&& Int32.toUInt32 31)).toInt32).toUInt32 >>> ((nI 1).toUInt32 &&& Int32.toUInt32 31)).toInt32)) 79 ls (by simp only [ntzI, nzS, c_1, c_2, c_3, c_7, c_9, if_true, if_false, Nat.reduceAdd]) (rfl) dJ6_numberOfTrailingZeros_0f7a4_79
          · refine lv_iinc (v := nI 15) (lv' := [(1, .int (nI 15)), (0, .int ((((((x ^^^ (-1)) &&& (x - (nI 1))).toUInt32 >>> ((nI 8).toUInt32 &&& Int32.toUInt32 31)).toInt32).toUInt32 >>> ((nI 4).toUInt32 &&& Int32.toUInt32 31)).toInt32))]) hx hb dJ6_numberOfTrailingZeros_0f7a4_67 hl (k := 1) rfl (by decide) (by decide) rfl (fun ls hl => ?_)
            refine lv_iload_n hx hb dJ6_numberOfTrailingZeros_0f7a4_70 rfl (lv_at hl 1 rfl) ?_
            refine lv_iconst (v := nI 2) hx hb dJ6_numberOfTrailingZeros_0f7a4_71 (by decide) ?_
            refine lv_iushr (v := (((((((x ^^^ (-1)) &&& (x - (nI 1))).toUInt32 >>> ((nI 8).toUInt32 &&& Int32.toUInt32 31)).toInt32).toUInt32 >>> ((nI 4).toUInt32 &&& Int32.toUInt32 31)).toInt32).toUInt32 >>> ((nI 2).toUInt32 &&& Int32.toUInt32 31)).toInt32) hx hb dJ6_numberOfTrailingZeros_0f7a4_72 rfl ?_
            refine lv_istore_n (lv' := [(0, .int ((((((((x ^^^ (-1)) &&& (x - (nI 1))).toUInt32 >>> ((nI 8).toUInt32 &&& Int32.toUInt32 31)).toInt32).toUInt32 >>> ((nI 4).toUInt32 &&& Int32.toUInt32 31)).toInt32).toUInt32 >>> ((nI 2).toUInt32 &&& Int32.toUInt32 31)).toInt32)), (1, .int (nI 15))]) hx hb dJ6_numberOfTrailingZeros_0f7a4_73 rfl hl (by decide) rfl (fun ls hl => ?_)
            refine lv_iload_n hx hb dJ6_numberOfTrailingZeros_0f7a4_74 rfl (lv_at hl 1 rfl) ?_
            refine lv_iload_n hx hb dJ6_numberOfTrailingZeros_0f7a4_75 rfl (lv_at hl 0 rfl) ?_
            refine lv_iconst (v := nI 1) hx hb dJ6_numberOfTrailingZeros_0f7a4_76 (by decide) ?_
            refine lv_iushr (v := (((((((((x ^^^ (-1)) &&& (x - (nI 1))).toUInt32 >>> ((nI 8).toUInt32 &&& Int32.toUInt32 31)).toInt32).toUInt32 >>> ((nI 4).toUInt32 &&& Int32.toUInt32 31)).toInt32).toUInt32 >>> ((nI 2).toUInt32 &&& Int32.toUInt32 31)).toInt32).toUInt32 >>> ((nI 1).toUInt32 &&& Int32.toUInt32 31)).toInt32) hx hb dJ6_numberOfTrailingZeros_0f7a4_77 rfl ?_
            refine lv_iadd hx hb dJ6_numberOfTrailingZeros_0f7a4_78 ?_
            exact hret ((nI 15) + ((((((((((x ^^^ (-1)) &&& (x - (nI 1))).toUInt32 >>> ((nI 8).toUInt32 &&& Int32.toUInt32 31)).toInt32).toUInt32 >>> ((nI 4).toUInt32 &&& Int32.toUInt32 31)).toInt32).toUInt32 >>> ((nI 2).toUInt32 &&& Int32.toUInt32 31)).toInt32).toUInt32 >>> ((nI 1).toUInt32 &&& Int32.toUInt32 31)).toInt32)) 79 ls (by simp only [ntzI, nzS, c_1, c_2, c_3, c_7, c_9, if_true, if_false, Nat.reduceAdd]) (rfl) dJ6_numberOfTrailingZeros_0f7a4_79
    · refine lv_iinc (v := nI 17) (lv' := [(1, .int (nI 17)), (0, .int ((x ^^^ (-1)) &&& (x - (nI 1))))]) hx hb dJ6_numberOfTrailingZeros_0f7a4_26 hl (k := 0) rfl (by decide) (by decide) rfl (fun ls hl => ?_)
      refine lv_iload_n hx hb dJ6_numberOfTrailingZeros_0f7a4_29 rfl (lv_at hl 1 rfl) ?_
      refine lv_bipush (v := nI 16) hx hb dJ6_numberOfTrailingZeros_0f7a4_30 (by decide) ?_
      refine lv_iushr (v := (((x ^^^ (-1)) &&& (x - (nI 1))).toUInt32 >>> ((nI 16).toUInt32 &&& Int32.toUInt32 31)).toInt32) hx hb dJ6_numberOfTrailingZeros_0f7a4_32 rfl ?_
      refine lv_istore_n (lv' := [(0, .int ((((x ^^^ (-1)) &&& (x - (nI 1))).toUInt32 >>> ((nI 16).toUInt32 &&& Int32.toUInt32 31)).toInt32)), (1, .int (nI 17))]) hx hb dJ6_numberOfTrailingZeros_0f7a4_33 rfl hl (by decide) rfl (fun ls hl => ?_)
      refine lv_iload_n hx hb dJ6_numberOfTrailingZeros_0f7a4_34 rfl (lv_at hl 0 rfl) ?_
      refine lv_sipush (v := nI 256) hx hb dJ6_numberOfTrailingZeros_0f7a4_35 (by decide) ?_
      refine lv_icmp_le (tgt := 49) hx hb dJ6_numberOfTrailingZeros_0f7a4_38 (by decide) (fun c_10 => ?_) (fun c_10 => ?_)
      · refine lv_iload_n hx hb dJ6_numberOfTrailingZeros_0f7a4_49 rfl (lv_at hl 0 rfl) ?_
        refine lv_bipush (v := nI 16) hx hb dJ6_numberOfTrailingZeros_0f7a4_50 (by decide) ?_
        refine lv_icmp_le (tgt := 62) hx hb dJ6_numberOfTrailingZeros_0f7a4_52 (by decide) (fun c_11 => ?_) (fun c_11 => ?_)
        · refine lv_iload_n hx hb dJ6_numberOfTrailingZeros_0f7a4_62 rfl (lv_at hl 0 rfl) ?_
          refine lv_iconst (v := nI 4) hx hb dJ6_numberOfTrailingZeros_0f7a4_63 (by decide) ?_
          refine lv_icmp_le (tgt := 74) hx hb dJ6_numberOfTrailingZeros_0f7a4_64 (by decide) (fun c_12 => ?_) (fun c_12 => ?_)
          · refine lv_iload_n hx hb dJ6_numberOfTrailingZeros_0f7a4_74 rfl (lv_at hl 1 rfl) ?_
            refine lv_iload_n hx hb dJ6_numberOfTrailingZeros_0f7a4_75 rfl (lv_at hl 0 rfl) ?_
            refine lv_iconst (v := nI 1) hx hb dJ6_numberOfTrailingZeros_0f7a4_76 (by decide) ?_
            refine lv_iushr (v := (((((x ^^^ (-1)) &&& (x - (nI 1))).toUInt32 >>> ((nI 16).toUInt32 &&& Int32.toUInt32 31)).toInt32).toUInt32 >>> ((nI 1).toUInt32 &&& Int32.toUInt32 31)).toInt32) hx hb dJ6_numberOfTrailingZeros_0f7a4_77 rfl ?_
            refine lv_iadd hx hb dJ6_numberOfTrailingZeros_0f7a4_78 ?_
            exact hret ((nI 17) + ((((((x ^^^ (-1)) &&& (x - (nI 1))).toUInt32 >>> ((nI 16).toUInt32 &&& Int32.toUInt32 31)).toInt32).toUInt32 >>> ((nI 1).toUInt32 &&& Int32.toUInt32 31)).toInt32)) 79 ls (by simp only [ntzI, nzS, c_1, c_2, c_10, c_11, c_12, if_true, if_false, Nat.reduceAdd]) (rfl) dJ6_numberOfTrailingZeros_0f7a4_79
          · refine lv_iinc (v := nI 19) (lv' := [(1, .int (nI 19)), (0, .int ((((x ^^^ (-1)) &&& (x - (nI 1))).toUInt32 >>> ((nI 16).toUInt32 &&& Int32.toUInt32 31)).toInt32))]) hx hb dJ6_numberOfTrailingZeros_0f7a4_67 hl (k := 1) rfl (by decide) (by decide) rfl (fun ls hl => ?_)
            refine lv_iload_n hx hb dJ6_numberOfTrailingZeros_0f7a4_70 rfl (lv_at hl 1 rfl) ?_
            refine lv_iconst (v := nI 2) hx hb dJ6_numberOfTrailingZeros_0f7a4_71 (by decide) ?_
            refine lv_iushr (v := (((((x ^^^ (-1)) &&& (x - (nI 1))).toUInt32 >>> ((nI 16).toUInt32 &&& Int32.toUInt32 31)).toInt32).toUInt32 >>> ((nI 2).toUInt32 &&& Int32.toUInt32 31)).toInt32) hx hb dJ6_numberOfTrailingZeros_0f7a4_72 rfl ?_
            refine lv_istore_n (lv' := [(0, .int ((((((x ^^^ (-1)) &&& (x - (nI 1))).toUInt32 >>> ((nI 16).toUInt32 &&& Int32.toUInt32 31)).toInt32).toUInt32 >>> ((nI 2).toUInt32 &&& Int32.toUInt32 31)).toInt32)), (1, .int (nI 19))]) hx hb dJ6_numberOfTrailingZeros_0f7a4_73 rfl hl (by decide) rfl (fun ls hl => ?_)
            refine lv_iload_n hx hb dJ6_numberOfTrailingZeros_0f7a4_74 rfl (lv_at hl 1 rfl) ?_
            refine lv_iload_n hx hb dJ6_numberOfTrailingZeros_0f7a4_75 rfl (lv_at hl 0 rfl) ?_
            refine lv_iconst (v := nI 1) hx hb dJ6_numberOfTrailingZeros_0f7a4_76 (by decide) ?_
            refine lv_iushr (v := (((((((x ^^^ (-1)) &&& (x - (nI 1))).toUInt32 >>> ((nI 16).toUInt32 &&& Int32.toUInt32 31)).toInt32).toUInt32 >>> ((nI 2).toUInt32 &&& Int32.toUInt32 31)).toInt32).toUInt32 >>> ((nI 1).toUInt32 &&& Int32.toUInt32 31)).toInt32) hx hb dJ6_numberOfTrailingZeros_0f7a4_77 rfl ?_
            refine lv_iadd hx hb dJ6_numberOfTrailingZeros_0f7a4_78 ?_
            exact hret ((nI 19) + ((((((((x ^^^ (-1)) &&& (x - (nI 1))).toUInt32 >>> ((nI 16).toUInt32 &&& Int32.toUInt32 31)).toInt32).toUInt32 >>> ((nI 2).toUInt32 &&& Int32.toUInt32 31)).toInt32).toUInt32 >>> ((nI 1).toUInt32 &&& Int32.toUInt32 31)).toInt32)) 79 ls (by simp only [ntzI, nzS, c_1, c_2, c_10, c_11, c_12, if_true, if_false, Nat.reduceAdd]) (rfl) dJ6_numberOfTrailingZeros_0f7a4_79
        · refine lv_iinc (v := nI 21) (lv' := [(1, .int (nI 21)), (0, .int ((((x ^^^ (-1)) &&& (x - (nI 1))).toUInt32 >>> ((nI 16).toUInt32 &&& Int32.toUInt32 31)).toInt32))]) hx hb dJ6_numberOfTrailingZeros_0f7a4_55 hl (k := 1) rfl (by decide) (by decide) rfl (fun ls hl => ?_)
          refine lv_iload_n hx hb dJ6_numberOfTrailingZeros_0f7a4_58 rfl (lv_at hl 1 rfl) ?_
          refine lv_iconst (v := nI 4) hx hb dJ6_numberOfTrailingZeros_0f7a4_59 (by decide) ?_
          refine lv_iushr (v := (((((x ^^^ (-1)) &&& (x - (nI 1))).toUInt32 >>> ((nI 16).toUInt32 &&& Int32.toUInt32 31)).toInt32).toUInt32 >>> ((nI 4).toUInt32 &&& Int32.toUInt32 31)).toInt32) hx hb dJ6_numberOfTrailingZeros_0f7a4_60 rfl ?_
          refine lv_istore_n (lv' := [(0, .int ((((((x ^^^ (-1)) &&& (x - (nI 1))).toUInt32 >>> ((nI 16).toUInt32 &&& Int32.toUInt32 31)).toInt32).toUInt32 >>> ((nI 4).toUInt32 &&& Int32.toUInt32 31)).toInt32)), (1, .int (nI 21))]) hx hb dJ6_numberOfTrailingZeros_0f7a4_61 rfl hl (by decide) rfl (fun ls hl => ?_)
          refine lv_iload_n hx hb dJ6_numberOfTrailingZeros_0f7a4_62 rfl (lv_at hl 0 rfl) ?_
          refine lv_iconst (v := nI 4) hx hb dJ6_numberOfTrailingZeros_0f7a4_63 (by decide) ?_
          refine lv_icmp_le (tgt := 74) hx hb dJ6_numberOfTrailingZeros_0f7a4_64 (by decide) (fun c_13 => ?_) (fun c_13 => ?_)
          · refine lv_iload_n hx hb dJ6_numberOfTrailingZeros_0f7a4_74 rfl (lv_at hl 1 rfl) ?_
            refine lv_iload_n hx hb dJ6_numberOfTrailingZeros_0f7a4_75 rfl (lv_at hl 0 rfl) ?_
            refine lv_iconst (v := nI 1) hx hb dJ6_numberOfTrailingZeros_0f7a4_76 (by decide) ?_
            refine lv_iushr (v := (((((((x ^^^ (-1)) &&& (x - (nI 1))).toUInt32 >>> ((nI 16).toUInt32 &&& Int32.toUInt32 31)).toInt32).toUInt32 >>> ((nI 4).toUInt32 &&& Int32.toUInt32 31)).toInt32).toUInt32 >>> ((nI 1).toUInt32 &&& Int32.toUInt32 31)).toInt32) hx hb dJ6_numberOfTrailingZeros_0f7a4_77 rfl ?_
            refine lv_iadd hx hb dJ6_numberOfTrailingZeros_0f7a4_78 ?_
            exact hret ((nI 21) + ((((((((x ^^^ (-1)) &&& (x - (nI 1))).toUInt32 >>> ((nI 16).toUInt32 &&& Int32.toUInt32 31)).toInt32).toUInt32 >>> ((nI 4).toUInt32 &&& Int32.toUInt32 31)).toInt32).toUInt32 >>> ((nI 1).toUInt32 &&& Int32.toUInt32 31)).toInt32)) 79 ls (by simp only [ntzI, nzS, c_1, c_2, c_10, c_11, c_13, if_true, if_false, Nat.reduceAdd]) (rfl) dJ6_numberOfTrailingZeros_0f7a4_79
          · refine lv_iinc (v := nI 23) (lv' := [(1, .int (nI 23)), (0, .int ((((((x ^^^ (-1)) &&& (x - (nI 1))).toUInt32 >>> ((nI 16).toUInt32 &&& Int32.toUInt32 31)).toInt32).toUInt32 >>> ((nI 4).toUInt32 &&& Int32.toUInt32 31)).toInt32))]) hx hb dJ6_numberOfTrailingZeros_0f7a4_67 hl (k := 1) rfl (by decide) (by decide) rfl (fun ls hl => ?_)
            refine lv_iload_n hx hb dJ6_numberOfTrailingZeros_0f7a4_70 rfl (lv_at hl 1 rfl) ?_
            refine lv_iconst (v := nI 2) hx hb dJ6_numberOfTrailingZeros_0f7a4_71 (by decide) ?_
            refine lv_iushr (v := (((((((x ^^^ (-1)) &&& (x - (nI 1))).toUInt32 >>> ((nI 16).toUInt32 &&& Int32.toUInt32 31)).toInt32).toUInt32 >>> ((nI 4).toUInt32 &&& Int32.toUInt32 31)).toInt32).toUInt32 >>> ((nI 2).toUInt32 &&& Int32.toUInt32 31)).toInt32) hx hb dJ6_numberOfTrailingZeros_0f7a4_72 rfl ?_
            refine lv_istore_n (lv' := [(0, .int ((((((((x ^^^ (-1)) &&& (x - (nI 1))).toUInt32 >>> ((nI 16).toUInt32 &&& Int32.toUInt32 31)).toInt32).toUInt32 >>> ((nI 4).toUInt32 &&& Int32.toUInt32 31)).toInt32).toUInt32 >>> ((nI 2).toUInt32 &&& Int32.toUInt32 31)).toInt32)), (1, .int (nI 23))]) hx hb dJ6_numberOfTrailingZeros_0f7a4_73 rfl hl (by decide) rfl (fun ls hl => ?_)
            refine lv_iload_n hx hb dJ6_numberOfTrailingZeros_0f7a4_74 rfl (lv_at hl 1 rfl) ?_
            refine lv_iload_n hx hb dJ6_numberOfTrailingZeros_0f7a4_75 rfl (lv_at hl 0 rfl) ?_
            refine lv_iconst (v := nI 1) hx hb dJ6_numberOfTrailingZeros_0f7a4_76 (by decide) ?_
            refine lv_iushr (v := (((((((((x ^^^ (-1)) &&& (x - (nI 1))).toUInt32 >>> ((nI 16).toUInt32 &&& Int32.toUInt32 31)).toInt32).toUInt32 >>> ((nI 4).toUInt32 &&& Int32.toUInt32 31)).toInt32).toUInt32 >>> ((nI 2).toUInt32 &&& Int32.toUInt32 31)).toInt32).toUInt32 >>> ((nI 1).toUInt32 &&& Int32.toUInt32 31)).toInt32) hx hb dJ6_numberOfTrailingZeros_0f7a4_77 rfl ?_
            refine lv_iadd hx hb dJ6_numberOfTrailingZeros_0f7a4_78 ?_
            exact hret ((nI 23) + ((((((((((x ^^^ (-1)) &&& (x - (nI 1))).toUInt32 >>> ((nI 16).toUInt32 &&& Int32.toUInt32 31)).toInt32).toUInt32 >>> ((nI 4).toUInt32 &&& Int32.toUInt32 31)).toInt32).toUInt32 >>> ((nI 2).toUInt32 &&& Int32.toUInt32 31)).toInt32).toUInt32 >>> ((nI 1).toUInt32 &&& Int32.toUInt32 31)).toInt32)) 79 ls (by simp only [ntzI, nzS, c_1, c_2, c_10, c_11, c_13, if_true, if_false, Nat.reduceAdd]) (rfl) dJ6_numberOfTrailingZeros_0f7a4_79
      · refine lv_iinc (v := nI 25) (lv' := [(1, .int (nI 25)), (0, .int ((((x ^^^ (-1)) &&& (x - (nI 1))).toUInt32 >>> ((nI 16).toUInt32 &&& Int32.toUInt32 31)).toInt32))]) hx hb dJ6_numberOfTrailingZeros_0f7a4_41 hl (k := 1) rfl (by decide) (by decide) rfl (fun ls hl => ?_)
        refine lv_iload_n hx hb dJ6_numberOfTrailingZeros_0f7a4_44 rfl (lv_at hl 1 rfl) ?_
        refine lv_bipush (v := nI 8) hx hb dJ6_numberOfTrailingZeros_0f7a4_45 (by decide) ?_
        refine lv_iushr (v := (((((x ^^^ (-1)) &&& (x - (nI 1))).toUInt32 >>> ((nI 16).toUInt32 &&& Int32.toUInt32 31)).toInt32).toUInt32 >>> ((nI 8).toUInt32 &&& Int32.toUInt32 31)).toInt32) hx hb dJ6_numberOfTrailingZeros_0f7a4_47 rfl ?_
        refine lv_istore_n (lv' := [(0, .int ((((((x ^^^ (-1)) &&& (x - (nI 1))).toUInt32 >>> ((nI 16).toUInt32 &&& Int32.toUInt32 31)).toInt32).toUInt32 >>> ((nI 8).toUInt32 &&& Int32.toUInt32 31)).toInt32)), (1, .int (nI 25))]) hx hb dJ6_numberOfTrailingZeros_0f7a4_48 rfl hl (by decide) rfl (fun ls hl => ?_)
        refine lv_iload_n hx hb dJ6_numberOfTrailingZeros_0f7a4_49 rfl (lv_at hl 0 rfl) ?_
        refine lv_bipush (v := nI 16) hx hb dJ6_numberOfTrailingZeros_0f7a4_50 (by decide) ?_
        refine lv_icmp_le (tgt := 62) hx hb dJ6_numberOfTrailingZeros_0f7a4_52 (by decide) (fun c_14 => ?_) (fun c_14 => ?_)
        · refine lv_iload_n hx hb dJ6_numberOfTrailingZeros_0f7a4_62 rfl (lv_at hl 0 rfl) ?_
          refine lv_iconst (v := nI 4) hx hb dJ6_numberOfTrailingZeros_0f7a4_63 (by decide) ?_
          refine lv_icmp_le (tgt := 74) hx hb dJ6_numberOfTrailingZeros_0f7a4_64 (by decide) (fun c_15 => ?_) (fun c_15 => ?_)
          · refine lv_iload_n hx hb dJ6_numberOfTrailingZeros_0f7a4_74 rfl (lv_at hl 1 rfl) ?_
            refine lv_iload_n hx hb dJ6_numberOfTrailingZeros_0f7a4_75 rfl (lv_at hl 0 rfl) ?_
            refine lv_iconst (v := nI 1) hx hb dJ6_numberOfTrailingZeros_0f7a4_76 (by decide) ?_
            refine lv_iushr (v := (((((((x ^^^ (-1)) &&& (x - (nI 1))).toUInt32 >>> ((nI 16).toUInt32 &&& Int32.toUInt32 31)).toInt32).toUInt32 >>> ((nI 8).toUInt32 &&& Int32.toUInt32 31)).toInt32).toUInt32 >>> ((nI 1).toUInt32 &&& Int32.toUInt32 31)).toInt32) hx hb dJ6_numberOfTrailingZeros_0f7a4_77 rfl ?_
            refine lv_iadd hx hb dJ6_numberOfTrailingZeros_0f7a4_78 ?_
            exact hret ((nI 25) + ((((((((x ^^^ (-1)) &&& (x - (nI 1))).toUInt32 >>> ((nI 16).toUInt32 &&& Int32.toUInt32 31)).toInt32).toUInt32 >>> ((nI 8).toUInt32 &&& Int32.toUInt32 31)).toInt32).toUInt32 >>> ((nI 1).toUInt32 &&& Int32.toUInt32 31)).toInt32)) 79 ls (by simp only [ntzI, nzS, c_1, c_2, c_10, c_14, c_15, if_true, if_false, Nat.reduceAdd]) (rfl) dJ6_numberOfTrailingZeros_0f7a4_79
          · refine lv_iinc (v := nI 27) (lv' := [(1, .int (nI 27)), (0, .int ((((((x ^^^ (-1)) &&& (x - (nI 1))).toUInt32 >>> ((nI 16).toUInt32 &&& Int32.toUInt32 31)).toInt32).toUInt32 >>> ((nI 8).toUInt32 &&& Int32.toUInt32 31)).toInt32))]) hx hb dJ6_numberOfTrailingZeros_0f7a4_67 hl (k := 1) rfl (by decide) (by decide) rfl (fun ls hl => ?_)
            refine lv_iload_n hx hb dJ6_numberOfTrailingZeros_0f7a4_70 rfl (lv_at hl 1 rfl) ?_
            refine lv_iconst (v := nI 2) hx hb dJ6_numberOfTrailingZeros_0f7a4_71 (by decide) ?_
            refine lv_iushr (v := (((((((x ^^^ (-1)) &&& (x - (nI 1))).toUInt32 >>> ((nI 16).toUInt32 &&& Int32.toUInt32 31)).toInt32).toUInt32 >>> ((nI 8).toUInt32 &&& Int32.toUInt32 31)).toInt32).toUInt32 >>> ((nI 2).toUInt32 &&& Int32.toUInt32 31)).toInt32) hx hb dJ6_numberOfTrailingZeros_0f7a4_72 rfl ?_
            refine lv_istore_n (lv' := [(0, .int ((((((((x ^^^ (-1)) &&& (x - (nI 1))).toUInt32 >>> ((nI 16).toUInt32 &&& Int32.toUInt32 31)).toInt32).toUInt32 >>> ((nI 8).toUInt32 &&& Int32.toUInt32 31)).toInt32).toUInt32 >>> ((nI 2).toUInt32 &&& Int32.toUInt32 31)).toInt32)), (1, .int (nI 27))]) hx hb dJ6_numberOfTrailingZeros_0f7a4_73 rfl hl (by decide) rfl (fun ls hl => ?_)
            refine lv_iload_n hx hb dJ6_numberOfTrailingZeros_0f7a4_74 rfl (lv_at hl 1 rfl) ?_
            refine lv_iload_n hx hb dJ6_numberOfTrailingZeros_0f7a4_75 rfl (lv_at hl 0 rfl) ?_
            refine lv_iconst (v := nI 1) hx hb dJ6_numberOfTrailingZeros_0f7a4_76 (by decide) ?_
            refine lv_iushr (v := (((((((((x ^^^ (-1)) &&& (x - (nI 1))).toUInt32 >>> ((nI 16).toUInt32 &&& Int32.toUInt32 31)).toInt32).toUInt32 >>> ((nI 8).toUInt32 &&& Int32.toUInt32 31)).toInt32).toUInt32 >>> ((nI 2).toUInt32 &&& Int32.toUInt32 31)).toInt32).toUInt32 >>> ((nI 1).toUInt32 &&& Int32.toUInt32 31)).toInt32) hx hb dJ6_numberOfTrailingZeros_0f7a4_77 rfl ?_
            refine lv_iadd hx hb dJ6_numberOfTrailingZeros_0f7a4_78 ?_
            exact hret ((nI 27) + ((((((((((x ^^^ (-1)) &&& (x - (nI 1))).toUInt32 >>> ((nI 16).toUInt32 &&& Int32.toUInt32 31)).toInt32).toUInt32 >>> ((nI 8).toUInt32 &&& Int32.toUInt32 31)).toInt32).toUInt32 >>> ((nI 2).toUInt32 &&& Int32.toUInt32 31)).toInt32).toUInt32 >>> ((nI 1).toUInt32 &&& Int32.toUInt32 31)).toInt32)) 79 ls (by simp only [ntzI, nzS, c_1, c_2, c_10, c_14, c_15, if_true, if_false, Nat.reduceAdd]) (rfl) dJ6_numberOfTrailingZeros_0f7a4_79
        · refine lv_iinc (v := nI 29) (lv' := [(1, .int (nI 29)), (0, .int ((((((x ^^^ (-1)) &&& (x - (nI 1))).toUInt32 >>> ((nI 16).toUInt32 &&& Int32.toUInt32 31)).toInt32).toUInt32 >>> ((nI 8).toUInt32 &&& Int32.toUInt32 31)).toInt32))]) hx hb dJ6_numberOfTrailingZeros_0f7a4_55 hl (k := 1) rfl (by decide) (by decide) rfl (fun ls hl => ?_)
          refine lv_iload_n hx hb dJ6_numberOfTrailingZeros_0f7a4_58 rfl (lv_at hl 1 rfl) ?_
          refine lv_iconst (v := nI 4) hx hb dJ6_numberOfTrailingZeros_0f7a4_59 (by decide) ?_
          refine lv_iushr (v := (((((((x ^^^ (-1)) &&& (x - (nI 1))).toUInt32 >>> ((nI 16).toUInt32 &&& Int32.toUInt32 31)).toInt32).toUInt32 >>> ((nI 8).toUInt32 &&& Int32.toUInt32 31)).toInt32).toUInt32 >>> ((nI 4).toUInt32 &&& Int32.toUInt32 31)).toInt32) hx hb dJ6_numberOfTrailingZeros_0f7a4_60 rfl ?_
          refine lv_istore_n (lv' := [(0, .int ((((((((x ^^^ (-1)) &&& (x - (nI 1))).toUInt32 >>> ((nI 16).toUInt32 &&& Int32.toUInt32 31)).toInt32).toUInt32 >>> ((nI 8).toUInt32 &&& Int32.toUInt32 31)).toInt32).toUInt32 >>> ((nI 4).toUInt32 &&& Int32.toUInt32 31)).toInt32)), (1, .int (nI 29))]) hx hb dJ6_numberOfTrailingZeros_0f7a4_61 rfl hl (by decide) rfl (fun ls hl => ?_)
          refine lv_iload_n hx hb dJ6_numberOfTrailingZeros_0f7a4_62 rfl (lv_at hl 0 rfl) ?_
          refine lv_iconst (v := nI 4) hx hb dJ6_numberOfTrailingZeros_0f7a4_63 (by decide) ?_
          refine lv_icmp_le (tgt := 74) hx hb dJ6_numberOfTrailingZeros_0f7a4_64 (by decide) (fun c_16 => ?_) (fun c_16 => ?_)
          · refine lv_iload_n hx hb dJ6_numberOfTrailingZeros_0f7a4_74 rfl (lv_at hl 1 rfl) ?_
            refine lv_iload_n hx hb dJ6_numberOfTrailingZeros_0f7a4_75 rfl (lv_at hl 0 rfl) ?_
            refine lv_iconst (v := nI 1) hx hb dJ6_numberOfTrailingZeros_0f7a4_76 (by decide) ?_
            refine lv_iushr (v := (((((((((x ^^^ (-1)) &&& (x - (nI 1))).toUInt32 >>> ((nI 16).toUInt32 &&& Int32.toUInt32 31)).toInt32).toUInt32 >>> ((nI 8).toUInt32 &&& Int32.toUInt32 31)).toInt32).toUInt32 >>> ((nI 4).toUInt32 &&& Int32.toUInt32 31)).toInt32).toUInt32 >>> ((nI 1).toUInt32 &&& Int32.toUInt32 31)).toInt32) hx hb dJ6_numberOfTrailingZeros_0f7a4_77 rfl ?_
            refine lv_iadd hx hb dJ6_numberOfTrailingZeros_0f7a4_78 ?_
            exact hret ((nI 29) + ((((((((((x ^^^ (-1)) &&& (x - (nI 1))).toUInt32 >>> ((nI 16).toUInt32 &&& Int32.toUInt32 31)).toInt32).toUInt32 >>> ((nI 8).toUInt32 &&& Int32.toUInt32 31)).toInt32).toUInt32 >>> ((nI 4).toUInt32 &&& Int32.toUInt32 31)).toInt32).toUInt32 >>> ((nI 1).toUInt32 &&& Int32.toUInt32 31)).toInt32)) 79 ls (by simp only [ntzI, nzS, c_1, c_2, c_10, c_14, c_16, if_true, if_false, Nat.reduceAdd]) (rfl) dJ6_numberOfTrailingZeros_0f7a4_79
          · refine lv_iinc (v := nI 31) (lv' := [(1, .int (nI 31)), (0, .int ((((((((x ^^^ (-1)) &&& (x - (nI 1))).toUInt32 >>> ((nI 16).toUInt32 &&& Int32.toUInt32 31)).toInt32).toUInt32 >>> ((nI 8).toUInt32 &&& Int32.toUInt32 31)).toInt32).toUInt32 >>> ((nI 4).toUInt32 &&& Int32.toUInt32 31)).toInt32))]) hx hb dJ6_numberOfTrailingZeros_0f7a4_67 hl (k := 1) rfl (by decide) (by decide) rfl (fun ls hl => ?_)
            refine lv_iload_n hx hb dJ6_numberOfTrailingZeros_0f7a4_70 rfl (lv_at hl 1 rfl) ?_
            refine lv_iconst (v := nI 2) hx hb dJ6_numberOfTrailingZeros_0f7a4_71 (by decide) ?_
            refine lv_iushr (v := (((((((((x ^^^ (-1)) &&& (x - (nI 1))).toUInt32 >>> ((nI 16).toUInt32 &&& Int32.toUInt32 31)).toInt32).toUInt32 >>> ((nI 8).toUInt32 &&& Int32.toUInt32 31)).toInt32).toUInt32 >>> ((nI 4).toUInt32 &&& Int32.toUInt32 31)).toInt32).toUInt32 >>> ((nI 2).toUInt32 &&& Int32.toUInt32 31)).toInt32) hx hb dJ6_numberOfTrailingZeros_0f7a4_72 rfl ?_
            refine lv_istore_n (lv' := [(0, .int ((((((((((x ^^^ (-1)) &&& (x - (nI 1))).toUInt32 >>> ((nI 16).toUInt32 &&& Int32.toUInt32 31)).toInt32).toUInt32 >>> ((nI 8).toUInt32 &&& Int32.toUInt32 31)).toInt32).toUInt32 >>> ((nI 4).toUInt32 &&& Int32.toUInt32 31)).toInt32).toUInt32 >>> ((nI 2).toUInt32 &&& Int32.toUInt32 31)).toInt32)), (1, .int (nI 31))]) hx hb dJ6_numberOfTrailingZeros_0f7a4_73 rfl hl (by decide) rfl (fun ls hl => ?_)
            refine lv_iload_n hx hb dJ6_numberOfTrailingZeros_0f7a4_74 rfl (lv_at hl 1 rfl) ?_
            refine lv_iload_n hx hb dJ6_numberOfTrailingZeros_0f7a4_75 rfl (lv_at hl 0 rfl) ?_
            refine lv_iconst (v := nI 1) hx hb dJ6_numberOfTrailingZeros_0f7a4_76 (by decide) ?_
            refine lv_iushr (v := (((((((((((x ^^^ (-1)) &&& (x - (nI 1))).toUInt32 >>> ((nI 16).toUInt32 &&& Int32.toUInt32 31)).toInt32).toUInt32 >>> ((nI 8).toUInt32 &&& Int32.toUInt32 31)).toInt32).toUInt32 >>> ((nI 4).toUInt32 &&& Int32.toUInt32 31)).toInt32).toUInt32 >>> ((nI 2).toUInt32 &&& Int32.toUInt32 31)).toInt32).toUInt32 >>> ((nI 1).toUInt32 &&& Int32.toUInt32 31)).toInt32) hx hb dJ6_numberOfTrailingZeros_0f7a4_77 rfl ?_
            refine lv_iadd hx hb dJ6_numberOfTrailingZeros_0f7a4_78 ?_
            exact hret ((nI 31) + ((((((((((((x ^^^ (-1)) &&& (x - (nI 1))).toUInt32 >>> ((nI 16).toUInt32 &&& Int32.toUInt32 31)).toInt32).toUInt32 >>> ((nI 8).toUInt32 &&& Int32.toUInt32 31)).toInt32).toUInt32 >>> ((nI 4).toUInt32 &&& Int32.toUInt32 31)).toInt32).toUInt32 >>> ((nI 2).toUInt32 &&& Int32.toUInt32 31)).toInt32).toUInt32 >>> ((nI 1).toUInt32 &&& Int32.toUInt32 31)).toInt32)) 79 ls (by simp only [ntzI, nzS, c_1, c_2, c_10, c_14, c_16, if_true, if_false, Nat.reduceAdd]) (rfl) dJ6_numberOfTrailingZeros_0f7a4_79
  · refine lv_iload_n hx hb dJ6_numberOfTrailingZeros_0f7a4_12 rfl (lv_at hl 0 rfl) ?_
    refine lv_bipush (v := nI 32) hx hb dJ6_numberOfTrailingZeros_0f7a4_13 (by decide) ?_
    refine lv_iand hx hb dJ6_numberOfTrailingZeros_0f7a4_15 ?_
    exact hret (((x ^^^ (-1)) &&& (x - (nI 1))) &&& (nI 32)) 16 ls (by simp only [ntzI, nzS, c_1, if_true, if_false, Nat.reduceAdd]) (rfl) dJ6_numberOfTrailingZeros_0f7a4_16
set_option maxHeartbeats 4000000 in
set_option maxRecDepth 100000 in
theorem c_X7_lowest (l : Launch) (g : GG) (x : Int32) : Met l yX7_lowest wsX7_lowest ({ frames := 1, cells := 0, slots := 0, locals := 21 } : Room) (ro g [.int x] []) (vp_Si (fun rr => rr = lwI x)) 0 0 (fun _ => False) := by
  refine ro_start (cc := cX7_lowest) (maxL := 1) (ty := .int) (by decide) rfl (Nat.le_of_ble_eq_true rfl) (fun p e s m args below meth c Q C hP hret ls hl => ?_)
  obtain ⟨hx, hb, hml, hr, hown, hts, hlk, hKK⟩ := id C
  have hK := hKK.1
  have hown : s.vm.findClass RX7 = some m.cls := hown
  have ctx : CallFix p m c cX7_lowest 1 s args wsX7_lowest RX7 := ⟨hx, hb, hml, hown, hts⟩
  have hl : lv_has ls 1 [(0, .int x)] := hl
  refine lv_iload_n hx hb dX7_lowest_0 rfl (lv_at hl 0 rfl) ?_
  refine lv_if_ne (tgt := 9) hx hb dX7_lowest_1 (by decide) (fun c_1 => ?_) (fun c_1 => ?_)
  · refine lv_iload_n hx hb dX7_lowest_9 rfl (lv_at hl 0 rfl) ?_
    refine ro_callS (As := [.int x]) (rest := []) ctx hKK hP (c_J6_numberOfTrailingZeros_0f7a4 l g x) gX7_lowest_J6_numberOfTrailingZeros_0f7a4 rfl rfl rfl hdJ6_numberOfTrailingZeros_0f7a4 ⟨Nat.le_of_ble_eq_true rfl, Nat.le_of_ble_eq_true rfl⟩ [] rfl hl.1 rfl rfl (Nat.le_of_ble_eq_true rfl) dX7_lowest_10 (fun r_2 hr_2 => ?_)
    subst hr_2
    exact hret (ntzI x) 13 ls (by simp [lwI, c_1]) (rfl) dX7_lowest_13
  · refine lv_bipush (v := (-4)) hx hb dX7_lowest_4 (by decide) ?_
    refine lv_goto (tgt := 13) hx hb dX7_lowest_6 (by decide) ?_
    exact hret (-4) 13 ls (by simp [lwI, c_1]) (rfl) dX7_lowest_13
set_option maxHeartbeats 4000000 in
set_option maxRecDepth 100000 in
theorem c_X7_isPart (l : Launch) (g : GG) (v : Int32) : Met l yX7_isPart wsX7_isPart ({ frames := 0, cells := 0, slots := 0, locals := 0 } : Room) (ro g [.int v] []) (vp_Si (fun rr => rr = bI (isPb v))) 0 0 (fun _ => False) := by
  refine ro_start (cc := cX7_isPart) (maxL := 1) (ty := .boolean) (by decide) rfl (Nat.le_of_ble_eq_true rfl) (fun p e s m args below meth c Q C hP hret ls hl => ?_)
  obtain ⟨hx, hb, hml, hr, hown, hts, hlk, hKK⟩ := id C
  have hK := hKK.1
  have hown : s.vm.findClass RX7 = some m.cls := hown
  have ctx : CallFix p m c cX7_isPart 1 s args wsX7_isPart RX7 := ⟨hx, hb, hml, hown, hts⟩
  have hl : lv_has ls 1 [(0, .int v)] := hl
  refine lv_iload_n hx hb dX7_isPart_0 rfl (lv_at hl 0 rfl) ?_
  refine lv_if_eq (tgt := 9) hx hb dX7_isPart_1 (by decide) (fun c_1 => ?_) (fun c_1 => ?_)
  · refine lv_iconst (v := nI 1) hx hb dX7_isPart_9 (by decide) ?_
    refine lv_goto (tgt := 14) hx hb dX7_isPart_10 (by decide) ?_
    exact hret (nI 1) 14 ls (by simp [isPb, bI, c_1]) (rfl) dX7_isPart_14
  · refine lv_iload_n hx hb dX7_isPart_4 rfl (lv_at hl 0 rfl) ?_
    refine lv_iconst (v := nI 1) hx hb dX7_isPart_5 (by decide) ?_
    refine lv_icmp_ne (tgt := 13) hx hb dX7_isPart_6 (by decide) (fun c_2 => ?_) (fun c_2 => ?_)
    · refine lv_iconst (v := nI 0) hx hb dX7_isPart_13 (by decide) ?_
      exact hret (nI 0) 14 ls (by simp [isPb, bI, c_1, c_2]) (rfl) dX7_isPart_14
    · refine lv_iconst (v := nI 1) hx hb dX7_isPart_9 (by decide) ?_
      refine lv_goto (tgt := 14) hx hb dX7_isPart_10 (by decide) ?_
      exact hret (nI 1) 14 ls (by simp [isPb, bI, c_1, c_2]) (rfl) dX7_isPart_14
set_option maxHeartbeats 4000000 in
set_option maxRecDepth 100000 in
theorem c_X7_quotient (l : Launch) (g : GG) (a : Int32) (d : Int32) : Met l yX7_quotient wsX7_quotient ({ frames := 0, cells := 0, slots := 0, locals := 0 } : Room) (ro g [.int a, .int d] []) (vp_Si (fun rr => rr = quI a d)) 0 0 (fun _ => False) := by
  refine ro_start (cc := cX7_quotient) (maxL := 2) (ty := .int) (by decide) rfl (Nat.le_of_ble_eq_true rfl) (fun p e s m args below meth c Q C hP hret ls hl => ?_)
  obtain ⟨hx, hb, hml, hr, hown, hts, hlk, hKK⟩ := id C
  have hK := hKK.1
  have hown : s.vm.findClass RX7 = some m.cls := hown
  have ctx : CallFix p m c cX7_quotient 2 s args wsX7_quotient RX7 := ⟨hx, hb, hml, hown, hts⟩
  have hl : lv_has ls 2 [(0, .int a), (1, .int d)] := hl
  refine lv_iload_n hx hb dX7_quotient_0 rfl (lv_at hl 1 rfl) ?_
  refine lv_if_le (tgt := 10) hx hb dX7_quotient_1 (by decide) (fun c_1 => ?_) (fun c_1 => ?_)
  · refine lv_iconst (v := nI 0) hx hb dX7_quotient_10 (by decide) ?_
    exact hret (nI 0) 11 ls (by simp [quI, c_1]) (rfl) dX7_quotient_11
  · refine lv_iload_n hx hb dX7_quotient_4 rfl (lv_at hl 0 rfl) ?_
    refine lv_iload_n hx hb dX7_quotient_5 rfl (lv_at hl 1 rfl) ?_
    refine lv_idiv hx hb dX7_quotient_6 (fun h => c_1 (by rw [h]; decide)) ?_
    refine lv_goto (tgt := 11) hx hb dX7_quotient_7 (by decide) ?_
    exact hret (a / d) 11 ls (by simp [quI, c_1]) (rfl) dX7_quotient_11
set_option maxHeartbeats 4000000 in
set_option maxRecDepth 100000 in
theorem c_X7_remainder (l : Launch) (g : GG) (a : Int32) (d : Int32) : Met l yX7_remainder wsX7_remainder ({ frames := 0, cells := 0, slots := 0, locals := 0 } : Room) (ro g [.int a, .int d] []) (vp_Si (fun rr => rr = reI a d)) 0 0 (fun _ => False) := by
  refine ro_start (cc := cX7_remainder) (maxL := 2) (ty := .int) (by decide) rfl (Nat.le_of_ble_eq_true rfl) (fun p e s m args below meth c Q C hP hret ls hl => ?_)
  obtain ⟨hx, hb, hml, hr, hown, hts, hlk, hKK⟩ := id C
  have hK := hKK.1
  have hown : s.vm.findClass RX7 = some m.cls := hown
  have ctx : CallFix p m c cX7_remainder 2 s args wsX7_remainder RX7 := ⟨hx, hb, hml, hown, hts⟩
  have hl : lv_has ls 2 [(0, .int a), (1, .int d)] := hl
  refine lv_iload_n hx hb dX7_remainder_0 rfl (lv_at hl 1 rfl) ?_
  refine lv_if_le (tgt := 10) hx hb dX7_remainder_1 (by decide) (fun c_1 => ?_) (fun c_1 => ?_)
  · refine lv_iconst (v := nI 0) hx hb dX7_remainder_10 (by decide) ?_
    exact hret (nI 0) 11 ls (by simp [reI, c_1]) (rfl) dX7_remainder_11
  · refine lv_iload_n hx hb dX7_remainder_4 rfl (lv_at hl 0 rfl) ?_
    refine lv_iload_n hx hb dX7_remainder_5 rfl (lv_at hl 1 rfl) ?_
    refine lv_irem hx hb dX7_remainder_6 (fun h => c_1 (by rw [h]; decide)) ?_
    refine lv_goto (tgt := 11) hx hb dX7_remainder_7 (by decide) ?_
    exact hret (a - a / d * d) 11 ls (by simp [reI, c_1]) (rfl) dX7_remainder_11
set_option maxHeartbeats 4000000 in
set_option maxRecDepth 100000 in
theorem c_X7_quotientN (l : Launch) (g : GG) (a : Nat) (d : Nat) (ha : a < 2 ^ 31) (hd : d < 2 ^ 31) : Met l yX7_quotient wsX7_quotient ({ frames := 0, cells := 0, slots := 0, locals := 0 } : Room) (ro g [.int (nI a), .int (nI d)] []) (vp_Si (fun rr => rr = nI (quN a d))) 0 0 (fun _ => False) := by
  refine ro_start (cc := cX7_quotient) (maxL := 2) (ty := .int) (by decide) rfl (Nat.le_of_ble_eq_true rfl) (fun p e s m args below meth c Q C hP hret ls hl => ?_)
  obtain ⟨hx, hb, hml, hr, hown, hts, hlk, hKK⟩ := id C
  have hK := hKK.1
  have hown : s.vm.findClass RX7 = some m.cls := hown
  have ctx : CallFix p m c cX7_quotient 2 s args wsX7_quotient RX7 := ⟨hx, hb, hml, hown, hts⟩
  have hl : lv_has ls 2 [(0, .int (nI a)), (1, .int (nI d))] := hl
  refine lv_iload_n hx hb dX7_quotient_0 rfl (lv_at hl 1 rfl) ?_
  refine lv_if_le (tgt := 10) hx hb dX7_quotient_1 (by decide) (fun c_1 => ?_) (fun c_1 => ?_)
  · replace c_1 : d ≤ 0 := (nI_leI (a := d) (b := 0) (by omega) (by omega)).mp c_1
    refine lv_iconst (v := nI 0) hx hb dX7_quotient_10 (by decide) ?_
    exact hret (nI 0) 11 ls (by simp [quN, c_1]) (rfl) dX7_quotient_11
  · replace c_1 : ¬ d ≤ 0 := fun h => c_1 ((nI_leI (a := d) (b := 0) (by omega) (by omega)).mpr h)
    refine lv_iload_n hx hb dX7_quotient_4 rfl (lv_at hl 0 rfl) ?_
    refine lv_iload_n hx hb dX7_quotient_5 rfl (lv_at hl 1 rfl) ?_
    refine lv_idiv hx hb dX7_quotient_6 (nI_ne0 (by omega) (by omega)) ?_
    refine lv_is (pk_div (a := a) (d := d) (by omega) (by omega) (by omega)) ?_
    refine lv_goto (tgt := 11) hx hb dX7_quotient_7 (by decide) ?_
    exact hret (nI (a / d)) 11 ls (by simp [quN, c_1]) (rfl) dX7_quotient_11
set_option maxHeartbeats 4000000 in
set_option maxRecDepth 100000 in
theorem c_X7_remainderN (l : Launch) (g : GG) (a : Nat) (d : Nat) (ha : a < 2 ^ 31) (hd : d < 2 ^ 31) : Met l yX7_remainder wsX7_remainder ({ frames := 0, cells := 0, slots := 0, locals := 0 } : Room) (ro g [.int (nI a), .int (nI d)] []) (vp_Si (fun rr => rr = nI (reN a d))) 0 0 (fun _ => False) := by
  refine ro_start (cc := cX7_remainder) (maxL := 2) (ty := .int) (by decide) rfl (Nat.le_of_ble_eq_true rfl) (fun p e s m args below meth c Q C hP hret ls hl => ?_)
  obtain ⟨hx, hb, hml, hr, hown, hts, hlk, hKK⟩ := id C
  have hK := hKK.1
  have hown : s.vm.findClass RX7 = some m.cls := hown
  have ctx : CallFix p m c cX7_remainder 2 s args wsX7_remainder RX7 := ⟨hx, hb, hml, hown, hts⟩
  have hl : lv_has ls 2 [(0, .int (nI a)), (1, .int (nI d))] := hl
  refine lv_iload_n hx hb dX7_remainder_0 rfl (lv_at hl 1 rfl) ?_
  refine lv_if_le (tgt := 10) hx hb dX7_remainder_1 (by decide) (fun c_1 => ?_) (fun c_1 => ?_)
  · replace c_1 : d ≤ 0 := (nI_leI (a := d) (b := 0) (by omega) (by omega)).mp c_1
    refine lv_iconst (v := nI 0) hx hb dX7_remainder_10 (by decide) ?_
    exact hret (nI 0) 11 ls (by simp [reN, c_1]) (rfl) dX7_remainder_11
  · replace c_1 : ¬ d ≤ 0 := fun h => c_1 ((nI_leI (a := d) (b := 0) (by omega) (by omega)).mpr h)
    refine lv_iload_n hx hb dX7_remainder_4 rfl (lv_at hl 0 rfl) ?_
    refine lv_iload_n hx hb dX7_remainder_5 rfl (lv_at hl 1 rfl) ?_
    refine lv_irem hx hb dX7_remainder_6 (nI_ne0 (by omega) (by omega)) ?_
    refine lv_is (pk_rem (a := a) (d := d) (by omega) (by omega) (by omega)) ?_
    refine lv_goto (tgt := 11) hx hb dX7_remainder_7 (by decide) ?_
    exact hret (nI (a % d)) 11 ls (by simp [reN, c_1]) (rfl) dX7_remainder_11
set_option maxHeartbeats 4000000 in
set_option maxRecDepth 100000 in
theorem c_X7_commonDivisor (l : Launch) (g : GG) (a : Int32) (b : Int32) : Met l yX7_commonDivisor wsX7_commonDivisor ({ frames := 0, cells := 0, slots := 0, locals := 0 } : Room) (ro g [.int a, .int b] []) (vp_Si (fun rr => rr = cdI 64 a b)) 0 0 (fun _ => False) := by
  refine ro_start (cc := cX7_commonDivisor) (maxL := 6) (ty := .int) (by decide) rfl (Nat.le_of_ble_eq_true rfl) (fun p e s m args below meth c Q C hP hret ls hl => ?_)
  obtain ⟨hx, hb, hml, hr, hown, hts, hlk, hKK⟩ := id C
  have hK := hKK.1
  have hown : s.vm.findClass RX7 = some m.cls := hown
  have ctx : CallFix p m c cX7_commonDivisor 6 s args wsX7_commonDivisor RX7 := ⟨hx, hb, hml, hown, hts⟩
  have hl : lv_has ls 6 [(0, .int a), (1, .int b)] := hl
  refine lv_iload_n hx hb dX7_commonDivisor_0 rfl (lv_at hl 0 rfl) ?_
  refine lv_istore_n (lv' := [(2, .int a), (0, .int a), (1, .int b)]) hx hb dX7_commonDivisor_1 rfl hl (by decide) rfl (fun ls hl => ?_)
  refine lv_iload_n hx hb dX7_commonDivisor_2 rfl (lv_at hl 2 rfl) ?_
  refine lv_istore_n (lv' := [(3, .int b), (2, .int a), (0, .int a), (1, .int b)]) hx hb dX7_commonDivisor_3 rfl hl (by decide) rfl (fun ls hl => ?_)
  refine lv_iconst (v := nI 0) hx hb dX7_commonDivisor_4 (by decide) ?_
  refine lv_istore (lv' := [(4, .int (nI 0)), (3, .int b), (2, .int a), (0, .int a), (1, .int b)]) hx hb dX7_commonDivisor_5 hl (by decide) rfl (fun ls hl => ?_)
  have LP7 : ∀ (fu : Nat) (j : Nat) (x2 : Int32) (x3 : Int32), 64 - j < fu → (j ≤ 64) → (cdI 64 a b = cdI (64 - j) x2 x3) → ∀ (ls : Array Slot), lv_has ls 6 [(4, .int (nI j)), (3, .int x3), (2, .int x2), (0, .int a), (1, .int b)] → W p l e ({ frames := 0, cells := 0, slots := 0, locals := 0 } : Room) s m args below meth c s.heap [] 0 0 Q (F0 m 7 ls []) := by
    intro fu
    induction fu with
    | zero => intro j x2 x3 hfu; exact absurd hfu (Nat.not_lt_zero _)
    | succ fu ih7 =>
      intro j x2 x3 hfu hj ec ls hl
      refine lv_iload hx hb dX7_commonDivisor_7 (lv_at hl 0 rfl) ?_
      refine lv_bipush (v := nI 64) hx hb dX7_commonDivisor_9 (by decide) ?_
      refine lv_icmp_ge (tgt := 34) hx hb dX7_commonDivisor_11 (by decide) (fun c_1 => ?_) (fun c_1 => ?_)
      · replace c_1 : 64 ≤ j := (nI_leI (a := 64) (b := j) (by omega) (by omega)).mp c_1
        refine lv_iload_n hx hb dX7_commonDivisor_34 rfl (lv_at hl 2 rfl) ?_
        exact hret x2 35 ls (by rw [ec]; first | (rw [show 64 - j = 0 by omega, cdI]; done) | (rw [show 64 - j = 63 - j + 1 by omega, cdI, if_pos c_1])) (rfl) dX7_commonDivisor_35
      · replace c_1 : ¬ 64 ≤ j := fun h => c_1 ((nI_leI (a := 64) (b := j) (by omega) (by omega)).mpr h)
        refine lv_iload_n hx hb dX7_commonDivisor_14 rfl (lv_at hl 1 rfl) ?_
        refine lv_if_eq (tgt := 34) hx hb dX7_commonDivisor_15 (by decide) (fun c_2 => ?_) (fun c_2 => ?_)
        · refine lv_iload_n hx hb dX7_commonDivisor_34 rfl (lv_at hl 2 rfl) ?_
          exact hret x2 35 ls (by rw [ec]; first | (rw [show 64 - j = 0 by omega, cdI]; done) | (rw [show 64 - j = 63 - j + 1 by omega, cdI, if_pos c_2])) (rfl) dX7_commonDivisor_35
        · refine lv_iload_n hx hb dX7_commonDivisor_18 rfl (lv_at hl 2 rfl) ?_
          refine lv_iload_n hx hb dX7_commonDivisor_19 rfl (lv_at hl 1 rfl) ?_
          refine lv_irem hx hb dX7_commonDivisor_20 (c_2) ?_
          refine lv_istore (lv' := [(5, .int (x2 - x2 / x3 * x3)), (4, .int (nI j)), (3, .int x3), (2, .int x2), (0, .int a), (1, .int b)]) hx hb dX7_commonDivisor_21 hl (by decide) rfl (fun ls hl => ?_)
          refine lv_iload_n hx hb dX7_commonDivisor_23 rfl (lv_at hl 2 rfl) ?_
          refine lv_istore_n (lv' := [(2, .int x3), (5, .int (x2 - x2 / x3 * x3)), (4, .int (nI j)), (3, .int x3), (0, .int a), (1, .int b)]) hx hb dX7_commonDivisor_24 rfl hl (by decide) rfl (fun ls hl => ?_)
          refine lv_iload hx hb dX7_commonDivisor_25 (lv_at hl 1 rfl) ?_
          refine lv_istore_n (lv' := [(3, .int (x2 - x2 / x3 * x3)), (2, .int x3), (5, .int (x2 - x2 / x3 * x3)), (4, .int (nI j)), (0, .int a), (1, .int b)]) hx hb dX7_commonDivisor_27 rfl hl (by decide) rfl (fun ls hl => ?_)
          refine lv_iinc (v := nI (j + 1)) (lv' := [(4, .int (nI (j + 1))), (3, .int (x2 - x2 / x3 * x3)), (2, .int x3), (5, .int (x2 - x2 / x3 * x3)), (0, .int a), (1, .int b)]) hx hb dX7_commonDivisor_28 hl (k := 3) rfl (iincK j 1) (by decide) rfl (fun ls hl => ?_)
          refine lv_goto (tgt := 7) hx hb dX7_commonDivisor_31 (by decide) ?_
          exact ih7 (j + 1) x3 (x2 - x2 / x3 * x3) (by omega) (by omega) (by rw [ec, show 64 - j = 63 - j + 1 by omega, cdI, if_neg c_2, show 64 - (j + 1) = 63 - j by omega]) ls (lv_sub hl [0, 1, 2, 4, 5] rfl)
  exact LP7 65 0 a b (by omega) (by omega) (rfl) ls (lv_sub hl [0, 1, 2, 3, 4] rfl)
set_option maxHeartbeats 4000000 in
set_option maxRecDepth 100000 in
theorem c_X7_inLowestTerms (l : Launch) (g : GG) (a : Int32) (b : Int32) (part : Int32) : Met l yX7_inLowestTerms wsX7_inLowestTerms ({ frames := 1, cells := 0, slots := 0, locals := 25 } : Room) (ro g [.int a, .int b, .int part] []) (vp_Si (fun rr => rr = ltI a b part)) 0 0 (fun _ => False) := by
  refine ro_start (cc := cX7_inLowestTerms) (maxL := 4) (ty := .int) (by decide) rfl (Nat.le_of_ble_eq_true rfl) (fun p e s m args below meth c Q C hP hret ls hl => ?_)
  obtain ⟨hx, hb, hml, hr, hown, hts, hlk, hKK⟩ := id C
  have hK := hKK.1
  have hown : s.vm.findClass RX7 = some m.cls := hown
  have ctx : CallFix p m c cX7_inLowestTerms 4 s args wsX7_inLowestTerms RX7 := ⟨hx, hb, hml, hown, hts⟩
  have hl : lv_has ls 4 [(0, .int a), (1, .int b), (2, .int part)] := hl
  refine lv_iload_n hx hb dX7_inLowestTerms_0 rfl (lv_at hl 0 rfl) ?_
  refine lv_iload_n hx hb dX7_inLowestTerms_1 rfl (lv_at hl 1 rfl) ?_
  refine ro_callS (As := [.int a, .int b]) (rest := []) ctx hKK hP (c_X7_commonDivisor l g a b) gX7_inLowestTerms_X7_commonDivisor rfl rfl rfl hdX7_commonDivisor ⟨Nat.le_of_ble_eq_true rfl, Nat.le_of_ble_eq_true rfl⟩ [] rfl hl.1 rfl rfl (Nat.le_of_ble_eq_true rfl) dX7_inLowestTerms_2 (fun r_1 hr_1 => ?_)
  subst hr_1
  refine lv_istore_n (lv' := [(3, .int (cdI 64 a b)), (0, .int a), (1, .int b), (2, .int part)]) hx hb dX7_inLowestTerms_5 rfl hl (by decide) rfl (fun ls hl => ?_)
  refine lv_iload_n hx hb dX7_inLowestTerms_6 rfl (lv_at hl 3 rfl) ?_
  refine lv_if_ne (tgt := 14) hx hb dX7_inLowestTerms_7 (by decide) (fun c_2 => ?_) (fun c_2 => ?_)
  · refine lv_iload_n hx hb dX7_inLowestTerms_14 rfl (lv_at hl 2 rfl) ?_
    refine lv_iload_n hx hb dX7_inLowestTerms_15 rfl (lv_at hl 0 rfl) ?_
    refine ro_callS (As := [.int b, .int (cdI 64 a b)]) (rest := []) ctx hKK hP (c_X7_quotient l g b (cdI 64 a b)) gX7_inLowestTerms_X7_quotient rfl rfl rfl hdX7_quotient ⟨Nat.le_of_ble_eq_true rfl, Nat.le_of_ble_eq_true rfl⟩ [] rfl hl.1 rfl rfl (Nat.le_of_ble_eq_true rfl) dX7_inLowestTerms_16 (fun r_3 hr_3 => ?_)
    subst hr_3
    exact hret (quI b (cdI 64 a b)) 19 ls (by simp [ltI, c_2]) (rfl) dX7_inLowestTerms_19
  · refine lv_iload_n hx hb dX7_inLowestTerms_10 rfl (lv_at hl 1 rfl) ?_
    refine lv_goto (tgt := 15) hx hb dX7_inLowestTerms_11 (by decide) ?_
    refine lv_iload_n hx hb dX7_inLowestTerms_15 rfl (lv_at hl 0 rfl) ?_
    refine ro_callS (As := [.int a, .int (cdI 64 a b)]) (rest := []) ctx hKK hP (c_X7_quotient l g a (cdI 64 a b)) gX7_inLowestTerms_X7_quotient rfl rfl rfl hdX7_quotient ⟨Nat.le_of_ble_eq_true rfl, Nat.le_of_ble_eq_true rfl⟩ [] rfl hl.1 rfl rfl (Nat.le_of_ble_eq_true rfl) dX7_inLowestTerms_16 (fun r_4 hr_4 => ?_)
    subst hr_4
    exact hret (quI a (cdI 64 a b)) 19 ls (by simp [ltI, c_2]) (rfl) dX7_inLowestTerms_19
theorem kX7_drawOf_L262 : (Cond.constantLong RX7 262 (7919) : Cond) ∈ wsX7_drawOf := List.mem_cons_of_mem _ aw_743
theorem kX7_drawOf_L264 : (Cond.constantLong RX7 264 (6151) : Cond) ∈ wsX7_drawOf := List.mem_cons_of_mem _ aw_744
theorem kX7_drawOf_L266 : (Cond.constantLong RX7 266 (65521) : Cond) ∈ wsX7_drawOf := List.mem_cons_of_mem _ aw_745
theorem kX7_drawOf_L268 : (Cond.constantLong RX7 268 (4) : Cond) ∈ wsX7_drawOf := List.mem_cons_of_mem _ aw_746
set_option maxHeartbeats 4000000 in
set_option maxRecDepth 100000 in
theorem c_X7_drawOf (l : Launch) (g : GG) (z : Nat) (t : Nat) (hz : z ≤ 9999) (ht : t ≤ 60) : Met l yX7_drawOf wsX7_drawOf ({ frames := 0, cells := 0, slots := 0, locals := 0 } : Room) (ro g [.int (nI z), .int (nI t)] []) (vp_Si (fun rr => rr = nI (dN z t))) 0 0 (fun _ => False) := by
  refine ro_start (cc := cX7_drawOf) (maxL := 4) (ty := .int) (by decide) rfl (Nat.le_of_ble_eq_true rfl) (fun p e s m args below meth c Q C hP hret ls hl => ?_)
  obtain ⟨hx, hb, hml, hr, hown, hts, hlk, hKK⟩ := id C
  have hK := hKK.1
  have hown : s.vm.findClass RX7 = some m.cls := hown
  have ctx : CallFix p m c cX7_drawOf 4 s args wsX7_drawOf RX7 := ⟨hx, hb, hml, hown, hts⟩
  have hl : lv_has ls 4 [(0, .int (nI z)), (1, .int (nI t))] := hl
  refine lv_ldc2 (v := 7919) hx hb hown (hts _ kX7_drawOf_L262) dX7_drawOf_0 ?_
  refine lv_isl (x' := lN 7919) (by decide) ?_
  refine lv_iload_n hx hb dX7_drawOf_3 rfl (lv_at hl 0 rfl) ?_
  refine lv_i2l (v := lN z) hx hb dX7_drawOf_4 (nI_l (by omega)) ?_
  refine lv_lmul hx hb dX7_drawOf_5 ?_
  refine lv_isl (lN_mul 7919 z) ?_
  refine lv_ldc2 (v := 6151) hx hb hown (hts _ kX7_drawOf_L264) dX7_drawOf_6 ?_
  refine lv_isl (x' := lN 6151) (by decide) ?_
  refine lv_iload_n hx hb dX7_drawOf_9 rfl (lv_at hl 1 rfl) ?_
  refine lv_i2l (v := lN t) hx hb dX7_drawOf_10 (nI_l (by omega)) ?_
  refine lv_lmul hx hb dX7_drawOf_11 ?_
  refine lv_isl (lN_mul 6151 t) ?_
  refine lv_ladd hx hb dX7_drawOf_12 ?_
  refine lv_isl (lN_add (7919 * z) (6151 * t)) ?_
  refine lv_lconst (v := lN 1) hx hb dX7_drawOf_13 (by decide) ?_
  refine lv_ladd hx hb dX7_drawOf_14 ?_
  refine lv_isl (lN_add ((7919 * z) + (6151 * t)) 1) ?_
  refine lv_lstore_n (lv' := [(2, .long (lN (((7919 * z) + (6151 * t)) + 1))), (0, .int (nI z)), (1, .int (nI t))]) hx hb dX7_drawOf_15 rfl hl (by decide) rfl (fun ls hl => ?_)
  refine lv_lload_n hx hb dX7_drawOf_16 rfl (lv_at hl 0 rfl) ?_
  refine lv_lload_n hx hb dX7_drawOf_17 rfl (lv_at hl 0 rfl) ?_
  refine lv_lmul hx hb dX7_drawOf_18 ?_
  refine lv_isl (lN_mul (((7919 * z) + (6151 * t)) + 1) (((7919 * z) + (6151 * t)) + 1)) ?_
  refine lv_ldc2 (v := 65521) hx hb hown (hts _ kX7_drawOf_L266) dX7_drawOf_19 ?_
  refine lv_isl (x' := lN 65521) (by decide) ?_
  refine lv_lrem hx hb dX7_drawOf_22 (by decide) ?_
  refine lv_isl (pk_lRem (a := (((7919 * z) + (6151 * t)) + 1) * (((7919 * z) + (6151 * t)) + 1)) (b := 65521) (Nat.lt_of_le_of_lt (Nat.mul_le_mul (show ((7919 * z) + (6151 * t)) + 1 ≤ 79600000 by omega) (show ((7919 * z) + (6151 * t)) + 1 ≤ 79600000 by omega)) (by decide)) (by omega) (by omega)) ?_
  refine lv_ldc2 (v := 4) hx hb hown (hts _ kX7_drawOf_L268) dX7_drawOf_23 ?_
  refine lv_isl (x' := lN 4) (by decide) ?_
  refine lv_ldiv hx hb dX7_drawOf_26 (by decide) ?_
  refine lv_isl (pk_lDiv (a := ((((7919 * z) + (6151 * t)) + 1) * (((7919 * z) + (6151 * t)) + 1)) % 65521) (b := 4) (by omega) (by omega) (by omega)) ?_
  refine lv_l2i (v := nI ((((((7919 * z) + (6151 * t)) + 1) * (((7919 * z) + (6151 * t)) + 1)) % 65521) / 4)) hx hb dX7_drawOf_27 (lN_i _) ?_
  exact hret (nI ((((((7919 * z) + (6151 * t)) + 1) * (((7919 * z) + (6151 * t)) + 1)) % 65521) / 4)) 28 ls (rfl) (rfl) dX7_drawOf_28
