/-! the two readers find the same fault, and the same draft -/
def TR (n : Nat) (tx tx' : Nat → Int32) : Prop := ∀ k, k < n → tx k = tx' k
theorem sg_lt {n : Nat} {tx tx' : Nat → Int32} (h : TR n tx tx') {k : Nat} (hk : k < n) : sgn tx n k = mLt tx' n k := by rw [sgn, mLt, if_pos hk, if_neg (by omega), h k hk]
theorem sg_ge {n : Nat} {tx tx' : Nat → Int32} {k : Nat} (hk : n ≤ k) : sgn tx n k = nI 0 ∧ mLt tx' n k = -1 := ⟨by rw [sgn, if_neg (by omega)], by rw [mLt, if_pos hk]⟩
theorem dg_eq {n : Nat} {tx tx' : Nat → Int32} (h : TR n tx tx') (k : Nat) : isDg (sgn tx n k) = mFg tx' n k := by
  rw [mFg]
  rcases Nat.lt_or_ge k n with hk | hk
  · rw [sg_lt h hk]; rfl
  · rw [(sg_ge (tx' := tx') hk).1, (sg_ge (tx := tx) hk).2]; decide
theorem tk_eq {n : Nat} {tx tx' : Nat → Int32} (h : TR n tx tx') (k : Nat) {c : Int32} (h0 : ¬ c = nI 0) (h1 : ¬ c = -1) : tkB tx n k c = decide (mLt tx' n k = c) := by
  rw [tkB]
  rcases Nat.lt_or_ge k n with hk | hk
  · rw [sg_lt h hk]
  · rw [(sg_ge (tx' := tx') hk).1, (sg_ge (tx := tx) hk).2, decide_eq_false (fun e => h0 e.symm), decide_eq_false (fun e => h1 e.symm)]
theorem inB_of {k lo hi : Nat} (h1 : lo ≤ k) (h2 : k ≤ hi) (h3 : hi < 2 ^ 31) : inB (nI k) (nI lo) (nI hi) = true := by
  rw [inB]; exact decide_eq_true ⟨nI_nlt h1 (by omega), nI_le h2 h3⟩
theorem inB_no {k lo hi : Nat} (hk : k < 2 ^ 31) (hl : lo < 2 ^ 31) (hh : hi < 2 ^ 31) (h : ¬ (lo ≤ k ∧ k ≤ hi)) : inB (nI k) (nI lo) (nI hi) = false := by
  rw [inB]; exact decide_eq_false (fun q => h ⟨Nat.le_of_not_lt (fun z => q.1 (nI_lt z hl)), (nI_leI hk hh).mp q.2⟩)
theorem fg_t {n : Nat} {tx tx' : Nat → Int32} (h : TR n tx tx') {k : Nat} (d : mFg tx' n k = true) : ∃ v, v ≤ 9 ∧ mLt tx' n k = nI (48 + v) ∧ fgV tx n k = nI v ∧ fgP tx n k = k + 1 := by
  have hk := mFg_lt d
  have d2 := d
  rw [mFg] at d2
  obtain ⟨m, ⟨h1, h2⟩, e⟩ := inB_rng (k := 48) (n := 57) d2 (by decide) (by decide)
  refine ⟨m - 48, by omega, ?_, ?_, ?_⟩
  · rw [e, show 48 + (m - 48) = m by omega]
  · rw [fgV, dg_eq h, if_pos d, sg_lt h hk, e, pk_sub h1]
  · rw [fgP, dg_eq h, if_pos d]
theorem fg_f {n : Nat} {tx tx' : Nat → Int32} (h : TR n tx tx') {k : Nat} (d : mFg tx' n k = false) : fgV tx n k = -1 ∧ fgP tx n k = k := by
  have d2 : ¬ mFg tx' n k = true := by rw [d]; decide
  exact ⟨by rw [fgV, dg_eq h, if_neg d2], by rw [fgP, dg_eq h, if_neg d2]⟩
theorem nu_f {n : Nat} {tx tx' : Nat → Int32} (h : TR n tx tx') {p : Nat} (d : mFg tx' n p = false) : nuV tx n p = -1 ∧ nuP tx n p = p := by
  obtain ⟨e1, e2⟩ := fg_f h d
  have hn : ¬ (0 : Int32) ≤ -1 := by decide
  exact ⟨by rw [nuV, e1, if_neg hn], by rw [nuP, e1, e2, if_neg hn]⟩
theorem nu_t {n : Nat} {tx tx' : Nat → Int32} (h : TR n tx tx') {p : Nat} (d : mFg tx' n p = true) : ∃ v, v ≤ 99 ∧ mNv tx' n p = nI v ∧ nuV tx n p = nI v ∧ nuP tx n p = mNp tx' n p := by
  obtain ⟨v, hv, e1, e2, e3⟩ := fg_t h d
  have hp : (0 : Int32) ≤ nI v := nI_pos' (by omega)
  have hn : ¬ (0 : Int32) ≤ -1 := by decide
  rw [nuV, nuP, e2, e3, if_pos hp, if_pos hp, mNv, mNp]
  cases d2 : mFg tx' n (p + 1)
  · obtain ⟨f1, f2⟩ := fg_f h d2
    refine ⟨v, by omega, ?_, ?_, ?_⟩
    · rw [if_neg (by decide), e1, pk_sub (by omega), show 48 + v - 48 = v by omega]
    · rw [f1, if_neg hn]
    · rw [f2, if_neg (by decide)]
  · obtain ⟨v2, hv2, g1, g2, g3⟩ := fg_t h d2
    have hp2 : (0 : Int32) ≤ nI v2 := nI_pos' (by omega)
    refine ⟨10 * v + v2, by omega, ?_, ?_, ?_⟩
    · rw [if_pos rfl, e1, g1, pk_sub (a := 48 + v) (by omega), show 48 + v - 48 = v by omega, pk_mul, nI_add, pk_sub (by omega), show 10 * v + (48 + v2) - 48 = 10 * v + v2 by omega]
    · rw [g2, if_pos hp2, pk_mul, nI_add]
    · rw [g3, if_pos rfl]
theorem num1 {n : Nat} {tx tx' : Nat → Int32} (h : TR n tx tx') (p : Nat) : (mN1 tx' n p = none ∧ (nuV tx n p = -1 ∨ tkB tx n (nuP tx n p) (nI 59) = false)) ∨ ∃ v, v ≤ 99 ∧ mN1 tx' n p = some (nuP tx n p + 1, nI v) ∧ nuV tx n p = nI v ∧ tkB tx n (nuP tx n p) (nI 59) = true := by
  cases d : mFg tx' n p
  · refine Or.inl ⟨?_, Or.inl (nu_f h d).1⟩
    rw [mN1, if_neg (by intro q; rw [d] at q; exact ft q.1)]
  · obtain ⟨v, hv, e1, e2, e3⟩ := nu_t h d
    rw [e3, tk_eq h _ (by decide) (by decide)]
    by_cases s : mLt tx' n (mNp tx' n p) = nI 59
    · refine Or.inr ⟨v, hv, ?_, e2, decide_eq_true s⟩
      rw [mN1, if_pos (by exact ⟨d, s⟩), e1]
    · refine Or.inl ⟨?_, Or.inr (decide_eq_false s)⟩
      rw [mN1, if_neg (by intro q; exact s q.2)]
/-- a draft of the class and one of the model -/
def DRl (oc : Nat) (D : DV) : MDV → Prop
  | (bg, rp, rt, rdn, rw_, rb, kd, hs, pt, rd) => oc = 1 - bg ∧ D.2 0 = rp ∧ D.2 1 = rt ∧ D.2 2 = rdn ∧ D.2 3 = rw_ ∧ D.2 4 = rb ∧ (∀ i, i < rt → D.1 0 i = kd i ∧ kR (kd i)) ∧ (∀ i j, i < rt → j < rp → D.1 1 (i * 8 + j) = rd ((1 + (8 * i)) + j) ∧ inB (rd ((1 + (8 * i)) + j)) (nI 0) (nI 9) = true) ∧ (∀ d, d < rdn → D.1 2 d = hs d ∧ D.1 3 d = rd (65 + d)) ∧ (∀ w, w < rw_ → D.1 4 w = pt w) ∧ (∀ k, k = 0 ∨ 70 ≤ k → rd k = nI 0)
/-- what an item comes to, on both sides -/
def IR (tx : Nat → Int32) (n : Nat) (o1 : Option (Nat × DV)) (o2 : Option (Nat × MDV)) (oc' : Nat) : Prop :=
  (o2 = none ∧ ∀ q, o1 = some q → tkB tx n q.1 (nI 59) = false) ∨ ∃ q r, o1 = some q ∧ tkB tx n q.1 (nI 59) = true ∧ o2 = some r ∧ r.1 = q.1 + 1 ∧ DRl oc' q.2 r.2
theorem IR_no {tx : Nat → Int32} {n : Nat} {o1 : Option (Nat × DV)} {o2 : Option (Nat × MDV)} {oc' : Nat} (e : o2 = none) (h : o1 = none) : IR tx n o1 o2 oc' := Or.inl ⟨e, fun q hq => by rw [h] at hq; cases hq⟩
theorem ir_n {n : Nat} {tx tx' : Nat → Int32} (h : TR n tx tx') {oc p : Nat} {D : DV} {bg rp rt rdn rw_ rb : Nat} {kd hs pt rd : Nat → Int32} (hM : MOK (bg, rp, rt, rdn, rw_, rb, kd, hs, pt, rd)) (hD : DRl oc D (bg, rp, rt, rdn, rw_, rb, kd, hs, pt, rd)) :
    IR tx n (rdN tx n oc p D) (match mRn tx' n p bg with | some q => some (q.1, bg, q.2.toNatClampNeg, rt, rdn, rw_, rb, kd, hs, pt, rd) | none => none) oc := by
  obtain ⟨m0, m1, m2, m3, m4, m4b, m5, m6, m7, m8⟩ := hM
  obtain ⟨d0, d1, d2, d3, d4, d5, d6, d7, d8, d9, d10⟩ := hD
  by_cases b0 : bg = 0
  · rcases num1 h p with ⟨e, c⟩ | ⟨v, hv, e, e2, t⟩
    · have en : mRn tx' n p bg = none := by rw [mRn, if_pos b0, e]
      rw [en]
      refine Or.inl ⟨rfl, fun q hq => ?_⟩
      rw [rdN] at hq
      split at hq
      · cases hq
      · rename_i c2
        cases hq
        rcases c with c | c
        · exact absurd (Or.inr (Or.inl (by rw [c]; decide))) c2
        · exact c
    · by_cases r : 2 ≤ v ∧ v ≤ 8
      · have en : mRn tx' n p bg = some (nuP tx n p + 1, nI v) := by rw [mRn, if_pos b0, e]; dsimp only; rw [if_pos (inB_of r.1 r.2 (by decide))]
        have hc : ¬ (oc = 0 ∨ nuV tx n p < nI 2 ∨ ¬ nuV tx n p ≤ nI 8) := by
          rw [e2]
          rintro (q | q | q)
          · omega
          · exact nI_nlt r.1 (by omega) q
          · exact q (nI_le r.2 (by decide))
        rw [en]
        refine Or.inr ⟨(nuP tx n p, D.1, updN D.2 0 (nuV tx n p).toNatClampNeg), _, by rw [rdN, if_neg hc], t, rfl, rfl, ?_⟩
        obtain ⟨r0, r1⟩ := m5 b0
        subst r0; subst r1
        refine ⟨d0, ?_, d2, d3, d4, d5, fun i hi => absurd hi (Nat.not_lt_zero i), fun i j hi => absurd hi (Nat.not_lt_zero i), fun d hd => absurd hd (Nat.not_lt_zero d), d9, d10⟩
        show (nuV tx n p).toNatClampNeg = (nI v).toNatClampNeg
        rw [e2]
      · have en : mRn tx' n p bg = none := by rw [mRn, if_pos b0, e]; dsimp only; rw [inB_no (by omega) (by decide) (by decide) r, if_neg (by decide)]
        rw [en]
        refine IR_no rfl ?_
        rw [rdN, if_pos ?_]
        rw [e2]
        by_cases r2 : 2 ≤ v
        · exact Or.inr (Or.inr (nI_ge (by omega) (by omega)))
        · exact Or.inr (Or.inl (nI_lt (by omega) (by decide)))
  · have en : mRn tx' n p bg = none := by rw [mRn, if_neg b0]
    rw [en]
    refine IR_no rfl ?_
    rw [rdN, if_pos (Or.inl (by omega))]
theorem ir_b {n : Nat} {tx tx' : Nat → Int32} (h : TR n tx tx') {oc p : Nat} {D : DV} {bg rp rt rdn rw_ rb : Nat} {kd hs pt rd : Nat → Int32} (hD : DRl oc D (bg, rp, rt, rdn, rw_, rb, kd, hs, pt, rd)) :
    IR tx n (rdB tx n p D) (match mRb tx' n p with | some q => some (q.1, 1, rp, rt, rdn, rw_, q.2.toNatClampNeg, kd, hs, pt, rd) | none => none) 0 := by
  obtain ⟨d0, d1, d2, d3, d4, d5, d6, d7, d8, d9, d10⟩ := hD
  rcases num1 h p with ⟨e, c⟩ | ⟨v, hv, e, e2, t⟩
  · have en : mRb tx' n p = none := by rw [mRb, e]
    rw [en]
    refine Or.inl ⟨rfl, fun q hq => ?_⟩
    rw [rdB] at hq
    split at hq
    · cases hq
    · rename_i c2
      cases hq
      rcases c with c | c
      · exact absurd (Or.inl (by rw [c]; decide)) c2
      · exact c
  · by_cases r : 1 ≤ v ∧ v ≤ 9
    · have en : mRb tx' n p = some (nuP tx n p + 1, nI v) := by rw [mRb, e]; dsimp only; rw [if_pos (inB_of r.1 r.2 (by decide))]
      have hc : ¬ (nuV tx n p < nI 1 ∨ ¬ nuV tx n p ≤ nI 9) := by
        rw [e2]
        rintro (q | q)
        · exact nI_nlt r.1 (by omega) q
        · exact q (nI_le r.2 (by decide))
      rw [en]
      refine Or.inr ⟨(nuP tx n p, D.1, updN D.2 4 (nuV tx n p).toNatClampNeg), _, by rw [rdB, if_neg hc], t, rfl, rfl, ?_⟩
      refine ⟨rfl, d1, d2, d3, d4, ?_, d6, d7, d8, d9, d10⟩
      show (nuV tx n p).toNatClampNeg = (nI v).toNatClampNeg
      rw [e2]
    · have en : mRb tx' n p = none := by rw [mRb, e]; dsimp only; rw [inB_no (by omega) (by decide) (by decide) r, if_neg (by decide)]
      rw [en]
      refine IR_no rfl ?_
      rw [rdB, if_pos ?_]
      rw [e2]
      by_cases r2 : 1 ≤ v
      · exact Or.inr (nI_ge (by omega) (by omega))
      · exact Or.inl (nI_lt (by omega) (by decide))
theorem ir_w {n : Nat} {tx tx' : Nat → Int32} (h : TR n tx tx') {oc p : Nat} {D : DV} {bg rp rt rdn rw_ rb : Nat} {kd hs pt rd : Nat → Int32} (hM : MOK (bg, rp, rt, rdn, rw_, rb, kd, hs, pt, rd)) (hD : DRl oc D (bg, rp, rt, rdn, rw_, rb, kd, hs, pt, rd)) :
    IR tx n (rdW tx n p D) (match mRw tx' n p rw_ pt with | some q => some (q.1, 1, rp, rt, rdn, rw_ + 1, rb, kd, hs, q.2, rd) | none => none) 0 := by
  obtain ⟨m0, m1, m2, m3, m4, m4b, m5, m6, m7, m8⟩ := hM
  obtain ⟨d0, d1, d2, d3, d4, d5, d6, d7, d8, d9, d10⟩ := hD
  by_cases w6 : rw_ = 6
  · have en : mRw tx' n p rw_ pt = none := by rw [mRw, if_pos w6]
    rw [en]
    refine IR_no rfl ?_
    rw [rdW, if_pos (Or.inl (by omega))]
  · rcases num1 h p with ⟨e, c⟩ | ⟨v, hv, e, e2, t⟩
    · have en : mRw tx' n p rw_ pt = none := by rw [mRw, if_neg w6, e]
      rw [en]
      refine Or.inl ⟨rfl, fun q hq => ?_⟩
      rw [rdW] at hq
      split at hq
      · cases hq
      · rename_i c2
        cases hq
        rcases c with c | c
        · exact absurd (Or.inr (Or.inl (by rw [c]; decide))) c2
        · exact c
    · by_cases r : 1 ≤ v ∧ v ≤ 60
      · have en : mRw tx' n p rw_ pt = some (nuP tx n p + 1, upd pt rw_ (nI v)) := by rw [mRw, if_neg w6, e]; dsimp only; rw [if_pos (inB_of r.1 r.2 (by decide))]
        have hc : ¬ (6 ≤ D.2 3 ∨ nuV tx n p < nI 1 ∨ ¬ nuV tx n p ≤ nI 60) := by
          rw [e2]
          rintro (q | q | q)
          · omega
          · exact nI_nlt r.1 (by omega) q
          · exact q (nI_le r.2 (by decide))
        rw [en]
        refine Or.inr ⟨(nuP tx n p, upA D.1 4 (upd (D.1 4) (D.2 3) (nuV tx n p)), updN D.2 3 (D.2 3 + 1)), _, by rw [rdW, if_neg hc], t, rfl, rfl, ?_⟩
        refine ⟨rfl, d1, d2, d3, ?_, d5, d6, d7, d8, fun w hw => ?_, d10⟩
        · show D.2 3 + 1 = rw_ + 1
          rw [d4]
        · show upd (D.1 4) (D.2 3) (nuV tx n p) w = upd pt rw_ (nI v) w
          rw [d4, e2]
          by_cases q : w = rw_
          · subst q; rw [pk_us, pk_us]
          · rw [pk_un q, pk_un q]; exact d9 w (by omega)
      · have en : mRw tx' n p rw_ pt = none := by rw [mRw, if_neg w6, e]; dsimp only; rw [inB_no (by omega) (by decide) (by decide) r, if_neg (by decide)]
        rw [en]
        refine IR_no rfl ?_
        rw [rdW, if_pos ?_]
        rw [e2]
        by_cases r2 : 1 ≤ v
        · exact Or.inr (Or.inr (nI_ge (by omega) (by omega)))
        · exact Or.inr (Or.inl (nI_lt (by omega) (by decide)))
theorem inPb_m1 (P : Nat) : inPb P (-1) = false := by rw [inPb]; exact decide_eq_false (fun q => q.1 (by decide))
theorem ir_d {n : Nat} {tx tx' : Nat → Int32} (h : TR n tx tx') {oc p : Nat} {D : DV} {bg rp rt rdn rw_ rb : Nat} {kd hs pt rd : Nat → Int32} (hM : MOK (bg, rp, rt, rdn, rw_, rb, kd, hs, pt, rd)) (hD : DRl oc D (bg, rp, rt, rdn, rw_, rb, kd, hs, pt, rd)) :
    IR tx n (rdD tx n p D) (match mRd tx' n p rdn rp hs rd with | some q => some (q.1, 1, rp, rt, rdn + 1, rw_, rb, kd, q.2.1, pt, q.2.2) | none => none) 0 := by
  obtain ⟨m0, m1, m2, m3, m4, m4b, m5, m6, m7, m8⟩ := hM
  obtain ⟨d0, d1, d2, d3, d4, d5, d6, d7, d8, d9, d10⟩ := hD
  have no : ∀ {o1 : Option (Nat × DV)}, mN2 tx' n p = none → (∀ q, o1 = some q → tkB tx n q.1 (nI 59) = false) → IR tx n o1 (match mRd tx' n p rdn rp hs rd with | some q => some (q.1, 1, rp, rt, rdn + 1, rw_, rb, kd, q.2.1, pt, q.2.2) | none => none) 0 := by
    intro o1 e hq
    have en : mRd tx' n p rdn rp hs rd = none := by
      rw [mRd, e]; split <;> rfl
    rw [en]
    exact Or.inl ⟨rfl, hq⟩
  have e44 := tk_eq h (nuP tx n p) (c := nI 44) (by decide) (by decide)
  cases f1 : mFg tx' n p
  · refine no (by rw [mN2, if_neg (by intro q; rw [f1] at q; exact ft q.1)]) (fun q hq => ?_)
    rw [rdD, (nu_f h f1).1] at hq
    split at hq
    · cases hq
    · rw [if_pos (Or.inr (Or.inl (inPb_m1 _)))] at hq; cases hq
  · obtain ⟨v, hv, e1, e2, e3⟩ := nu_t h f1
    by_cases k1 : mLt tx' n (mNp tx' n p) = nI 44
    · have t44 : ¬ tkB tx n (nuP tx n p) (nI 44) = false := by rw [e44, e3, decide_eq_true k1]; decide
      cases f2 : mFg tx' n (mNp tx' n p + 1)
      · refine no (by rw [mN2, if_neg (by intro q; rw [f2] at q; exact ft q.2.2.1)]) (fun q hq => ?_)
        rw [rdD, if_neg t44, e3, (nu_f h f2).1, if_pos (Or.inr (Or.inr (inPb_m1 _)))] at hq
        cases hq
      · obtain ⟨v2, hv2, g1, g2, g3⟩ := nu_t h f2
        have e59 := tk_eq h (mNp tx' n (mNp tx' n p + 1)) (c := nI 59) (by decide) (by decide)
        by_cases k2 : mLt tx' n (mNp tx' n (mNp tx' n p + 1)) = nI 59
        · have en2 : mN2 tx' n p = some (mNp tx' n (mNp tx' n p + 1) + 1, nI v, nI v2) := by rw [mN2, if_pos (by exact ⟨f1, k1, f2, k2⟩), e1, g1]
          by_cases ok : ¬ rdn = 5 ∧ inPb rp (nI v) = true ∧ inPb rp (nI v2) = true
          · have en : mRd tx' n p rdn rp hs rd = some (mNp tx' n (mNp tx' n p + 1) + 1, upd hs rdn (nI v), upd rd (65 + rdn) (nI v2)) := by rw [mRd, if_neg ok.1, en2]; dsimp only; rw [if_pos ok.2]
            have hc : ¬ (5 ≤ D.2 2 ∨ inPb (D.2 0) (nuV tx n p) = false ∨ inPb (D.2 0) (nuV tx n (mNp tx' n p + 1)) = false) := by
              rw [e2, g2, d1, ok.2.1, ok.2.2]
              rintro (q | q | q)
              · omega
              · cases q
              · cases q
            rw [en]
            refine Or.inr ⟨(mNp tx' n (mNp tx' n p + 1), upA (upA D.1 2 (upd (D.1 2) (D.2 2) (nuV tx n p))) 3 (upd (D.1 3) (D.2 2) (nuV tx n (mNp tx' n p + 1))), updN D.2 2 (D.2 2 + 1)), _, by rw [rdD, if_neg t44, e3, if_neg hc, g3], by rw [e59]; exact decide_eq_true k2, rfl, rfl, ?_⟩
            refine ⟨rfl, d1, d2, ?_, d4, d5, d6, fun i j hi hj => ?_, fun d hd => ?_, d9, fun k hk => ?_⟩
            · show D.2 2 + 1 = rdn + 1
              rw [d3]
            · show D.1 1 (i * 8 + j) = upd rd (65 + rdn) (nI v2) _ ∧ inB (upd rd (65 + rdn) (nI v2) _) (nI 0) (nI 9) = true
              rw [pk_un (by omega)]
              exact d7 i j hi hj
            · show upd (D.1 2) (D.2 2) (nuV tx n p) d = upd hs rdn (nI v) d ∧ upd (D.1 3) (D.2 2) (nuV tx n (mNp tx' n p + 1)) d = upd rd (65 + rdn) (nI v2) (65 + d)
              rw [d3, e2, g2]
              by_cases q : d = rdn
              · subst q; rw [pk_us, pk_us, pk_us, pk_us]; exact ⟨rfl, rfl⟩
              · rw [pk_un q, pk_un q, pk_un q, pk_un (by omega)]; exact d8 d (by omega)
            · show upd rd (65 + rdn) (nI v2) k = nI 0
              rw [pk_un (by omega)]
              exact d10 k hk
          · have en : mRd tx' n p rdn rp hs rd = none := by
              by_cases a : rdn = 5
              · rw [mRd, if_pos a]
              · rw [mRd, if_neg a, en2]; dsimp only; rw [if_neg (fun q => ok ⟨a, q⟩)]
            rw [en]
            refine IR_no rfl ?_
            rw [rdD, if_neg t44, e3, e2, g2, d1, d3, if_pos ?_]
            by_cases a : rdn = 5
            · exact Or.inl (by omega)
            · cases b1 : inPb rp (nI v)
              · exact Or.inr (Or.inl rfl)
              · cases b2 : inPb rp (nI v2)
                · exact Or.inr (Or.inr rfl)
                · exact absurd ⟨a, b1, b2⟩ ok
        · refine no (by rw [mN2, if_neg (by intro q; exact k2 q.2.2.2)]) (fun q hq => ?_)
          rw [rdD, if_neg t44, e3] at hq
          split at hq
          · cases hq
          · cases hq
            show tkB tx n (nuP tx n (mNp tx' n p + 1)) (nI 59) = false
            rw [g3, e59]
            exact decide_eq_false k2
    · refine no (by rw [mN2, if_neg (by intro q; exact k1 q.2.1)]) (fun q hq => ?_)
      rw [rdD, if_pos (by rw [e44, e3]; exact decide_eq_false k1)] at hq
      cases hq
theorem rpl_eq {n : Nat} {tx tx' : Nat → Int32} (h : TR n tx tx') {i pl : Nat} {lk rd : Nat → Int32} (hi : i < 8) : ∀ j, j ≤ 8 → (rpL tx n i pl lk j = none ∧ mRl tx' n i pl rd j = none) ∨ ∃ q lk' rd', rpL tx n i pl lk j = some (q, lk') ∧ mRl tx' n i pl rd j = some (q, rd') ∧ (∀ b, b < j → lk' (i * 8 + b) = rd' ((1 + (8 * i)) + b) ∧ inB (rd' ((1 + (8 * i)) + b)) (nI 0) (nI 9) = true) ∧ (∀ a b, a < i → b < 8 → lk' (a * 8 + b) = lk (a * 8 + b) ∧ rd' ((1 + (8 * a)) + b) = rd ((1 + (8 * a)) + b)) ∧ (∀ k, k = 0 ∨ 65 ≤ k → rd' k = rd k)
  | 0, _ => Or.inr ⟨pl, lk, rd, rfl, rfl, fun b hb => absurd hb (Nat.not_lt_zero b), fun _ _ _ _ => ⟨rfl, rfl⟩, fun _ _ => rfl⟩
  | j + 1, hj => by
    rcases rpl_eq h (pl := pl) (lk := lk) (rd := rd) hi j (by omega) with ⟨h1, h2⟩ | ⟨q, lk', rd', h1, h2, h3, h4, h5⟩
    · exact Or.inl ⟨by rw [rpL, h1], by rw [mRl, h2]⟩
    · cases f : mFg tx' n q
      · have hn : ¬ (0 : Int32) ≤ -1 := by decide
        refine Or.inl ⟨?_, ?_⟩
        · rw [rpL, h1]; dsimp only; rw [(fg_f h f).1, if_neg hn]
        · rw [mRl, h2]; dsimp only; rw [f, if_neg (by decide)]
      · obtain ⟨v, hv, e1, e2, e3⟩ := fg_t h f
        refine Or.inr ⟨q + 1, upd lk' (i * 8 + j) (nI v), upd rd' ((1 + (8 * i)) + j) (nI v), ?_, ?_, fun b hb => ?_, fun a b ha hb => ?_, fun k hk => ?_⟩
        · rw [rpL, h1]; dsimp only; rw [e2, e3, if_pos (nI_pos' (by omega))]
        · rw [mRl, h2]; dsimp only; rw [f, if_pos rfl, e1, pk_sub (by omega), show 48 + v - 48 = v by omega]
        · by_cases e : b = j
          · subst e; rw [pk_us, pk_us]; exact ⟨rfl, inB_of (Nat.zero_le v) hv (by decide)⟩
          · rw [pk_un (by omega), pk_un (by omega)]; exact h3 b (by omega)
        · rw [pk_un (by omega), pk_un (by omega)]; exact h4 a b ha hb
        · rw [pk_un (by omega)]; exact h5 k hk
theorem ir_p {n : Nat} {tx tx' : Nat → Int32} (h : TR n tx tx') {oc p : Nat} {D : DV} {bg rp rt rdn rw_ rb : Nat} {kd hs pt rd : Nat → Int32} (hM : MOK (bg, rp, rt, rdn, rw_, rb, kd, hs, pt, rd)) (hD : DRl oc D (bg, rp, rt, rdn, rw_, rb, kd, hs, pt, rd)) :
    IR tx n (rdP tx n p D) (match mRp tx' n p rt rp kd rd with | some q => some (q.1, 1, rp, rt + 1, rdn, rw_, rb, q.2.1, hs, pt, q.2.2) | none => none) 0 := by
  obtain ⟨m0, m1, m2, m3, m4, m4b, m5, m6, m7, m8⟩ := hM
  obtain ⟨d0, d1, d2, d3, d4, d5, d6, d7, d8, d9, d10⟩ := hD
  by_cases a : rt = rp
  · have en : mRp tx' n p rt rp kd rd = none := by rw [mRp, if_pos (Or.inl a)]
    rw [en]
    exact IR_no rfl (by rw [rdP, if_pos (Or.inl (by omega))])
  · cases b : inB (mLt tx' n p) (nI 48) (nI 51)
    · have en : mRp tx' n p rt rp kd rd = none := by rw [mRp, if_pos (Or.inr b)]
      rw [en]
      refine IR_no rfl ?_
      rw [rdP, if_pos ?_]
      cases f : mFg tx' n p
      · rw [(fg_f h f).1]; exact Or.inr (Or.inl (by decide))
      · obtain ⟨v, hv, e1, e2, e3⟩ := fg_t h f
        refine Or.inr (Or.inr ?_)
        rw [e2]
        have v3 : ¬ v ≤ 3 := fun q => by
          rw [e1, inB_of (by omega) (by omega) (by decide)] at b
          exact tf b
        exact nI_ge (by omega) (by omega)
    · obtain ⟨m, ⟨b1, b2⟩, be⟩ := inB_rng (k := 48) (n := 51) b (by decide) (by decide)
      have f : mFg tx' n p = true := by rw [mFg, be]; exact inB_of b1 (by omega) (by decide)
      obtain ⟨v, hv, e1, e2, e3⟩ := fg_t h f
      have ev : v = m - 48 := by
        have := (nI_eq (by omega) (by omega)).mp (be.symm.trans e1)
        omega
      have hcm : ¬ (rt = rp ∨ inB (mLt tx' n p) (nI 48) (nI 51) = false) := by
        rintro (q | q)
        · exact a q
        · rw [b] at q; exact tf q
      have hcc : ¬ (D.2 0 ≤ D.2 1 ∨ fgV tx n p < 0 ∨ ¬ fgV tx n p ≤ nI 3) := by
        rw [e2]
        rintro (q | q | q)
        · omega
        · exact nI_pos (by omega) q
        · exact q (nI_le (by omega) (by decide))
      rcases rpl_eq h (i := rt) (pl := p + 1) (lk := D.1 1) (rd := rd) (by omega) rp (by omega) with ⟨h1, h2⟩ | ⟨q, lk', rd', h1, h2, h3, h4, h5⟩
      · have en : mRp tx' n p rt rp kd rd = none := by rw [mRp, if_neg hcm, h2]
        rw [en]
        exact IR_no rfl (by rw [rdP, if_neg hcc, e3, d1, d2, h1])
      · have e59 := tk_eq h q (c := nI 59) (by decide) (by decide)
        have er : rdP tx n p D = some (q, upA (upA D.1 0 (upd (D.1 0) rt (nI v))) 1 lk', updN D.2 1 (rt + 1)) := by rw [rdP, if_neg hcc, e3, d1, d2, h1, e2]
        by_cases s : mLt tx' n q = nI 59
        · have en : mRp tx' n p rt rp kd rd = some (q + 1, upd kd rt (nI v), rd') := by
            rw [mRp, if_neg hcm, h2]; dsimp only; rw [if_pos s, e1, pk_sub (by omega), show 48 + v - 48 = v by omega]
          rw [en]
          refine Or.inr ⟨_, _, er, by rw [e59]; exact decide_eq_true s, rfl, rfl, ?_⟩
          refine ⟨rfl, d1, rfl, d3, d4, d5, fun i hi => ?_, fun i j hi hj => ?_, fun d hd => ?_, d9, fun k hk => ?_⟩
          · show upd (D.1 0) rt (nI v) i = upd kd rt (nI v) i ∧ kR (upd kd rt (nI v) i)
            by_cases e : i = rt
            · subst e
              rw [pk_us, pk_us]
              refine ⟨rfl, ?_⟩
              rcases (by omega : v = 0 ∨ v = 1 ∨ v = 2 ∨ v = 3) with rfl | rfl | rfl | rfl
              · exact Or.inl rfl
              · exact Or.inr (Or.inl rfl)
              · exact Or.inr (Or.inr (Or.inl rfl))
              · exact Or.inr (Or.inr (Or.inr rfl))
            · rw [pk_un e, pk_un e]; exact d6 i (by omega)
          · show lk' (i * 8 + j) = rd' ((1 + (8 * i)) + j) ∧ inB (rd' ((1 + (8 * i)) + j)) (nI 0) (nI 9) = true
            by_cases e : i = rt
            · subst e; exact h3 j hj
            · obtain ⟨g1, g2⟩ := h4 i j (by omega) (by omega)
              rw [g1, g2]; exact d7 i j (by omega) hj
          · show D.1 2 d = hs d ∧ D.1 3 d = rd' (65 + d)
            rw [h5 _ (by omega)]; exact d8 d hd
          · show rd' k = nI 0
            rw [h5 k (by omega)]; exact d10 k hk
        · have en : mRp tx' n p rt rp kd rd = none := by rw [mRp, if_neg hcm, h2]; dsimp only; rw [if_neg s]
          rw [en]
          refine Or.inl ⟨rfl, fun q2 hq => ?_⟩
          rw [er] at hq
          cases hq
          rw [e59]; exact decide_eq_false s
theorem it_step {n : Nat} {tx tx' : Nat → Int32} (h : TR n tx tx') {oc p : Nat} (hp : p < n) {D : DV} {M : MDV} (hM : MOK M) (hD : DRl oc D M) : IR tx n (rdY tx n oc (p + 1) D (sgn tx n p)) (mIt tx' n p M) (ocY oc (sgn tx n p)) := by
  obtain ⟨bg, rp, rt, rdn, rw_, rb, kd, hs, pt, rd⟩ := M
  rw [sg_lt h hp, rdY, ocY]
  show IR tx n _ (if mLt tx' n p = nI 110 then (match mRn tx' n (p + 1) bg with | some q => some (q.1, bg, q.2.toNatClampNeg, rt, rdn, rw_, rb, kd, hs, pt, rd) | none => none)
    else if mLt tx' n p = nI 98 then (match mRb tx' n (p + 1) with | some q => some (q.1, 1, rp, rt, rdn, rw_, q.2.toNatClampNeg, kd, hs, pt, rd) | none => none)
    else if mLt tx' n p = nI 100 then (match mRd tx' n (p + 1) rdn rp hs rd with | some q => some (q.1, 1, rp, rt, rdn + 1, rw_, rb, kd, q.2.1, pt, q.2.2) | none => none)
    else if mLt tx' n p = nI 112 then (match mRp tx' n (p + 1) rt rp kd rd with | some q => some (q.1, 1, rp, rt + 1, rdn, rw_, rb, q.2.1, hs, pt, q.2.2) | none => none)
    else if mLt tx' n p = nI 119 then (match mRw tx' n (p + 1) rw_ pt with | some q => some (q.1, 1, rp, rt, rdn, rw_ + 1, rb, kd, hs, q.2, rd) | none => none)
    else none) _
  generalize mLt tx' n p = c
  by_cases c1 : c = nI 110
  · subst c1
    rw [if_neg (by decide), if_neg (by decide), if_pos rfl, if_pos rfl, if_pos rfl]
    exact ir_n h hM hD
  · rw [if_neg c1, if_neg c1, if_neg c1]
    by_cases c2 : c = nI 98
    · rw [if_pos c2, if_pos c2]; exact ir_b h hD
    · rw [if_neg c2, if_neg c2]
      by_cases c3 : c = nI 100
      · rw [if_pos c3, if_pos c3]; exact ir_d h hM hD
      · rw [if_neg c3, if_neg c3]
        by_cases c4 : c = nI 112
        · rw [if_pos c4, if_pos c4]; exact ir_p h hM hD
        · rw [if_neg c4, if_neg c4]
          by_cases c5 : c = nI 119
          · rw [if_pos c5, if_pos c5]; exact ir_w h hM hD
          · rw [if_neg c5, if_neg c5]; exact IR_no rfl rfl
theorem ff_eq {n : Nat} {tx tx' : Nat → Int32} (h : TR n tx tx') (hn : n ≤ 200) : ∀ f p oc D M, MOK M → DRl oc D M → (ff tx n f p oc D).1 = (mff tx' n f p M).1 ∧ ((ff tx n f p oc D).1 = -4 → MOK (mff tx' n f p M).2 ∧ ∃ oc', DRl oc' (ff tx n f p oc D).2 (mff tx' n f p M).2)
  | 0, p, oc, D, M, hM, hD => ⟨rfl, fun _ => ⟨hM, oc, hD⟩⟩
  | f + 1, p, oc, D, M, hM, hD => by
    rw [ff, mff]
    by_cases c : n ≤ p
    · rw [if_pos c, if_pos c]; exact ⟨rfl, fun _ => ⟨hM, oc, hD⟩⟩
    · rw [if_neg c, if_neg c]
      rcases it_step h (show p < n by omega) hM hD with ⟨e2, e1⟩ | ⟨q, r, e1, t, e2, er, hD'⟩
      · rw [e2]
        cases e : rdY tx n oc (p + 1) D (sgn tx n p) with
        | none => exact ⟨rfl, fun q => absurd q (nI_nm4 (by omega))⟩
        | some q =>
          dsimp only
          rw [if_neg (by rw [e1 q e]; decide)]
          exact ⟨rfl, fun q => absurd q (nI_nm4 (by omega))⟩
      · have hM' : MOK r.2 := mIt_ok hM e2
        rw [e1, e2]
        dsimp only
        rw [if_pos t, er]
        exact ff_eq h hn f (q.1 + 1) _ q.2 r.2 hM' hD'
