
def mRn (tx : Nat → Int32) (n p bg : Nat) : Option (Nat × Int32) := if bg = 0 then (match mN1 tx n p with | some q => if inB q.2 (nI 2) (nI 8) = true then some q else none | none => none) else none
def mRl (tx : Nat → Int32) (n rt p : Nat) (rd : Nat → Int32) : Nat → Option (Nat × (Nat → Int32))
  | 0 => some (p, rd)
  | j + 1 => match mRl tx n rt p rd j with
    | none => none
    | some q => if mFg tx n q.1 = true then some (q.1 + 1, upd q.2 ((1 + (8 * rt)) + j) (mLt tx n q.1 - nI 48)) else none
theorem mRl_none {tx : Nat → Int32} {n i pl : Nat} {lk : Nat → Int32} {j : Nat} (h : mRl tx n i pl lk j = none) : ∀ k, mRl tx n i pl lk (j + k) = none
  | 0 => h
  | k + 1 => by rw [← Nat.add_assoc, mRl, mRl_none h k]
def mRp (tx : Nat → Int32) (n p rt rp : Nat) (kd rd : Nat → Int32) : Option (Nat × (Nat → Int32) × (Nat → Int32)) := if rt = rp ∨ inB (mLt tx n p) (nI 48) (nI 51) = false then none else match mRl tx n rt (p + 1) rd rp with | none => none | some q => if mLt tx n q.1 = nI 59 then some (q.1 + 1, upd kd rt (mLt tx n p - nI 48), q.2) else none
def mRd (tx : Nat → Int32) (n p rdn rp : Nat) (hs rd : Nat → Int32) : Option (Nat × (Nat → Int32) × (Nat → Int32)) := if rdn = 5 then none else match mN2 tx n p with | none => none | some q => if inPb rp q.2.1 = true ∧ inPb rp q.2.2 = true then some (q.1, upd hs rdn q.2.1, upd rd (65 + rdn) q.2.2) else none
def mRw (tx : Nat → Int32) (n p rw_ : Nat) (pt : Nat → Int32) : Option (Nat × (Nat → Int32)) := if rw_ = 6 then none else match mN1 tx n p with | none => none | some q => if inB q.2 (nI 1) (nI 60) = true then some (q.1, upd pt rw_ q.2) else none
def mRb (tx : Nat → Int32) (n p : Nat) : Option (Nat × Int32) := match mN1 tx n p with | some q => if inB q.2 (nI 1) (nI 9) = true then some q else none | none => none
abbrev MDV : Type := Nat × Nat × Nat × Nat × Nat × Nat × (Nat → Int32) × (Nat → Int32) × (Nat → Int32) × (Nat → Int32)
def mIt (tx : Nat → Int32) (n p : Nat) : MDV → Option (Nat × MDV)
  | (bg, rp, rt, rdn, rw_, rb, kd, hs, pt, rd) =>
    if mLt tx n p = nI 110 then (match mRn tx n (p + 1) bg with | some q => some (q.1, bg, q.2.toNatClampNeg, rt, rdn, rw_, rb, kd, hs, pt, rd) | none => none)
    else if mLt tx n p = nI 98 then (match mRb tx n (p + 1) with | some q => some (q.1, 1, rp, rt, rdn, rw_, q.2.toNatClampNeg, kd, hs, pt, rd) | none => none)
    else if mLt tx n p = nI 100 then (match mRd tx n (p + 1) rdn rp hs rd with | some q => some (q.1, 1, rp, rt, rdn + 1, rw_, rb, kd, q.2.1, pt, q.2.2) | none => none)
    else if mLt tx n p = nI 112 then (match mRp tx n (p + 1) rt rp kd rd with | some q => some (q.1, 1, rp, rt + 1, rdn, rw_, rb, q.2.1, hs, pt, q.2.2) | none => none)
    else if mLt tx n p = nI 119 then (match mRw tx n (p + 1) rw_ pt with | some q => some (q.1, 1, rp, rt, rdn, rw_ + 1, rb, kd, hs, q.2, rd) | none => none)
    else none
def mff (tx : Nat → Int32) (n : Nat) : Nat → Nat → MDV → Int32 × MDV
  | 0, _, D => (-4, D)
  | f + 1, p, D => if n ≤ p then (-4, D) else match mIt tx n p D with
    | none => (nI p, D)
    | some q => mff tx n f q.1 q.2
def mD (sc : Nat → Nat) (ar : Nat → Nat → Int32) : MDV := (sc 18, sc 19, sc 20, sc 22, sc 24, sc 26, ar 21, ar 23, ar 25, ar 27)
def mD0 (ar : Nat → Nat → Int32) : MDV := (0, 4, 0, 0, 0, 3, ar 21, ar 23, ar 25, zF)
/-- what holds of a draft all along -/
def MOK : MDV → Prop
  | (bg, rp, rt, rdn, rw_, rb, _, hs, pt, rd) => bg ≤ 1 ∧ (2 ≤ rp ∧ rp ≤ 8) ∧ rt ≤ rp ∧ rdn ≤ 5 ∧ rw_ ≤ 6 ∧ rb ≤ 9 ∧ (bg = 0 → rt = 0 ∧ rdn = 0) ∧ hsOk hs rp rdn ∧ hsOk (fun d => rd (65 + d)) rp rdn ∧ ptOk pt rw_
theorem inB_pos {x hi : Int32} {k : Nat} (hk : k < 2 ^ 31) (h : inB x (nI k) hi = true) : ¬ x < 0 := by
  have h2 : ¬ x < nI k ∧ x ≤ hi := by simpa [inB] using h
  exact pos_of_lt hk h2.1
theorem inB_cl {x : Int32} {k n : Nat} (h : inB x (nI k) (nI n) = true) (hk : k < 2 ^ 31) (hn : n < 2 ^ 31) : k ≤ x.toNatClampNeg ∧ x.toNatClampNeg ≤ n := by
  obtain ⟨i, hi, rfl⟩ := inB_rng h hk hn
  rw [nI_clamp (by omega)]
  exact hi
theorem mIn_lt {tx : Nat → Int32} {n k : Nat} {hi : Int32} (h : inB (mLt tx n k) (nI 48) hi = true) : k < n := by
  rcases Nat.lt_or_ge k n with q | q
  · exact q
  · have h2 : ¬ mLt tx n k < nI 48 ∧ mLt tx n k ≤ hi := by simpa [inB] using h
    rw [mLt, if_pos q] at h2
    exact absurd (by decide) h2.1
theorem mNp_le {tx : Nat → Int32} {n p : Nat} (h : p < n) : p < mNp tx n p ∧ mNp tx n p ≤ n := by
  rw [mNp]
  split
  · rename_i c; have := mFg_lt c; omega
  · omega
theorem mN1_pos {tx : Nat → Int32} {n p : Nat} {q : Nat × Int32} (h : mN1 tx n p = some q) : p < q.1 ∧ q.1 ≤ n := by
  rw [mN1] at h
  split at h
  · rename_i c; cases h
    have h1 := mNp_le (tx := tx) (mFg_lt c.1)
    have h2 := mLt_lt c.2 (by decide)
    exact ⟨by show p < mNp tx n p + 1; omega, by show mNp tx n p + 1 ≤ n; omega⟩
  · cases h
theorem mN2_pos {tx : Nat → Int32} {n p : Nat} {q : Nat × Int32 × Int32} (h : mN2 tx n p = some q) : p < q.1 ∧ q.1 ≤ n := by
  rw [mN2] at h
  split at h
  · rename_i c; cases h
    have h1 := mNp_le (tx := tx) (mFg_lt c.1)
    have h2 := mLt_lt c.2.1 (by decide)
    have h3 := mNp_le (tx := tx) (mFg_lt c.2.2.1)
    have h4 := mLt_lt c.2.2.2 (by decide)
    exact ⟨by show p < mNp tx n (mNp tx n p + 1) + 1; omega, by show mNp tx n (mNp tx n p + 1) + 1 ≤ n; omega⟩
  · cases h
theorem mRl_pos {tx : Nat → Int32} {n rt p : Nat} {rd : Nat → Int32} : ∀ j q, mRl tx n rt p rd j = some q → p ≤ q.1
  | 0, q, h => by rw [mRl] at h; cases h; exact Nat.le_refl _
  | j + 1, q, h => by
    rw [mRl] at h
    split at h
    · cases h
    · rename_i q0 h0
      split at h
      · cases h; have := mRl_pos j q0 h0; show p ≤ q0.1 + 1; omega
      · cases h
theorem mIt_pos {tx : Nat → Int32} {n p : Nat} {D : MDV} {q : Nat × MDV} (h : mIt tx n p D = some q) : p < q.1 ∧ q.1 ≤ n := by
  obtain ⟨bg, rp, rt, rdn, rw_, rb, kd, hs, pt, rd⟩ := D
  simp only [mIt] at h
  split at h
  · split at h
    · rename_i r hr; cases h
      rw [mRn] at hr
      split at hr
      · split at hr
        · rename_i r2 h2
          split at hr
          · cases hr; have := mN1_pos h2; exact ⟨by show p < r.1; omega, this.2⟩
          · cases hr
        · cases hr
      · cases hr
    · cases h
  · split at h
    · split at h
      · rename_i r hr; cases h
        rw [mRb] at hr
        split at hr
        · rename_i r2 h2
          split at hr
          · cases hr; have := mN1_pos h2; exact ⟨by show p < r.1; omega, this.2⟩
          · cases hr
        · cases hr
      · cases h
    · split at h
      · split at h
        · rename_i r hr; cases h
          rw [mRd] at hr
          split at hr
          · cases hr
          · split at hr
            · cases hr
            · rename_i r2 h2
              split at hr
              · cases hr; have := mN2_pos h2; exact ⟨by show p < r2.1; omega, this.2⟩
              · cases hr
        · cases h
      · split at h
        · split at h
          · rename_i r hr; cases h
            rw [mRp] at hr
            split at hr
            · cases hr
            · split at hr
              · cases hr
              · rename_i r2 h2
                split at hr
                · rename_i c; cases hr
                  have h3 := mRl_pos _ _ h2
                  have h4 := mLt_lt c (by decide)
                  exact ⟨by show p < r2.1 + 1; omega, by show r2.1 + 1 ≤ n; omega⟩
                · cases hr
          · cases h
        · split at h
          · split at h
            · rename_i r hr; cases h
              rw [mRw] at hr
              split at hr
              · cases hr
              · split at hr
                · cases hr
                · rename_i r2 h2
                  split at hr
                  · cases hr; have := mN1_pos h2; exact ⟨by show p < r2.1; omega, this.2⟩
                  · cases hr
            · cases h
          · cases h
theorem mff_fuel {tx : Nat → Int32} {n : Nat} : ∀ f f' p D, n - p ≤ f → n - p ≤ f' → mff tx n f p D = mff tx n f' p D
  | 0, 0, p, D, _, _ => rfl
  | 0, f' + 1, p, D, h, _ => by rw [mff, mff, if_pos (by omega)]
  | f + 1, 0, p, D, _, h => by rw [mff, mff, if_pos (by omega)]
  | f + 1, f' + 1, p, D, h, h' => by
    rw [mff, mff]
    split
    · rfl
    · split
      · rfl
      · rename_i q hq
        have := mIt_pos hq
        exact mff_fuel f f' q.1 q.2 (by omega) (by omega)
theorem hsOk_up {hs : Nat → Int32} {P D : Nat} {v : Int32} (h : hsOk hs P D) (hv : inPb P v = true) : hsOk (upd hs D v) P (D + 1) := fun d hd => by
  by_cases e : d = D
  · subst e; rw [pk_us]; exact hv
  · rw [pk_un e]; exact h d (by omega)
theorem ptOk_up {pt : Nat → Int32} {W : Nat} {v : Int32} (h : ptOk pt W) (hv : inB v (nI 1) (nI 60) = true) : ptOk (upd pt W v) (W + 1) := fun w hw => by
  by_cases e : w = W
  · subst e; rw [pk_us]; have := inB_cl hv (by decide) (by decide); exact ⟨inB_pos (by decide) hv, this.1, this.2⟩
  · rw [pk_un e]; exact h w (by omega)
theorem mRl_out {tx : Nat → Int32} {n rt p : Nat} {rd : Nat → Int32} (hrt : rt < 8) : ∀ j q, j ≤ 8 → mRl tx n rt p rd j = some q → ∀ k, 65 ≤ k → q.2 k = rd k
  | 0, q, _, h, k, hk => by rw [mRl] at h; cases h; rfl
  | j + 1, q, hj, h, k, hk => by
    rw [mRl] at h
    split at h
    · cases h
    · rename_i q0 h0
      split at h
      · cases h
        show upd q0.2 ((1 + (8 * rt)) + j) (mLt tx n q0.1 - nI 48) k = rd k
        rw [pk_un (by omega)]
        exact mRl_out hrt j q0 (by omega) h0 k hk
      · cases h
theorem mIt_ok {tx : Nat → Int32} {n p : Nat} {D : MDV} {q : Nat × MDV} (hD : MOK D) (h : mIt tx n p D = some q) : MOK q.2 := by
  obtain ⟨bg, rp, rt, rdn, rw_, rb, kd, hs, pt, rd⟩ := D
  obtain ⟨h0, h1, h2, h3, h4, h4b, h5, h6, h7, h8⟩ := hD
  simp only [mIt] at h
  split at h
  · split at h
    · rename_i r hr; cases h
      rw [mRn] at hr
      split at hr
      · rename_i c0
        split at hr
        · rename_i r2 hr2
          split at hr
          · rename_i c; cases hr
            obtain ⟨e1, e2⟩ := h5 c0
            have := inB_cl c (by decide) (by decide)
            subst e1; subst e2
            exact ⟨h0, this, Nat.zero_le _, h3, h4, h4b, fun _ => ⟨rfl, rfl⟩, fun d hd => absurd hd (Nat.not_lt_zero d), fun d hd => absurd hd (Nat.not_lt_zero d), h8⟩
          · cases hr
        · cases hr
      · cases hr
    · cases h
  · split at h
    · split at h
      · rename_i r hr; cases h
        rw [mRb] at hr
        split at hr
        · rename_i r2 hr2
          split at hr
          · rename_i c; cases hr
            have := inB_cl c (by decide) (by decide)
            exact ⟨Nat.le_refl 1, h1, h2, h3, h4, this.2, fun e => absurd e (by decide), h6, h7, h8⟩
          · cases hr
        · cases hr
      · cases h
    · split at h
      · split at h
        · rename_i r hr; cases h
          rw [mRd] at hr
          split at hr
          · cases hr
          · rename_i c5
            split at hr
            · cases hr
            · rename_i r2 hr2
              split at hr
              · rename_i c; cases hr
                refine ⟨Nat.le_refl 1, h1, h2, by omega, h4, h4b, fun e => absurd e (by decide), hsOk_up h6 c.1, fun d hd => ?_, h8⟩
                by_cases e : d = rdn
                · subst e; show inPb rp (upd rd (65 + d) r2.2.2 (65 + d)) = true; rw [pk_us]; exact c.2
                · show inPb rp (upd rd (65 + rdn) r2.2.2 (65 + d)) = true; rw [pk_un (by omega)]; exact h7 d (by omega)
              · cases hr
        · cases h
      · split at h
        · split at h
          · rename_i r hr; cases h
            rw [mRp] at hr
            split at hr
            · cases hr
            · rename_i c0
              split at hr
              · cases hr
              · rename_i r2 hr2
                split at hr
                · cases hr
                  have c1 : ¬ rt = rp := fun e => c0 (Or.inl e)
                  refine ⟨Nat.le_refl 1, h1, by omega, h3, h4, h4b, fun e => absurd e (by decide), h6, fun d hd => ?_, h8⟩
                  show inPb rp (r2.2 (65 + d)) = true
                  rw [mRl_out (by omega) rp r2 (by omega) hr2 (65 + d) (by omega)]
                  exact h7 d hd
                · cases hr
          · cases h
        · split at h
          · split at h
            · rename_i r hr; cases h
              rw [mRw] at hr
              split at hr
              · cases hr
              · rename_i c6
                split at hr
                · cases hr
                · rename_i r2 hr2
                  split at hr
                  · rename_i c; cases hr
                    exact ⟨Nat.le_refl 1, h1, h2, h3, by omega, h4b, fun e => absurd e (by decide), h6, h7, ptOk_up h8 c⟩
                  · cases hr
            · cases h
          · cases h
