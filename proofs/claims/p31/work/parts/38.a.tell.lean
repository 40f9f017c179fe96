/-! the two ways of telling are one -/
theorem bor {a b : Bool} (h : (a || b) = true) : a = true ∨ b = true := by
  cases a
  · exact Or.inr h
  · exact Or.inl rfl
theorem band {a b : Bool} (h : (a && b) = true) : a = true ∧ b = true := by
  cases a
  · cases h
  · exact ⟨rfl, h⟩
theorem bt_not {x : Int32} {j : Nat} (h : j < 32) : bt (x ^^^ (-1)) j = !bt x j := by
  rw [b_xor, b_m1 j h]
  cases bt x j <;> rfl
theorem allB_bt : ∀ P, P < 9 → ∀ j, j < 32 → bt (allB P) j = decide (j < P) := by decide +kernel
theorem z_or (x : Int32) : nI 0 ||| x = x := b_ext (fun i _ => by rw [b_or, bt_nI0, Bool.false_or])
theorem or_z (x : Int32) : x ||| nI 0 = x := b_ext (fun i _ => by rw [b_or, bt_nI0, Bool.or_false])
theorem or_as (x y z : Int32) : x ||| y ||| z = x ||| (y ||| z) := b_ext (fun i _ => by rw [b_or, b_or, b_or, b_or, Bool.or_assoc])
theorem le0_lt1 (x : Int32) : x ≤ nI 0 ↔ x < nI 1 := by
  rw [Int32.le_iff_toInt_le, Int32.lt_iff_toInt_lt, nI_toInt (by decide), nI_toInt (by decide)]
  omega
def kR (x : Int32) : Prop := x = nI 0 ∨ x = nI 1 ∨ x = nI 2 ∨ x = nI 3
def LkR (P : Nat) (lk nw : Nat → Int32) : Prop := ∀ i j, i < P → j < P → lk (i * 8 + j) = nw ((1 + (8 * i)) + j)
theorem de_dO {lk nw : Nat → Int32} {i P : Nat} {th sm : Int32} (hP : P ≤ 8) (hL : ∀ j, j < P → lk (i * 8 + j) = nw ((1 + (8 * i)) + j)) (hb : ∀ j, j < P → hasB th (nI j) = (!decide (j = i) && hasB sm (nI j))) :
    ∀ j, j ≤ P → (mDe nw i sm (nI 1) j = -4 ∧ dO lk i th j = (nI 0, nI 0)) ∨ ∃ k, k < j ∧ mDe nw i sm (nI 1) j = nI k ∧ dO lk i th j = (nI 1 <<< (nI k &&& 31), lk (i * 8 + k)) ∧ ¬ lk (i * 8 + k) < nI 1
  | 0, _ => Or.inl ⟨rfl, rfl⟩
  | j + 1, hj => by
    have ih := de_dO hP hL hb j (by omega)
    have e1 := hL j (by omega)
    have e2 := hb j (by omega)
    rw [mDe, dO, e2, ← e1]
    rcases ih with ⟨h1, h2⟩ | ⟨k, hk, h1, h2, h3⟩
    · rw [h1, h2]
      by_cases c : (¬ j = i ∧ hasB sm (nI j) = true) ∧ ¬ lk (i * 8 + j) < nI 1
      · refine Or.inr ⟨j, Nat.lt_succ_self j, ?_, ?_, c.2⟩
        · rw [if_pos (by exact ⟨c.1.1, c.1.2, c.2, Or.inl (by decide)⟩)]
        · rw [if_pos (by exact ⟨by simp [c.1.1, c.1.2], fun q => c.2 ((le0_lt1 _).mp q)⟩)]
      · refine Or.inl ⟨?_, ?_⟩
        · rw [if_neg (by intro q; exact c ⟨⟨q.1, q.2.1⟩, q.2.2.1⟩)]
        · rw [if_neg (by intro q; exact c ⟨by simpa using q.1, fun z => q.2 ((le0_lt1 _).mpr z)⟩)]
    · have hkn : ¬ nI k < 0 := nI_pos (by omega)
      have hcl : (nI k).toNatClampNeg = k := nI_clamp (by omega)
      rw [h1, h2, hcl, ← hL k (by omega)]
      by_cases c : (¬ j = i ∧ hasB sm (nI j) = true) ∧ ¬ lk (i * 8 + j) ≤ lk (i * 8 + k)
      · have hp : ¬ lk (i * 8 + j) < nI 1 := fun q => h3 (Int32.lt_trans (Int32.not_le.mp c.2) q)
        refine Or.inr ⟨j, Nat.lt_succ_self j, ?_, ?_, hp⟩
        · rw [if_pos (by exact ⟨c.1.1, c.1.2, hp, Or.inr c.2⟩)]
        · rw [if_pos (by exact ⟨by simp [c.1.1, c.1.2], c.2⟩)]
      · refine Or.inr ⟨k, by omega, ?_, ?_, h3⟩
        · rw [if_neg (by intro q; exact c ⟨⟨q.1, q.2.1⟩, q.2.2.2.resolve_left hkn⟩)]
        · rw [if_neg (by intro q; exact c ⟨by simpa using q.1, q.2⟩)]
theorem de_eq {lk nw : Nat → Int32} {i P : Nat} {th sm : Int32} (hP : P ≤ 8) (hL : ∀ j, j < P → lk (i * 8 + j) = nw ((1 + (8 * i)) + j)) (hb : ∀ j, j < P → hasB th (nI j) = (!decide (j = i) && hasB sm (nI j))) : mBit (mDe nw i sm (nI 1) P) = (dO lk i th P).1 := by
  rcases de_dO hP hL hb P (Nat.le_refl P) with ⟨h1, h2⟩ | ⟨k, hk, h1, h2, h3⟩
  · rw [h1, h2]; decide
  · rw [h1, h2, mBit, if_neg (nI_pos (by omega))]
theorem dO_bit {lk : Nat → Int32} {i : Nat} {th : Int32} : ∀ j, (dO lk i th j).1 = nI 0 ∨ ∃ k, k < j ∧ hasB th (nI k) = true ∧ (dO lk i th j).1 = nI 1 <<< (nI k &&& 31)
  | 0 => Or.inl rfl
  | j + 1 => by
    rw [dO]
    split
    · rename_i c; exact Or.inr ⟨j, Nat.lt_succ_self j, c.1, rfl⟩
    · rcases dO_bit (lk := lk) (i := i) (th := th) j with h | ⟨k, h1, h2, h3⟩
      · exact Or.inl h
      · exact Or.inr ⟨k, by omega, h2, h3⟩
theorem dOs_bt {lk : Nat → Int32} {P i : Nat} (hP : P ≤ 8) (hi : i < 32) : ∀ t j, bt (dOs lk P i t) j = true → j < P ∧ ¬ j = i
  | 0, j, h => by rw [dOs, bt_nI0] at h; cases h
  | t + 1, j, h => by
    rw [dOs, b_or] at h
    rcases bor h with h | h
    · exact dOs_bt hP hi t j h
    · rcases dO_bit (lk := lk) (i := i) (th := (allB P &&& ((nI 1 <<< (nI i &&& 31)) ^^^ (-1))) &&& (dOs lk P i t ^^^ (-1))) P with q | ⟨k, hk, hb, q⟩
      · rw [q, bt_nI0] at h; cases h
      · rw [q, bt_bit (by omega)] at h
        have e : j = k := of_decide_eq_true h
        subst e
        refine ⟨hk, ?_⟩
        rw [hasB_bt _ _ (by omega), b_and, b_and] at hb
        have h3 := (band (band hb).1).2
        rw [bt_not (by omega), bt_bit hi] at h3
        intro e
        rw [decide_eq_true e] at h3
        cases h3
theorem lkd_bt {lk : Nat → Int32} {i : Nat} {ls : Int32} : ∀ P, P ≤ 8 → ∀ j, bt (lkd lk i ls P) j = (decide (j < P) && (!decide (j = i) && !decide (lk (i * 8 + j) < ls)))
  | 0, _, j => by rw [lkd, bt_nI0]; simp
  | P + 1, hP, j => by
    have ih := lkd_bt (lk := lk) (i := i) (ls := ls) P (by omega) j
    rw [lkd]
    by_cases c : ¬ P = i ∧ ¬ lk (i * 8 + P) < ls
    · rw [if_pos c, b_or, ih, bt_bit (by omega)]
      by_cases e : j = P
      · subst e; simp [c.1, c.2]
      · rw [decide_eq_decide.mpr (show j < P + 1 ↔ j < P by omega), decide_eq_false e, Bool.or_false]
    · rw [if_neg c, ih]
      by_cases e : j = P
      · subst e
        by_cases c1 : j = i
        · simp [c1]
        · have c2 : lk (i * 8 + j) < ls := Classical.byContradiction (fun q => c ⟨c1, q⟩)
          simp [c2]
      · rw [decide_eq_decide.mpr (show j < P + 1 ↔ j < P by omega)]
theorem mDe_some {nw : Nat → Int32} {i : Nat} {sm ls : Int32} : ∀ j, j ≤ 8 → ∀ k, k < 2 ^ 31 → mDe nw i sm ls j = nI k → k < j ∧ ¬ k = i ∧ hasB sm (nI k) = true ∧ ¬ nw ((1 + (8 * i)) + k) < ls
  | 0, _, k, hk, h => absurd h.symm (nI_nm4 hk)
  | j + 1, hj, k, hk, h => by
    rw [mDe] at h
    split at h
    · rename_i c
      have e : j = k := (nI_eq (by omega) hk).mp h
      subst e
      exact ⟨Nat.lt_succ_self j, c.1, c.2.1, c.2.2.1⟩
    · have r := mDe_some j (by omega) k hk h
      exact ⟨by omega, r.2⟩
theorem mDe_none {nw : Nat → Int32} {i : Nat} {sm ls : Int32} : ∀ j, j ≤ 8 → mDe nw i sm ls j = -4 → ∀ k, k < j → ¬ k = i → hasB sm (nI k) = true → nw ((1 + (8 * i)) + k) < ls
  | 0, _, _, k, hk => absurd hk (Nat.not_lt_zero k)
  | j + 1, hj, h, k, hk => by
    rw [mDe] at h
    split at h
    · exact absurd h (nI_nm4 (by omega))
    · rename_i c
      intro h1 h2
      by_cases e : k = j
      · subst e
        exact Classical.byContradiction (fun q => c ⟨h1, h2, q, Or.inl (by rw [h]; decide)⟩)
      · exact mDe_none j (by omega) h k (by omega) h1 h2
def cntB (x : Int32) : Nat → Nat
  | 0 => 0
  | j + 1 => if bt x j = true then cntB x j + 1 else cntB x j
theorem cntB_le (x : Int32) : ∀ j, cntB x j ≤ j
  | 0 => Nat.le_refl 0
  | j + 1 => by have := cntB_le x j; rw [cntB]; split <;> omega
theorem cntB_or {x : Int32} {k : Nat} (hk : k < 32) (hx : bt x k = false) : ∀ j, cntB (x ||| (nI 1 <<< (nI k &&& 31))) j = cntB x j + (if k < j then 1 else 0)
  | 0 => by rw [cntB, cntB, if_neg (Nat.not_lt_zero k)]
  | j + 1 => by
    rw [cntB, cntB, cntB_or hk hx j, b_or, bt_bit hk]
    by_cases e : j = k
    · subst e
      simp [hx]
    · rw [decide_eq_false e, Bool.or_false]
      by_cases q : k < j
      · rw [if_pos q, if_pos (show k < j + 1 by omega)]; split <;> omega
      · rw [if_neg q, if_neg (show ¬ k < j + 1 by omega)]; split <;> omega
theorem tl_true {nw : Nat → Int32} {P i : Nat} {ls : Int32} (hP : P ≤ 8) (hi : i < P) : ∀ k, (∀ j, bt (mTl nw P i ls k) j = true → j = i ∨ (j < P ∧ ¬ j = i ∧ ¬ nw ((1 + (8 * i)) + j) < ls)) ∧ ((∀ j, j < P → ¬ j = i → ¬ nw ((1 + (8 * i)) + j) < ls → bt (mTl nw P i ls k) j = true) ∨ k + 1 ≤ cntB (mTl nw P i ls k) P)
  | 0 => by
    refine ⟨fun j h => ?_, Or.inr ?_⟩
    · rw [mTl, bt_bit (by omega)] at h
      exact Or.inl (of_decide_eq_true h)
    · have h := cntB_or (x := nI 0) (k := i) (by omega) (bt_nI0 i) P
      rw [if_pos hi, z_or] at h
      rw [mTl, h]
      omega
  | k + 1 => by
    obtain ⟨h1, h2⟩ := tl_true (nw := nw) (ls := ls) hP hi k
    rw [mTl]
    generalize mTl nw P i ls k = T at h1 h2 ⊢
    rcases mDe_rng nw i (T ^^^ (-1)) ls P with e | ⟨q, hq, e⟩
    · rw [e, show mBit (-4) = nI 0 by decide, or_z]
      refine ⟨h1, Or.inl (fun j hj hji hl => ?_)⟩
      have n := mDe_none P hP e j hj hji
      rw [hasB_bt _ _ (by omega), bt_not (by omega)] at n
      cases hb : bt T j
      · exact absurd (n (by rw [hb]; rfl)) hl
      · rfl
    · obtain ⟨s1, s2, s3, s4⟩ := mDe_some P hP q (by omega) e
      rw [hasB_bt _ _ (by omega), bt_not (by omega)] at s3
      have hT : bt T q = false := by
        cases hb : bt T q
        · rfl
        · rw [hb] at s3; cases s3
      rw [e, mBit, if_neg (nI_pos (by omega))]
      refine ⟨fun j h => ?_, ?_⟩
      · rw [b_or, bt_bit (by omega)] at h
        rcases bor h with h | h
        · exact h1 j h
        · have ej : j = q := of_decide_eq_true h
          subst ej
          exact Or.inr ⟨hq, s2, s4⟩
      · rcases h2 with h2 | h2
        · exact Or.inl (fun j hj a b => by rw [b_or, h2 j hj a b, Bool.true_or])
        · exact Or.inr (by rw [cntB_or (by omega) hT, if_pos hq]; omega)
theorem tell_true {lk nw : Nat → Int32} {P i : Nat} (hP : P ≤ 8) (hi : i < P) (hL : ∀ j, j < P → lk (i * 8 + j) = nw ((1 + (8 * i)) + j)) : mTl nw P i (nI 8) 8 = (nI 1 <<< (nI i &&& 31)) ||| lkd lk i (nI 8) P := by
  obtain ⟨h1, h2⟩ := tl_true (nw := nw) (ls := nI 8) hP hi 8
  have hi1 := mTl_bit nw P i (nI 8) (by omega) 8
  have h3 : ∀ j, j < P → ¬ j = i → ¬ nw ((1 + (8 * i)) + j) < nI 8 → bt (mTl nw P i (nI 8) 8) j = true := by
    rcases h2 with h2 | h2
    · exact h2
    · exact absurd (cntB_le (mTl nw P i (nI 8) 8) P) (by omega)
  apply b_ext
  intro j hj
  rw [b_or, bt_bit (by omega), lkd_bt P hP]
  cases hb : bt (mTl nw P i (nI 8) 8) j
  · by_cases e : j = i
    · subst e; rw [hi1] at hb; cases hb
    · by_cases p : j < P
      · by_cases l : lk (i * 8 + j) < nI 8
        · simp [e, l]
        · have h4 := h3 j p e (by rw [← hL j p]; exact l)
          rw [hb] at h4
          cases h4
      · simp [e, p]
  · rcases h1 j hb with e | ⟨p, e, l⟩
    · simp [e]
    · rw [← hL j p] at l
      simp [p, e, l]
theorem tl_dOs {lk nw : Nat → Int32} {P i : Nat} (hP : P ≤ 8) (hi : i < P) (hL : ∀ j, j < P → lk (i * 8 + j) = nw ((1 + (8 * i)) + j)) : ∀ t, mTl nw P i (nI 1) t = (nI 1 <<< (nI i &&& 31)) ||| dOs lk P i t
  | 0 => by rw [mTl, dOs, or_z]
  | t + 1 => by
    have ih := tl_dOs hP hi hL t
    have e := de_eq (lk := lk) (nw := nw) (i := i) (P := P) (th := (allB P &&& ((nI 1 <<< (nI i &&& 31)) ^^^ (-1))) &&& (dOs lk P i t ^^^ (-1))) (sm := ((nI 1 <<< (nI i &&& 31)) ||| dOs lk P i t) ^^^ (-1)) hP hL (fun j hj => by
      rw [hasB_bt _ _ (by omega), hasB_bt _ _ (by omega), b_and, b_and, bt_not (by omega), bt_not (by omega), bt_not (by omega), b_or, allB_bt P (by omega) j (by omega), bt_bit (by omega), decide_eq_true hj]
      cases decide (j = i) <;> cases bt (dOs lk P i t) j <;> rfl)
    rw [mTl, ih, e, dOs, or_as]
theorem tell_eq {kd kd' lk nw : Nat → Int32} {P i : Nat} (hP : P ≤ 8) (hi : i < P) (hk : kd i = kd' i) (hr : kR (kd' i)) (hL : ∀ j, j < P → lk (i * 8 + j) = nw ((1 + (8 * i)) + j)) : mTell kd' nw P i = kbc kd lk P (nI i) := by
  rw [kbc, lst, if_neg (nI_pos (by omega)), if_pos (nI_lt hi (by omega)), nI_clamp (by omega), lstN, hk, mTell]
  rcases hr with h | h | h | h <;> rw [h]
  · rw [show mLeast (nI 0) = nI 1 by decide, show mMany (nI 0) = 2 by decide, if_pos rfl]
    exact tl_dOs hP hi hL 2
  · rw [show mLeast (nI 1) = nI 1 by decide, show mMany (nI 1) = 3 by decide, if_neg nne_1_0, if_pos rfl]
    exact tl_dOs hP hi hL 3
  · rw [show mLeast (nI 2) = nI 1 by decide, show mMany (nI 2) = 0 by decide, if_neg nne_2_0, if_neg nne_2_1, if_neg nne_2_3, mTl, or_z]
  · rw [show mLeast (nI 3) = nI 8 by decide, show mMany (nI 3) = 8 by decide, if_neg nne_3_0, if_neg nne_3_1, if_pos rfl]
    exact tell_true hP hi hL
/-- whom he tells, himself left out -/
theorem lst_i {kd lk : Nat → Int32} {P i : Nat} (hP : P ≤ 8) (hi : i < P) : bt (lst kd lk P (nI i)) i = false := by
  rw [lst, if_neg (nI_pos (by omega)), if_pos (nI_lt hi (by omega)), nI_clamp (by omega), lstN]
  have key : ∀ t, bt (dOs lk P i t) i = false := fun t => by
    cases hb : bt (dOs lk P i t) i
    · rfl
    · exact absurd rfl (dOs_bt hP (by omega) t i hb).2
  split
  · exact key 2
  · split
    · exact key 3
    · split
      · rw [lkd_bt P hP]; simp
      · exact bt_nI0 i
theorem day_eq {kd kd' lk nw : Nat → Int32} {P : Nat} {kn : Int32} (hP : P ≤ 8) (hk : ∀ i, i < P → kd i = kd' i) (hL : LkR P lk nw) : mDayV kd' nw P kn P = aDay kd lk P kn := by
  have key : ∀ i, i ≤ P → mDayV kd' nw P kn i = kn ||| aD kd lk P kn i := by
    intro i
    induction i with
    | zero => intro _; rw [mDayV, aD, or_z]
    | succ i ih =>
      intro hi
      rw [mDayV, aD, ih (by omega), hk i (by omega)]
      by_cases c : kd' i = nI 1 ∧ hasB kn (nI i) = true
      · have c2 : hasB kn (nI i) = true ∧ kd' i = nI 1 := ⟨c.2, c.1⟩
        rw [if_pos c, if_pos c2]
        have e := de_eq (lk := lk) (nw := nw) (i := i) (P := P) (th := allB P &&& (kn ^^^ (-1))) (sm := kn ^^^ (-1)) hP (fun j hj => hL i j (by omega) hj) (fun j hj => by
          have hki := c.2
          rw [hasB_bt _ _ (by omega)] at hki
          rw [hasB_bt _ _ (by omega), hasB_bt _ _ (by omega), b_and, allB_bt P (by omega) j (by omega), bt_not (by omega), decide_eq_true hj]
          by_cases e : j = i
          · subst e; rw [hki]; simp
          · simp [e])
        rw [e, or_as]
      · have c2 : ¬ (hasB kn (nI i) = true ∧ kd' i = nI 1) := fun q => c ⟨q.2, q.1⟩
        rw [if_neg c, if_neg c2]
  rw [aDay]
  exact key P (Nat.le_refl P)
/-- only bits of persons -/
def KB (P : Nat) (k : Int32) : Prop := ∀ j, bt k j = true → j < P
theorem KB_0 (P : Nat) : KB P (nI 0) := fun j h => by rw [bt_nI0] at h; cases h
theorem KB_bit {P i : Nat} (hi : i < P) (h : i < 32) : KB P (nI 1 <<< (nI i &&& 31)) := fun j hj => by
  rw [bt_bit h] at hj
  have : j = i := of_decide_eq_true hj
  omega
theorem KB_or {P : Nat} {x y : Int32} (hx : KB P x) (hy : KB P y) : KB P (x ||| y) := fun j h => by
  rw [b_or] at h
  rcases bor h with h | h
  · exact hx j h
  · exact hy j h
theorem KB_de {nw : Nat → Int32} {P i : Nat} {sm ls : Int32} (hP : P ≤ 8) : KB P (mBit (mDe nw i sm ls P)) := by
  rcases mDe_rng nw i sm ls P with e | ⟨k, hk, e⟩
  · rw [e]; exact KB_0 P
  · rw [e, mBit, if_neg (nI_pos (by omega))]; exact KB_bit hk (by omega)
theorem KB_tl {nw : Nat → Int32} {P i : Nat} {ls : Int32} (hP : P ≤ 8) (hi : i < P) : ∀ k, KB P (mTl nw P i ls k)
  | 0 => by rw [mTl]; exact KB_bit hi (by omega)
  | k + 1 => by rw [mTl]; exact KB_or (KB_tl hP hi k) (KB_de hP)
theorem KB_tell {kd nw : Nat → Int32} {P i : Nat} (hP : P ≤ 8) (hi : i < P) : KB P (mTell kd nw P i) := by
  rw [mTell]; exact KB_tl hP hi _
theorem KB_day {kd nw : Nat → Int32} {P : Nat} {kn : Int32} (hP : P ≤ 8) (h : KB P kn) : ∀ i, KB P (mDayV kd nw P kn i)
  | 0 => h
  | i + 1 => by
    rw [mDayV]
    split
    · exact KB_or (KB_day hP h i) (KB_de hP)
    · exact KB_day hP h i
theorem KB_nat {P : Nat} {x : Int32} (hP : P ≤ 8) (h : KB P x) : ∃ n, n < 256 ∧ x = nI n := by
  refine ⟨x.toBitVec.toNat, ?_, ?_⟩
  · have h8 : x.toBitVec.toNat < 2 ^ 8 := Nat.lt_pow_two_of_testBit _ (fun i hi => by
      cases hb : bt x i
      · exact hb
      · have := h i hb; omega)
    exact h8
  · apply Int32.toBitVec_inj.mp
    show x.toBitVec = BitVec.ofNat 32 x.toBitVec.toNat
    simp
theorem bc8 : ∀ n, n < 256 → bcI (nI n) = mBits (nI n) 8 := by decide +kernel
theorem bc8m : ∀ i, i < 8 → ∀ n, n < 256 → bt (nI n) i = false → mBits ((nI 1 <<< (nI i &&& 31)) ||| nI n) 8 - nI 1 = bcI (nI n) := by decide +kernel
theorem lo8 : ∀ n, n < 256 → ¬ n = 0 → lwI (nI n) = nI (loL (nI n) 8 0) := by decide +kernel
theorem bc_eq {P : Nat} {x : Int32} (hP : P ≤ 8) (h : KB P x) : bcI x = mBits x 8 := by
  obtain ⟨n, hn, rfl⟩ := KB_nat hP h
  exact bc8 n hn
theorem lo_eq {P : Nat} {x : Int32} (hP : P ≤ 8) (h : KB P x) (h0 : ¬ x = nI 0) : lwI x = nI (loL x 8 0) := by
  obtain ⟨n, hn, rfl⟩ := KB_nat hP h
  exact lo8 n hn (fun e => h0 (by rw [e]))
