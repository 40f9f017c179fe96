/-! days, calls, what can be undone: the class's state and the model's row -/
def KdR (P : Nat) (kd kd' : Nat → Int32) : Prop := ∀ i, i < P → kd i = kd' i ∧ kR (kd' i)
theorem LkR_up {P : Nat} {lk st : Nat → Int32} {k : Nat} {v : Int32} (hP : P ≤ 8) (h : LkR P lk st) (hk : k = 0 ∨ 65 ≤ k) : LkR P lk (upd st k v) := fun i j hi hj => by
  rw [pk_un (by omega)]; exact h i j hi hj
theorem callW {kd kd' lk st : Nat → Int32} {P i d : Nat} (hP : P ≤ 8) (hi : i < P) (hk : KdR P kd kd') (hL : LkR P lk st) : mCallW kd' P st i d = upd (upd st (65 + d) (nI i)) (70 + d) (kbc kd lk P (nI i)) := by
  rw [mCallW, tell_eq (kd := kd) (lk := lk) hP hi (hk i hi).1 (hk i hi).2 (fun j hj => by rw [pk_un (by omega)]; exact hL i j hi hj)]
theorem callW_L {kd' lk st : Nat → Int32} {P i d : Nat} (hP : P ≤ 8) (hL : LkR P lk st) : LkR P lk (mCallW kd' P st i d) := by
  rw [mCallW]; exact LkR_up hP (LkR_up hP hL (by omega)) (by omega)
theorem dayA {kd kd' lk st : Nat → Int32} {P d : Nat} (hP : P ≤ 8) (hk : KdR P kd kd') (hL : LkR P lk st) : mDayA kd' P d st = upd st (70 + d) (aDay kd lk P (st (70 + d))) := by
  rw [mDayA, day_eq hP (fun i hi => (hk i hi).1) hL]
theorem dayA_L {kd' lk st : Nat → Int32} {P d : Nat} (hP : P ≤ 8) (hL : LkR P lk st) : LkR P lk (mDayA kd' P d st) := by
  rw [mDayA]; exact LkR_up hP hL (by omega)
theorem knB {kd kd' lk st : Nat → Int32} {P d : Nat} (hP : P ≤ 8) (hk : KdR P kd kd') (hL : LkR P lk st) : ∀ n, LkR P lk (mKnB kd' P d st n) ∧ mKnB kd' P d st n (70 + d) = aDs kd lk P (st (70 + d)) n
  | 0 => ⟨hL, rfl⟩
  | n + 1 => by
    obtain ⟨h1, h2⟩ := knB (d := d) hP hk hL n
    rw [mKnB]
    refine ⟨dayA_L hP h1, ?_⟩
    rw [dayA hP hk h1, pk_us, aDs, h2]
theorem wh_eq {kd kd' lk : Nat → Int32} {P d : Nat} {iv : Int32} (hP : P ≤ 8) (hk : KdR P kd kd') : ∀ f n st, LkR P lk st → mWh kd' P d iv f n st = whL kd lk P iv f n (st (70 + d))
  | 0, _, _, _ => rfl
  | f + 1, n, st, hL => by
    rw [mWh, whL]
    by_cases c : hasB (st (70 + d)) iv = true
    · rw [if_pos c, if_pos c]
    · rw [if_neg c, if_neg c, wh_eq hP hk f (n + 1) _ (dayA_L hP hL), dayA hP hk hL, pk_us]
theorem lets_eq {kd kd' lk st : Nat → Int32} {P d n : Nat} {hv : Int32} (hP : P ≤ 8) (hk : KdR P kd kd') (hL : LkR P lk st) : ∀ c, c ≤ P → mLets kd' P st hv d n c = cwr kd lk P hv n c
  | 0, _ => rfl
  | c + 1, hc => by
    have e := (knB (kd := kd) (lk := lk) (d := d) (st := mCallW kd' P st c d) hP hk (callW_L hP hL) n).2
    rw [callW (kd := kd) (lk := lk) hP (by omega) hk hL, pk_us] at e
    rw [mLets, cwr, lets_eq hP hk hL c (by omega), callW (kd := kd) (lk := lk) hP (by omega) hk hL, e]
    by_cases q : hasB (aDs kd lk P (kbc kd lk P (nI c)) n) hv = true
    · rw [if_pos q, if_pos q]
    · rw [if_neg q, if_neg q, or_z]
theorem KB_lets {kd' st : Nat → Int32} {P d n : Nat} {hv : Int32} (hP : P ≤ 8) : ∀ c, c ≤ P → KB P (mLets kd' P st hv d n c)
  | 0, _ => KB_0 P
  | c + 1, hc => by
    rw [mLets]
    refine KB_or (KB_lets hP c (by omega)) ?_
    split
    · exact KB_bit (by omega) (by omega)
    · exact KB_0 P
theorem reN_eq {a d : Nat} (h : 0 < d) : reN a d = a % d := by rw [reN, if_neg (by omega)]
theorem quN_eq {a d : Nat} (h : 0 < d) : quN a d = a / d := by rw [quN, if_neg (by omega)]
theorem lkl_eq {kd kd' lk st : Nat → Int32} {P d way : Nat} (hP : P ≤ 8) (h0 : 0 < P) (hk : KdR P kd kd') (hL : LkR P lk st) : ∀ t, LkR P lk (mLkl kd' P d st way t).1 ∧ (mLkl kd' P d st way t).1 (70 + d) = (kbv kd lk P (st (70 + d)) way t).1 ∧ (mLkl kd' P d st way t).2 = (kbv kd lk P (st (70 + d)) way t).2
  | 0 => ⟨hL, rfl, rfl⟩
  | t + 1 => by
    obtain ⟨h1, h2, h3⟩ := lkl_eq (d := d) (way := way) hP h0 hk hL t
    have hm := Nat.mod_lt (kbv kd lk P (st (70 + d)) way t).2 h0
    rw [mLkl, kbv, h2, h3, reN_eq h0, quN_eq h0]
    dsimp only
    by_cases c : hasB (kbv kd lk P (st (70 + d)) way t).1 (nI ((kbv kd lk P (st (70 + d)) way t).2 % P)) = true
    · rw [if_pos c, if_pos c]
      refine ⟨dayA_L hP (callW_L hP h1), ?_, rfl⟩
      rw [dayA hP hk (callW_L hP h1), pk_us, callW (kd := kd) (lk := lk) hP hm hk h1, pk_us]
    · rw [if_neg c, if_neg c]
      refine ⟨dayA_L hP h1, ?_, rfl⟩
      rw [dayA hP hk h1, pk_us, h2]
theorem lkA_eq {kd kd' lk st hs : Nat → Int32} {P d n : Nat} {hv : Int32} (hP : P ≤ 8) (h0 : 0 < P) (hk : KdR P kd kd') (hL : LkR P lk st) (hh : hv = hs d) : ∀ w, mLkA kd' hs P d st n w = shN kd lk P (st (70 + d)) hv n w
  | 0 => rfl
  | w + 1 => by
    rw [mLkA, shN, lkA_eq hP h0 hk hL hh w, mShut, (lkl_eq (d := d) (way := w) hP h0 hk hL n).2.1, hh]
    cases hasB (kbv kd lk P (st (70 + d)) w n).1 (hs d) <;> rfl
theorem goL_eq {kd kd' lk st : Nat → Int32} {P : Nat} (hP : P ≤ 8) (hk : KdR P kd kd') (hL : LkR P lk st) : ∀ D, LkR P lk (mGoL kd' P st D) ∧ (∀ k, (k < 70 ∨ 70 + D ≤ k) → mGoL kd' P st D k = st k) ∧ (∀ d, d < D → mGoL kd' P st D (70 + d) = aDay kd lk P (st (70 + d)))
  | 0 => ⟨hL, fun _ _ => rfl, fun d hd => absurd hd (Nat.not_lt_zero d)⟩
  | D + 1 => by
    obtain ⟨h1, h2, h3⟩ := goL_eq hP hk hL D
    rw [mGoL]
    refine ⟨dayA_L hP h1, fun k hk2 => ?_, fun d hd => ?_⟩
    · rw [dayA hP hk h1, pk_un (by omega)]; exact h2 k (by omega)
    · rw [dayA hP hk h1]
      by_cases e : d = D
      · subst e; rw [pk_us, h2 _ (by omega)]
      · rw [pk_un (by omega)]; exact h3 d (by omega)
theorem zr_eq (f : Nat → Int32) : ∀ j k, mZr f j k = if 75 ≤ k ∧ k < 75 + j then nI 0 else f k
  | 0, k => by rw [mZr, if_neg (by omega)]
  | j + 1, k => by
    rw [mZr]
    by_cases e : k = 75 + j
    · subst e; rw [pk_us, if_pos (by omega)]
    · rw [pk_un e, zr_eq f j k]
      by_cases c : 75 ≤ k ∧ k < 75 + j
      · rw [if_pos c, if_pos (by omega)]
      · rw [if_neg c, if_neg (by omega)]
theorem dayK_eq {kd lk f : Nat → Int32} {P : Nat} : ∀ D d, dayK kd lk P f D d = if d < D then aDay kd lk P (f d) else f d
  | 0, d => by rw [dayK, if_neg (by omega)]
  | D + 1, d => by
    rw [dayK]
    by_cases e : d = D
    · subst e; rw [pk_us, dayK_eq d d, if_neg (by omega), if_pos (by omega)]
    · rw [pk_un e, dayK_eq D d]
      by_cases c : d < D
      · rw [if_pos c, if_pos (by omega)]
      · rw [if_neg c, if_neg (by omega)]
theorem goes_eq {kd kd' lk st : Nat → Int32} {P D : Nat} (hP : P ≤ 8) (hD : D ≤ 5) (hk : KdR P kd kd') (hL : LkR P lk st) : LkR P lk (mGoes kd' P D st) ∧ mGoes kd' P D st 0 = st 0 + nI 1 ∧ (∀ k, 1 ≤ k → k < 70 → mGoes kd' P D st k = st k) ∧ (∀ d, d < D → mGoes kd' P D st (70 + d) = aDay kd lk P (st (70 + d))) ∧ (∀ k, 75 ≤ k → k < 115 → mGoes kd' P D st k = nI 0) := by
  obtain ⟨h1, h2, h3⟩ := goL_eq (kd := kd) (lk := lk) (st := upd st 0 (st 0 + nI 1)) hP hk (LkR_up hP hL (Or.inl rfl)) D
  have a : ∀ k, 1 ≤ k → k < 70 → mGoes kd' P D st k = st k := fun k a b => by
    rw [mGoes, zr_eq, if_neg (by omega), h2 k (by omega), pk_un (by omega)]
  refine ⟨fun i j hi hj => ?_, ?_, a, fun d hd => ?_, fun k b c => ?_⟩
  · rw [a _ (by omega) (by omega)]; exact hL i j hi hj
  · rw [mGoes, zr_eq, if_neg (by omega), h2 0 (by omega), pk_us]
  · rw [mGoes, zr_eq, if_neg (by omega), h3 d hd, pk_un (by omega)]
  · rw [mGoes, zr_eq, if_pos (by omega)]
theorem so_eq {hs hs' f nw : Nat → Int32} : ∀ D, (∀ d, d < D → hs d = hs' d ∧ f d = nw (70 + d)) → soB hs f D = mSo nw hs' D
  | 0, _ => rfl
  | D + 1, h => by
    rw [soB, mSo, so_eq D (fun d hd => h d (by omega)), mShut, (h D (by omega)).1, (h D (by omega)).2]
    cases hasB (nw (70 + D)) (hs' D)
    · rfl
    · exact (or_z _).symm
theorem KB_so {hs' nw : Nat → Int32} {Q : Nat} (hQ : Q ≤ 8) : ∀ D, D ≤ Q → KB Q (mSo nw hs' D)
  | 0, _ => KB_0 Q
  | D + 1, h => by
    rw [mSo]
    refine KB_or (KB_so hQ D (by omega)) ?_
    split
    · exact KB_bit (by omega) (by omega)
    · exact KB_0 Q
theorem so_bt {hs' nw : Nat → Int32} : ∀ D, D ≤ 8 → ∀ d, bt (mSo nw hs' D) d = (decide (d < D) && mShut nw hs' d)
  | 0, _, d => by rw [mSo, bt_nI0]; simp
  | D + 1, h, d => by
    rw [mSo, b_or, so_bt D (by omega) d]
    by_cases e : d = D
    · subst e
      by_cases c : mShut nw hs' d = true
      · rw [if_pos c, bt_bit (by omega), c]; simp
      · have c2 : mShut nw hs' d = false := by
          cases hq : mShut nw hs' d
          · rfl
          · exact absurd hq c
        rw [if_neg c, bt_nI0, c2]; simp
    · rw [decide_eq_decide.mpr (show d < D + 1 ↔ d < D by omega)]
      split
      · rw [bt_bit (by omega), decide_eq_false e, Bool.or_false]
      · rw [bt_nI0, Bool.or_false]
theorem bar_eq {wr st : Nat → Int32} {B d : Nat} : ∀ P, (∀ i, i < P → wr (d * 8 + i) = st ((75 + (8 * d)) + i)) → brB wr B d P = mBar st B d P
  | 0, _ => rfl
  | P + 1, h => by
    rw [brB, mBar, bar_eq P (fun i hi => h i (by omega)), h P (by omega)]
    by_cases c : st ((75 + (8 * d)) + P) < nI B
    · rw [if_pos c, if_pos c, or_z]
    · rw [if_neg c, if_neg c]
theorem bar_bt {st : Nat → Int32} {B d : Nat} : ∀ P, P ≤ 8 → ∀ i, bt (mBar st B d P) i = (decide (i < P) && !decide (st ((75 + (8 * d)) + i) < nI B))
  | 0, _, i => by rw [mBar, bt_nI0]; simp
  | P + 1, h, i => by
    rw [mBar, b_or, bar_bt P (by omega) i]
    by_cases e : i = P
    · subst e
      by_cases c : st ((75 + (8 * d)) + i) < nI B
      · rw [if_pos c, bt_nI0, decide_eq_true c]; simp
      · rw [if_neg c, bt_bit (by omega), decide_eq_false c]; simp
    · rw [decide_eq_decide.mpr (show i < P + 1 ↔ i < P by omega)]
      split
      · rw [bt_nI0, Bool.or_false]
      · rw [bt_bit (by omega), decide_eq_false e, Bool.or_false]
/-- a state of the class and a row of the model -/
def SRl (P D : Nat) (x : Nat → Nat → Int32) (dy : Nat) (st : Nat → Int32) : Prop :=
  nI dy = st 0 ∧ (∀ i j, i < P → j < P → x 0 (i * 8 + j) = st ((1 + (8 * i)) + j) ∧ inB (st ((1 + (8 * i)) + j)) (nI 0) (nI 9) = true) ∧ (∀ d, d < D → x 1 d = st (65 + d) ∧ x 2 d = st (70 + d) ∧ KB P (st (70 + d))) ∧ (∀ d i, d < D → i < P → x 3 (d * 8 + i) = st ((75 + (8 * d)) + i))
theorem SR_lk {P D : Nat} {x : Nat → Nat → Int32} {dy : Nat} {st : Nat → Int32} (h : SRl P D x dy st) : LkR P (x 0) st := fun i j hi hj => (h.2.1 i j hi hj).1
theorem SR_congr {P D : Nat} {x : Nat → Nat → Int32} {dy : Nat} {st st' : Nat → Int32} (hP : P ≤ 8) (hD : D ≤ 5) (h : SRl P D x dy st) (e : ∀ n, n < 115 → st' n = st n) : SRl P D x dy st' := by
  obtain ⟨h0, h1, h2, h3⟩ := h
  refine ⟨by rw [e 0 (by omega)]; exact h0, fun i j hi hj => ?_, fun d hd => ?_, fun d i hd hi => ?_⟩
  · rw [e _ (by omega)]; exact h1 i j hi hj
  · rw [e _ (by omega), e _ (by omega)]; exact h2 d hd
  · rw [e _ (by omega)]; exact h3 d i hd hi
theorem SR_call {P D : Nat} {x : Nat → Nat → Int32} {dy : Nat} {st kd kd' : Nat → Int32} {i d : Nat} (hP : P ≤ 8) (hD : D ≤ 5) (h : SRl P D x dy st) (hk : KdR P kd kd') (hi : i < P) (hd : d < D) : SRl P D (upA (upA x 1 (upd (x 1) d (nI i))) 2 (upd (x 2) d (kbc kd (x 0) P (nI i)))) dy (mCallW kd' P st i d) := by
  have hT := KB_tell (kd := kd') (nw := upd st (65 + d) (nI i)) hP hi
  rw [tell_eq (kd := kd) (lk := x 0) hP hi (hk i hi).1 (hk i hi).2 (fun j hj => by rw [pk_un (by omega)]; exact SR_lk h i j hi hj)] at hT
  rw [callW (kd := kd) (lk := x 0) hP hi hk (SR_lk h)]
  obtain ⟨h0, h1, h2, h3⟩ := h
  refine ⟨by rw [pk_un (by omega), pk_un (by omega)]; exact h0, fun a b ha hb => ?_, fun c hc => ?_, fun c a hc ha => ?_⟩
  · rw [pk_un (by omega), pk_un (by omega)]; exact h1 a b ha hb
  · show upd (x 1) d (nI i) c = _ ∧ upd (x 2) d (kbc kd (x 0) P (nI i)) c = _ ∧ _
    by_cases e : c = d
    · subst e
      rw [pk_un (show 65 + c ≠ 70 + c by omega), pk_us, pk_us, pk_us, pk_us]
      exact ⟨rfl, rfl, hT⟩
    · rw [pk_un e, pk_un e, pk_un (show 65 + c ≠ 70 + d by omega), pk_un (show 65 + c ≠ 65 + d by omega), pk_un (show 70 + c ≠ 70 + d by omega), pk_un (show 70 + c ≠ 65 + d by omega)]
      exact h2 c hc
  · rw [pk_un (by omega), pk_un (by omega)]; exact h3 c a hc ha
theorem SR_day {P D : Nat} {x : Nat → Nat → Int32} {dy : Nat} {st kd kd' : Nat → Int32} (hP : P ≤ 8) (hD : D ≤ 5) (h : SRl P D x dy st) (hk : KdR P kd kd') : SRl P D (upA (upA x 2 (dayK kd (x 0) P (x 2) D)) 3 zF) (dy + 1) (mGoes kd' P D st) := by
  obtain ⟨g1, g2, g3, g4, g5⟩ := goes_eq (kd := kd) (lk := x 0) hP hD hk (SR_lk h)
  have hday := fun kn : Int32 => day_eq (kd := kd) (kd' := kd') (lk := x 0) (nw := st) (kn := kn) hP (fun i hi => (hk i hi).1) (SR_lk h)
  obtain ⟨h0, h1, h2, h3⟩ := h
  refine ⟨by rw [g2, ← h0, nI_add], fun i j hi hj => ?_, fun d hd => ?_, fun d i hd hi => ?_⟩
  · rw [g3 _ (by omega) (by omega)]; exact h1 i j hi hj
  · show x 1 d = _ ∧ dayK kd (x 0) P (x 2) D d = _ ∧ _
    rw [g3 _ (by omega) (by omega), g4 d hd, dayK_eq, if_pos hd, (h2 d hd).2.1]
    refine ⟨(h2 d hd).1, rfl, ?_⟩
    rw [← hday]
    exact KB_day hP (h2 d hd).2.2 P
  · show nI 0 = _
    rw [g5 _ (by omega) (by omega)]
theorem SR_alter {P D : Nat} {x : Nat → Nat → Int32} {dy : Nat} {st : Nat → Int32} {i j : Nat} {v : Int32} (hP : P ≤ 8) (h : SRl P D x dy st) (hi : i < P) (hj : j < P) (hv : inB v (nI 0) (nI 9) = true) : SRl P D (upA x 0 (upd (x 0) (i * 8 + j) v)) dy (upd st ((1 + (8 * i)) + j) v) := by
  obtain ⟨h0, h1, h2, h3⟩ := h
  refine ⟨by rw [pk_un (by omega)]; exact h0, fun a b ha hb => ?_, fun c hc => ?_, fun c a hc ha => ?_⟩
  · show upd (x 0) (i * 8 + j) v (a * 8 + b) = _ ∧ _
    by_cases e : a = i ∧ b = j
    · obtain ⟨rfl, rfl⟩ := e
      rw [pk_us, pk_us]
      exact ⟨rfl, hv⟩
    · rw [pk_un (by omega), pk_un (by omega)]; exact h1 a b ha hb
  · rw [pk_un (by omega), pk_un (by omega)]; exact h2 c hc
  · rw [pk_un (by omega)]; exact h3 c a hc ha
theorem SR_wrong {P D : Nat} {x : Nat → Nat → Int32} {dy : Nat} {st : Nat → Int32} {i d : Nat} {v : Int32} (hP : P ≤ 8) (hD : D ≤ 5) (h : SRl P D x dy st) (hi : i < P) (hd : d < D) : SRl P D (upA x 3 (upd (x 3) (d * 8 + i) v)) dy (upd st ((75 + (8 * d)) + i) v) := by
  obtain ⟨h0, h1, h2, h3⟩ := h
  refine ⟨by rw [pk_un (by omega)]; exact h0, fun a b ha hb => ?_, fun c hc => ?_, fun c a hc ha => ?_⟩
  · rw [pk_un (by omega)]; exact h1 a b ha hb
  · rw [pk_un (by omega), pk_un (by omega)]; exact h2 c hc
  · show upd (x 3) (d * 8 + i) v (c * 8 + a) = _
    by_cases e : c = d ∧ a = i
    · obtain ⟨rfl, rfl⟩ := e
      rw [pk_us, pk_us]
    · rw [pk_un (by omega), pk_un (by omega)]; exact h3 c a hc ha
theorem cpL_eq (ft ff : Nat → Int32) (a fr : Nat) : ∀ n k, cpL ft ff a fr n k = if a ≤ k ∧ k < a + n then ff (fr + (k - a)) else ft k
  | 0, k => by rw [cpL, if_neg (by omega)]
  | n + 1, k => by
    rw [cpL]
    by_cases e : k = a + n
    · subst e; rw [pk_us, if_pos (by omega), show a + n - a = n by omega]
    · rw [pk_un e, cpL_eq ft ff a fr n k]
      by_cases c : a ≤ k ∧ k < a + n
      · rw [if_pos c, if_pos (by omega)]
      · rw [if_neg c, if_neg (by omega)]
theorem sh_eq (w : Nat → Int32) : ∀ j k, mSh w j k = if k < j then w (k + 115) else w k
  | 0, k => by rw [mSh, if_neg (by omega)]
  | j + 1, k => by
    rw [mSh]
    by_cases e : k = j
    · subst e; rw [pk_us, sh_eq w k (k + 115), if_neg (by omega), if_pos (by omega)]
    · rw [pk_un e, sh_eq w j k]
      by_cases c : k < j
      · rw [if_pos c, if_pos (by omega)]
      · rw [if_neg c, if_neg (by omega)]
/-- copies of states: the first k -/
def UR (P D k : Nat) (X : Nat → Nat → Nat → Int32) (Dd : Nat → Nat) (w : Nat → Int32) : Prop := ∀ j, j < k → SRl P D (X j) (Dd j) (fun n => w (115 * j + n))
theorem UR_0 {P D : Nat} {X : Nat → Nat → Nat → Int32} {Dd : Nat → Nat} {w : Nat → Int32} : UR P D 0 X Dd w := fun j h => absurd h (Nat.not_lt_zero j)
theorem pushK_lt {n k : Nat} (h : k < n) : pushK n k = k + 1 := by
  rw [pushK]
  cases hb : Nat.ble n k
  · rfl
  · have := Nat.le_of_ble_eq_true hb; omega
theorem UR_add {P D n k : Nat} {X : Nat → Nat → Nat → Int32} {Dd : Nat → Nat} {w : Nat → Int32} {x : Nat → Nat → Int32} {dy : Nat} {st : Nat → Int32} (hP : P ≤ 8) (hD : D ≤ 5) (hk : k < n) (h : UR P D k X Dd w) (hs : SRl P D x dy st) : UR P D (k + 1) (pushX n k X x) (pushD n k Dd dy) (cpL w st (115 * k) 0 115) := by
  intro j hj
  have hb : Nat.ble n k = false := by
    cases hb : Nat.ble n k
    · rfl
    · have := Nat.le_of_ble_eq_true hb; omega
  rw [pushX, pushD, hb]
  show SRl P D (cond (Nat.beq j k) x (X j)) (cond (Nat.beq j k) dy (Dd j)) _
  by_cases e : j = k
  · subst e
    rw [show Nat.beq j j = true from Nat.beq_refl j]
    refine SR_congr hP hD (st := st) hs (fun m hm => ?_)
    show cpL w st (115 * j) 0 115 (115 * j + m) = st m
    rw [cpL_eq, if_pos (by omega), show 0 + (115 * j + m - 115 * j) = m by omega]
  · rw [show Nat.beq j k = false from by cases hq : Nat.beq j k; rfl; exact absurd (Nat.eq_of_beq_eq_true hq) e]
    refine SR_congr hP hD (h j (by omega)) (fun m hm => ?_)
    show cpL w st (115 * k) 0 115 (115 * j + m) = w (115 * j + m)
    rw [cpL_eq, if_neg (by omega)]
theorem UR_put8 {P D k : Nat} {X : Nat → Nat → Nat → Int32} {Dd : Nat → Nat} {w : Nat → Int32} {x : Nat → Nat → Int32} {dy : Nat} {st : Nat → Int32} (hP : P ≤ 8) (hD : D ≤ 5) (hk : k ≤ 8) (h : UR P D k X Dd w) (hs : SRl P D x dy st) : pushK 8 k = mRemN k ∧ UR P D (pushK 8 k) (pushX 8 k X x) (pushD 8 k Dd dy) (mRemW w st k) := by
  by_cases e : k = 8
  · subst e
    refine ⟨rfl, fun j hj => ?_⟩
    have hj : j < 8 := hj
    show SRl P D (cond (Nat.beq (j + 1) 8) x (X (j + 1))) (cond (Nat.beq (j + 1) 8) dy (Dd (j + 1))) (fun n => cpL (mSh w 805) st 805 0 115 (115 * j + n))
    by_cases e : j = 7
    · subst e
      show SRl P D x dy _
      refine SR_congr hP hD hs (fun m hm => ?_)
      show cpL (mSh w 805) st 805 0 115 (115 * 7 + m) = st m
      rw [cpL_eq, if_pos (by omega), show 0 + (115 * 7 + m - 805) = m by omega]
    · rw [show Nat.beq (j + 1) 8 = false from by cases hq : Nat.beq (j + 1) 8; rfl; exact absurd (Nat.eq_of_beq_eq_true hq) (by omega)]
      refine SR_congr hP hD (h (j + 1) (by omega)) (fun m hm => ?_)
      show cpL (mSh w 805) st 805 0 115 (115 * j + m) = w (115 * (j + 1) + m)
      rw [cpL_eq, if_neg (by omega), sh_eq, if_pos (by omega), show 115 * j + m + 115 = 115 * (j + 1) + m by omega]
  · rw [pushK_lt (by omega), mRemN, if_neg e, mRemW, if_neg e]
    exact ⟨rfl, UR_add hP hD (by omega) h hs⟩
theorem SR_take {P D k : Nat} {X : Nat → Nat → Nat → Int32} {Dd : Nat → Nat} {w st : Nat → Int32} (hP : P ≤ 8) (hD : D ≤ 5) (hk : 0 < k) (h : UR P D k X Dd w) : SRl P D (X (k - 1)) (Dd (k - 1)) (cpL st w 0 (115 * (k - 1)) 115) := by
  refine SR_congr hP hD (h (k - 1) (by omega)) (fun m hm => ?_)
  show cpL st w 0 (115 * (k - 1)) 115 m = w (115 * (k - 1) + m)
  rw [cpL_eq, if_pos (by omega), show m - 0 = m by omega]
theorem UR_le {P D k k' : Nat} {X : Nat → Nat → Nat → Int32} {Dd : Nat → Nat} {w : Nat → Int32} (h : UR P D k X Dd w) (hk : k' ≤ k) : UR P D k' X Dd w := fun j hj => h j (by omega)
theorem inPb_of {P k : Nat} (hk : k < P) (hP : P < 2 ^ 31) : inPb P (nI k) = true := by
  rw [inPb]; exact decide_eq_true ⟨nI_pos (by omega), fun h => absurd ((nI_leI hP (by omega)).mp h) (by omega)⟩
theorem st_eq {kd kd' lk st hs hs' f : Nat → Int32} {P D z : Nat} (hP : P ≤ 8) (hD : D ≤ 5) (h0 : 0 < P) (h1 : 0 < D) (hk : KdR P kd kd') (hL : LkR P lk st) (hh : ∀ d, d < D → hs d = hs' d) (hf : ∀ d, d < D → f d = st (70 + d)) :
    ∀ n, LkR P lk (mSt kd' hs' P D z st n).1 ∧ (∀ d, d < D → (stL kd lk hs P D z f n).1 d = (mSt kd' hs' P D z st n).1 (70 + d)) ∧ (stL kd lk hs P D z f n).2 = (mSt kd' hs' P D z st n).2
  | 0 => ⟨hL, hf, rfl⟩
  | n + 1 => by
    obtain ⟨a, b, c⟩ := st_eq (z := z) hP hD h0 h1 hk hL hh hf n
    have key : LkR P lk (mStS kd' P D (dN z n) (mSt kd' hs' P D z st n).1) ∧ (∀ d, d < D → gsN kd lk P D (dN z n) (stL kd lk hs P D z f n).1 d = mStS kd' P D (dN z n) (mSt kd' hs' P D z st n).1 (70 + d)) := by
      generalize dN z n = dr
      generalize (stL kd lk hs P D z f n).1 = F at b ⊢
      generalize (mSt kd' hs' P D z st n).1 = G at a b ⊢
      rw [mStS, gsN]
      by_cases q : dr / 64 % 3 = 0
      · rw [if_pos q, if_pos q]
        obtain ⟨g1, g2, g3, g4, g5⟩ := goes_eq (kd := kd) (D := D) hP hD hk a
        exact ⟨g1, fun d hd => by rw [dayK_eq, if_pos hd, g4 d hd, b d hd]⟩
      · have hp := Nat.mod_lt dr h0
        have hd0 := Nat.mod_lt (dr / 8) h1
        rw [if_neg q, if_neg q, reN_eq h0, reN_eq h1, if_pos (inPb_of hd0 (by omega))]
        refine ⟨callW_L hP a, fun d hd => ?_⟩
        rw [callW (kd := kd) hP hp hk a]
        by_cases e : d = dr / 8 % D
        · rw [e, pk_us, pk_us]
        · rw [pk_un e, pk_un (by omega), pk_un (by omega)]; exact b d hd
    rw [mSt, stL]
    refine ⟨key.1, key.2, ?_⟩
    show (if soB hs _ D = 0 then (stL kd lk hs P D z f n).2 + 1 else (stL kd lk hs P D z f n).2) = (mSt kd' hs' P D z st n).2 + (if mSo _ hs' D = 0 then 1 else 0)
    rw [so_eq (hs' := hs') (nw := mStS kd' P D (dN z n) (mSt kd' hs' P D z st n).1) D (fun d hd => ⟨hh d hd, key.2 d hd⟩), c]
    split <;> rfl
