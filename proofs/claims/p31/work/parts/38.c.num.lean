/-! lowest terms, ranks, best friends -/
theorem cd_eq : ∀ k f a b, a < 2 ^ 31 → b < 2 ^ 31 → b < 2 ^ k → 2 * k + 1 ≤ f → cdI f (nI a) (nI b) = nI (Nat.gcd a b)
  | 0, f, a, b, ha, hb, h, hf => by
    obtain ⟨g, rfl⟩ : ∃ g, f = g + 1 := ⟨f - 1, by omega⟩
    have e : b = 0 := by rw [Nat.pow_zero] at h; omega
    subst e
    rw [cdI, if_pos (by decide), Nat.gcd_zero_right]
  | k + 1, f, a, b, ha, hb, h, hf => by
    by_cases b0 : b = 0
    · subst b0
      obtain ⟨g, rfl⟩ : ∃ g, f = g + 1 := ⟨f - 1, by omega⟩
      rw [cdI, if_pos (by decide), Nat.gcd_zero_right]
    · obtain ⟨g, rfl⟩ : ∃ g, f = g + 1 + 1 := ⟨f - 2, by omega⟩
      rw [cdI, if_neg (nI_ne0 (by omega) hb), pk_rem ha (by omega) hb]
      have hr := Nat.mod_lt a (show b > 0 by omega)
      have hg : Nat.gcd a b = Nat.gcd b (a % b) := by rw [Nat.gcd_comm a b, Nat.gcd_rec b a, Nat.gcd_comm]
      rw [hg]
      generalize a % b = r at hr ⊢
      by_cases r0 : r = 0
      · subst r0
        rw [cdI, if_pos (by decide), Nat.gcd_zero_right]
      · rw [cdI, if_neg (nI_ne0 (by omega) (by omega)), pk_rem hb (by omega) (by omega)]
        have hr2 := Nat.mod_lt b (show r > 0 by omega)
        have hg2 : Nat.gcd b r = Nat.gcd r (b % r) := by rw [Nat.gcd_comm b r, Nat.gcd_rec r b, Nat.gcd_comm]
        rw [hg2]
        refine cd_eq k g r (b % r) (by omega) (by omega) ?_ (by omega)
        have hd := Nat.div_add_mod b r
        have h1 : 1 ≤ b / r := (Nat.le_div_iff_mul_le (by omega)).mpr (by omega)
        have h2 : r ≤ r * (b / r) := Nat.le_mul_of_pos_right r h1
        rw [Nat.pow_succ] at h
        generalize 2 ^ k = K at h ⊢
        generalize r * (b / r) = M at hd h2
        omega
theorem lt_eq {a b : Nat} {pv : Int32} (ha : a < 2 ^ 31) (hb0 : 0 < b) (hb : b < 2 ^ 31) : ltI (nI a) (nI b) pv = nI (mLow a b pv) := by
  have hg : 0 < Nat.gcd a b := Nat.gcd_pos_of_pos_right a hb0
  have hg2 : Nat.gcd a b ≤ b := Nat.le_of_dvd hb0 (Nat.gcd_dvd_right a b)
  have hn : ¬ nI (Nat.gcd a b) ≤ 0 := fun h => absurd ((nI_leI (b := 0) (by omega) (by decide)).mp h) (by omega)
  rw [ltI, cd_eq 31 64 a b ha hb hb (by omega), quI, mLow, if_neg hn]
  by_cases c : pv = 0
  · rw [if_pos c, if_pos c, pk_div ha hg (by omega)]
  · rw [if_neg c, if_neg c, pk_div hb hg (by omega)]
theorem rk_eq {pt pt' : Nat → Int32} {W w : Nat} (h : ∀ v, v < W → pt v = pt' v) (hw : w < W) : ∀ v, v ≤ W → rkN pt w v = rkN pt' w v
  | 0, _ => rfl
  | v + 1, hv => by rw [rkN, rkN, rk_eq h hw v (by omega), h v (by omega), h w hw]
theorem gu_eq {pt pt' : Nat → Int32} {W : Nat} {kv : Int32} (h : ∀ v, v < W → pt v = pt' v) : ∀ f, f ≤ W → guL pt W kv f = guL pt' W kv f
  | 0, _ => rfl
  | f + 1, hf => by rw [guL, guL, gu_eq h f (by omega), rk_eq h (by omega) W (Nat.le_refl W)]
theorem pt_nI {pt : Nat → Int32} {W w : Nat} (h : ptOk pt W) (hw : w < W) : pt w = nI (pt w).toNatClampNeg := nI_cl (h w hw).1
theorem sum_eq {pt pt' : Nat → Int32} {W : Nat} (h : ∀ v, v < W → pt v = pt' v) (hp : ptOk pt' W) : ∀ k, k ≤ W → sumP pt k = nI (mSumP pt' k)
  | 0, _ => rfl
  | k + 1, hk => by rw [sumP, mSumP, sum_eq h hp k (by omega), h k (by omega), pt_nI hp (show k < W by omega), nI_add, ← pt_nI hp (show k < W by omega)]
theorem mn_eq {pt pt' : Nat → Int32} {W : Nat} (h : ∀ v, v < W → pt v = pt' v) (hp : ptOk pt' W) : ∀ k, k ≤ W → mnA pt W k = nI (mMn pt' W k)
  | 0, _ => rfl
  | k + 1, hk => by
    rw [mnA, mMn, mn_eq h hp k (by omega), h k (by omega), rk_eq h (show k < W by omega) W (Nat.le_refl W), ← nI_add (mMn pt' W k) ((rkN pt' k W + 1) * (pt' k).toNatClampNeg), ← pk_mul, ← pt_nI hp (show k < W by omega), Int32.mul_comm]
theorem it_eq {pt pt' : Nat → Int32} {W B : Nat} (hW : W ≤ 6) (hB : B ≤ 9) (h : ∀ v, v < W → pt v = pt' v) (hp : ptOk pt' W) : ∀ k, k ≤ W → itA pt W B k = nI (mIn pt' W B k)
  | 0, _ => rfl
  | k + 1, hk => by
    have hr := rkN_le pt' k W
    rw [itA, mIn, it_eq hW hB h hp k (by omega), h k (by omega), rk_eq h (show k < W by omega) W (Nat.le_refl W)]
    by_cases c : B ≤ rkN pt' k W
    · rw [if_pos (nI_le c (by omega)), if_pos c, Nat.add_zero]
    · rw [if_neg (nI_ge (by omega) (by omega)), if_neg c, ← nI_add, ← pt_nI hp (show k < W by omega)]
theorem fr_eq {lk st : Nat → Int32} {P i : Nat} (hL : ∀ j, j < P → lk (j * 8 + i) = st ((1 + (8 * j)) + i) ∧ inB (st ((1 + (8 * j)) + i)) (nI 0) (nI 9) = true) : ∀ j, j ≤ P → (frL lk i j = (-4, -1) ∧ mFr st i j = (-4, -4) ∧ ∀ k, k < j → k = i) ∨ frL lk i j = mFr st i j
  | 0, _ => Or.inl ⟨rfl, rfl, fun k hk => absurd hk (Nat.not_lt_zero k)⟩
  | j + 1, hj => by
    have ih := fr_eq hL j (by omega)
    obtain ⟨e1, e2⟩ := hL j (by omega)
    rw [frL, mFr, e1]
    rcases ih with ⟨h1, h2, h3⟩ | h
    · rw [h1, h2]
      by_cases c : j = i
      · refine Or.inl ⟨?_, ?_, fun k hk => ?_⟩
        · rw [if_neg (by intro q; exact q.1 c)]
        · rw [if_neg (by intro q; exact q.1 c)]
        · by_cases e : k = j
          · rw [e]; exact c
          · exact h3 k (by omega)
      · have hn : ¬ st ((1 + (8 * j)) + i) < nI 0 := by
          have h2 : ¬ st ((1 + (8 * j)) + i) < nI 0 ∧ st ((1 + (8 * j)) + i) ≤ nI 9 := by simpa [inB] using e2
          exact h2.1
        have q1 : ¬ st ((1 + (8 * j)) + i) ≤ -1 := fun q => hn (Int32.lt_of_le_of_lt q (by decide))
        have q4 : ¬ st ((1 + (8 * j)) + i) ≤ -4 := fun q => hn (Int32.lt_of_le_of_lt q (by decide))
        refine Or.inr ?_
        rw [if_pos (by exact ⟨c, q1⟩), if_pos (by exact ⟨c, q4⟩)]
    · rw [h]; exact Or.inr rfl
theorem fr_end {lk st : Nat → Int32} {P i : Nat} (hP : 2 ≤ P) (hL : ∀ j, j < P → lk (j * 8 + i) = st ((1 + (8 * j)) + i) ∧ inB (st ((1 + (8 * j)) + i)) (nI 0) (nI 9) = true) : frL lk i P = mFr st i P := by
  rcases fr_eq hL P (Nat.le_refl P) with ⟨_, _, h⟩ | h
  · have a := h 0 (by omega)
    have b := h 1 (by omega)
    omega
  · exact h
theorem and_z (x : Int32) : x &&& nI 0 = nI 0 := b_ext (fun i _ => by rw [b_and, bt_nI0, Bool.and_false])
theorem ca_0 {kd lk kd' nw sn : Nat → Int32} {P Q : Nat} {dv : Int32} : ∀ c, caL kd lk P (nI 0) (nI 0) c = mCd kd' nw sn Q 0 dv c
  | 0 => rfl
  | c + 1 => by
    rw [caL, mCd, ca_0 c, and_z, if_pos rfl, mCk, if_neg (by decide)]
