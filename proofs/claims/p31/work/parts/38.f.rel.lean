/-! the relation of the two objects: its third part -/
def PRl (pa : Nat → Nat → Int32) (ps sc : Nat → Nat) (ar : Nat → Nat → Int32) : Prop := 2 ≤ sc 0 ∧ ps 0 = sc 0 ∧ ps 2 = sc 2 ∧ ps 3 = sc 4 ∧ ps 4 = sc 6 ∧ KdR (sc 0) (pa 0) (ar 1) ∧ (∀ d, d < sc 2 → pa 2 d = ar 3 d) ∧ (∀ w, w < sc 4 → pa 4 w = ar 5 w)
def RW (len : Nat) (tx : Nat → Int32) (pa : Nat → Nat → Int32) (ps : Nat → Nat) (x : Nat → Nat → Int32) (dy gz uk : Nat) (UX : Nat → Nat → Nat → Int32) (UD : Nat → Nat) (kk : Nat) (KX : Nat → Nat → Nat → Int32) (KD : Nat → Nat) (sc : Nat → Nat) (ar : Nat → Nat → Int32) : Prop :=
  (len = sc 15 ∧ TR len tx (ar 14)) ∧ PRl pa ps sc ar ∧ SRl (sc 0) (sc 2) x dy (ar 7) ∧ gz = sc 12 ∧ (uk = sc 8 ∧ UR (sc 0) (sc 2) uk UX UD (ar 9)) ∧ (kk = sc 10 ∧ UR (sc 0) (sc 2) kk KX KD (ar 11))
theorem TR_0 (tx tx' : Nat → Int32) : TR 0 tx tx' := fun k h => absurd h (Nat.not_lt_zero k)
theorem wr_nar : ∀ n, n < 127 → vp_nar .char (((nI n).toUInt32 % 65536).toInt32) = nI n := by decide +kernel
theorem T_write {len len' : Nat} {tx tx' : Nat → Int32} {lv : Int32} {u1 u2 : Nat × (Nat → Int32)} (e : len = len') (h : TR len tx tx') (h1 : u1 = xWrS len tx lv) (h2 : u2 = (if xWrB lv = true ∨ 200 ≤ len' then (len', tx') else (len' + 1, upd tx' len' lv))) : u1.1 = u2.1 ∧ TR u1.1 u1.2 u2.2 := by
  subst e
  rw [xWrS] at h1
  by_cases c : xWrB lv = true ∨ 200 ≤ len
  · rw [if_pos c] at h1 h2
    rw [h1, h2]
    exact ⟨rfl, h⟩
  · rw [if_neg c] at h1 h2
    have hb : ¬ (lv < nI 32 ∨ ¬ lv ≤ nI 126) := fun q => c (Or.inl (by rw [xWrB]; exact decide_eq_true q))
    obtain ⟨m, hm, rfl⟩ := rng_nat (n := 126) (pos_of_lt (k := 32) (by decide) (fun q => hb (Or.inl q))) (Classical.byContradiction (fun q => hb (Or.inr q))) (by decide)
    rw [wr_nar m (by omega)] at h1
    rw [h1, h2]
    refine ⟨rfl, fun k hk => ?_⟩
    have hk : k < len + 1 := hk
    show upd tx len (nI m) k = upd tx' len (nI m) k
    by_cases q : k = len
    · subst q; rw [pk_us, pk_us]
    · rw [pk_un q, pk_un q]; exact h k (by omega)
theorem layK_eq {kd lk cl f : Nat → Int32} {P : Nat} : ∀ D d, layK kd lk cl P f D d = if d < D then kbc kd lk P (cl d) else f d
  | 0, d => by rw [layK, if_neg (by omega)]
  | D + 1, d => by
    rw [layK]
    by_cases e : d = D
    · subst e; rw [pk_us, if_pos (by omega)]
    · rw [pk_un e, layK_eq D d]
      by_cases c : d < D
      · rw [if_pos c, if_pos (by omega)]
      · rw [if_neg c, if_neg (by omega)]
theorem setL_eq {kc kd lk rd : Nat → Int32} {P Dn : Nat} (hP : P ≤ 8) (hk : KdR P kc kd) (hL : LkR P lk rd) (hok : hsOk (fun d => rd (65 + d)) P Dn) (hD : Dn ≤ 5) : ∀ j, j ≤ Dn → (∀ k, (k < 70 ∨ 75 ≤ k) → mSetL kd P rd j k = rd k) ∧ (∀ d, d < j → mSetL kd P rd j (70 + d) = kbc kc lk P (rd (65 + d)) ∧ KB P (mSetL kd P rd j (70 + d)))
  | 0, _ => ⟨fun _ _ => rfl, fun d hd => absurd hd (Nat.not_lt_zero d)⟩
  | j + 1, hj => by
    obtain ⟨h1, h2⟩ := setL_eq hP hk hL hok hD j (by omega)
    obtain ⟨i, hi, e⟩ := inPb_nat (hok j (by omega)) (by omega)
    have e : rd (65 + j) = nI i := e
    have hLj : LkR P lk (mSetL kd P rd j) := fun a b ha hb => by rw [h1 _ (by omega)]; exact hL a b ha hb
    have hT := KB_tell (kd := kd) (nw := upd (mSetL kd P rd j) (65 + j) (nI i)) hP hi
    rw [tell_eq (kd := kc) (lk := lk) hP hi (hk i hi).1 (hk i hi).2 (fun b hb => by rw [pk_un (by omega)]; exact hLj i b hi hb)] at hT
    rw [mSetL, h1 (65 + j) (by omega), e, nI_clamp (by omega), callW (kd := kc) (lk := lk) hP hi hk hLj]
    refine ⟨fun k hk2 => ?_, fun d hd => ?_⟩
    · rw [pk_un (by omega)]
      by_cases q : k = 65 + j
      · rw [q, pk_us, e]
      · rw [pk_un q]; exact h1 k hk2
    · by_cases q : d = j
      · subst q; rw [pk_us, e]; exact ⟨rfl, hT⟩
      · rw [pk_un (by omega), pk_un (by omega)]; exact h2 d (by omega)
/-- a draft that is laid -/
theorem lay_st {oc : Nat} {D : DV} {bg rp rt rdn rw_ rb : Nat} {kd hs pt rd : Nat → Int32} {x : Nat → Nat → Int32} (hM : MOK (bg, rp, rt, rdn, rw_, rb, kd, hs, pt, rd)) (hD : DRl oc D (bg, rp, rt, rdn, rw_, rb, kd, hs, pt, rd)) (e : rt = rp) : KdR rp (D.1 0) kd ∧ SRl rp rdn (layX D x) 0 (mSetL kd rp rd rdn) := by
  obtain ⟨m0, m1, m2, m3, m4, m4b, m5, m6, m7, m8⟩ := hM
  obtain ⟨d0, d1, d2, d3, d4, d5, d6, d7, d8, d9, d10⟩ := hD
  subst e
  have hk : KdR rt (D.1 0) kd := fun i hi => d6 i hi
  have hL : LkR rt (D.1 1) rd := fun i j hi hj => (d7 i j hi hj).1
  obtain ⟨s1, s2⟩ := setL_eq m1.2 hk hL m7 m3 rdn (Nat.le_refl _)
  refine ⟨hk, ?_, fun i j hi hj => ?_, fun d hd => ?_, fun d i hd hi => ?_⟩
  · rw [s1 0 (by omega)]; exact (d10 0 (by omega)).symm
  · rw [s1 _ (by omega)]; exact d7 i j hi hj
  · show D.1 3 d = _ ∧ layK (D.1 0) (D.1 1) (D.1 3) (D.2 0) (x 2) (D.2 2) d = _ ∧ _
    rw [s1 _ (by omega), layK_eq, d1, d3, if_pos hd, (d8 d hd).2, (s2 d hd).1]
    refine ⟨rfl, rfl, ?_⟩
    rw [← (s2 d hd).1]
    exact (s2 d hd).2
  · show nI 0 = _
    rw [s1 _ (by omega)]; exact (d10 _ (by omega)).symm
theorem D0_ok (ar : Nat → Nat → Int32) : MOK (mD0 ar) := ⟨by decide, ⟨by decide, by decide⟩, by decide, by decide, by decide, by decide, fun _ => ⟨rfl, rfl⟩, fun d hd => absurd hd (Nat.not_lt_zero d), fun d hd => absurd hd (Nat.not_lt_zero d), fun d hd => absurd hd (Nat.not_lt_zero d)⟩
theorem D0_r (da : Nat → Nat → Int32) (ds : Nat → Nat) (ar : Nat → Nat → Int32) : DRl 1 (da, (updN (updN (updN (updN (updN ds 0 4) 1 0) 2 0) 3 0) 4 3)) (mD0 ar) := ⟨rfl, rfl, rfl, rfl, rfl, rfl, fun i hi => absurd hi (Nat.not_lt_zero i), fun i j hi => absurd hi (Nat.not_lt_zero i), fun d hd => absurd hd (Nat.not_lt_zero d), fun w hw => absurd hw (Nat.not_lt_zero w), fun _ _ => rfl⟩
theorem lay_ok {oc : Nat} {F : Int32 × DV} {F' : Int32 × MDV} (e : F.1 = F'.1) (h : F.1 = -4 → MOK F'.2 ∧ ∃ oc, DRl oc F.2 F'.2) : layOk F = mLayOk F' := by
  rw [layOk, mLayOk]
  apply decide_eq_decide.mpr
  obtain ⟨r, D⟩ := F
  obtain ⟨r', bg, rp, rt, rdn, rw_, rb, kd, hs, pt, rd⟩ := F'
  have e : r = r' := e
  subst e
  constructor
  · rintro ⟨a, b, c⟩
    obtain ⟨_, oc, d0, d1, d2, d3, _⟩ := h a
    have d1 : D.2 0 = rp := d1
    have d2 : D.2 1 = rt := d2
    have d3 : D.2 2 = rdn := d3
    have b : D.2 1 = D.2 0 := b
    have c : 0 < D.2 2 := c
    refine ⟨a, ?_, ?_⟩
    · show rt = rp
      omega
    · show ¬ rdn = 0
      omega
  · rintro ⟨a, b, c⟩
    obtain ⟨_, oc, d0, d1, d2, d3, _⟩ := h a
    have d1 : D.2 0 = rp := d1
    have d2 : D.2 1 = rt := d2
    have d3 : D.2 2 = rdn := d3
    have b : rt = rp := b
    have c : ¬ rdn = 0 := c
    refine ⟨a, ?_, ?_⟩
    · show D.2 1 = D.2 0
      omega
    · show 0 < D.2 2
      omega
section RWS
variable {len : Nat} {tx : Nat → Int32} {da : Nat → Nat → Int32} {ds : Nat → Nat} {pa : Nat → Nat → Int32} {ps : Nat → Nat} {x : Nat → Nat → Int32} {dy : Nat} {ga : Nat → Nat → Int32} {gz : Nat} {uk : Nat} {UX : Nat → Nat → Nat → Int32} {UD : Nat → Nat} {kk : Nat} {KX : Nat → Nat → Nat → Int32} {KD : Nat → Nat} {sc : Nat → Nat} {ar : Nat → Nat → Int32}
theorem F_ff (hM : MI sc ar) (h : RW len tx pa ps x dy gz uk UX UD kk KX KD sc ar) : (ff tx len 200 0 1 (da, (updN (updN (updN (updN (updN ds 0 4) 1 0) 2 0) 3 0) 4 3))).1 = (mff (ar 14) (sc 15) 200 0 (mD0 ar)).1 ∧ ((ff tx len 200 0 1 (da, (updN (updN (updN (updN (updN ds 0 4) 1 0) 2 0) 3 0) 4 3))).1 = -4 → MOK (mff (ar 14) (sc 15) 200 0 (mD0 ar)).2 ∧ ∃ oc', DRl oc' (ff tx len 200 0 1 (da, (updN (updN (updN (updN (updN ds 0 4) 1 0) 2 0) 3 0) 4 3))).2 (mff (ar 14) (sc 15) 200 0 (mD0 ar)).2) := by
  have e : len = sc 15 := h.1.1
  have ht := h.1.2
  have hn : sc 15 ≤ 200 := hM.2.2.2.2.2.2.2.1
  rw [e] at ht ⊢
  exact ff_eq ht hn 200 0 1 _ _ (D0_ok ar) (D0_r da ds ar)
theorem F_layOk (hM : MI sc ar) (h : RW len tx pa ps x dy gz uk UX UD kk KX KD sc ar) : layOk (ff tx len 200 0 1 (da, (updN (updN (updN (updN (updN ds 0 4) 1 0) 2 0) 3 0) 4 3))) = mLayOk (mff (ar 14) (sc 15) 200 0 (mD0 ar)) := lay_ok (oc := 0) (F_ff hM h).1 (F_ff hM h).2
theorem F_lay (hM : MI sc ar) (h : RW len tx pa ps x dy gz uk UX UD kk KX KD sc ar) : (if layOk (ff tx len 200 0 1 (da, (updN (updN (updN (updN (updN ds 0 4) 1 0) 2 0) 3 0) 4 3))) = true then nI ((ff tx len 200 0 1 (da, (updN (updN (updN (updN (updN ds 0 4) 1 0) 2 0) 3 0) 4 3))).2.2 2) else -2) = (if mLayOk (mff (ar 14) (sc 15) 200 0 (mD0 ar)) = true then nI ((mff (ar 14) (sc 15) 200 0 (mD0 ar)).2.2.2.2.1) else -2) := by
  have e := F_layOk (da := da) (ds := ds) hM h
  obtain ⟨f1, f2⟩ := F_ff (da := da) (ds := ds) hM h
  rw [e]
  by_cases c : mLayOk (mff (ar 14) (sc 15) 200 0 (mD0 ar)) = true
  · rw [if_pos c, if_pos c]
    rw [← e, layOk] at c
    obtain ⟨_, oc, hD⟩ := f2 (of_decide_eq_true c).1
    generalize mff (ar 14) (sc 15) 200 0 (mD0 ar) = F' at hD ⊢
    obtain ⟨r', bg, rp, rt, rdn, rw_, rb, kd, hs, pt, rd⟩ := F'
    obtain ⟨d0, d1, d2, d3, _⟩ := hD
    exact congrArg nI d3
  · rw [if_neg c, if_neg c]
theorem W_lay (hM : MI sc ar) (h : RW len tx pa ps x dy gz uk UX UD kk KX KD sc ar) {u1 : Nat × Nat × DV × DV × SV × Nat × Nat × Nat} {u2 : (Nat → Nat) × (Nat → Nat → Int32)} (h1 : u1.2.2.2 = (if layOk (ff tx len 200 0 1 (da, (updN (updN (updN (updN (updN ds 0 4) 1 0) 2 0) 3 0) 4 3))) = true then layT (ff tx len 200 0 1 (da, (updN (updN (updN (updN (updN ds 0 4) 1 0) 2 0) 3 0) 4 3))).2 x else ((pa, ps), (x, dy), gz, uk, kk))) (h2 : mLayOk (mff (ar 14) (sc 15) 200 0 (mD0 ar)) = true → mLayY sc ar (mff (ar 14) (sc 15) 200 0 (mD0 ar)).2 u2.1 u2.2) (h3 : mLayOk (mff (ar 14) (sc 15) 200 0 (mD0 ar)) = false → mSame sc ar u2.1 u2.2) :
    RW len tx u1.2.2.2.1.1 u1.2.2.2.1.2 u1.2.2.2.2.1.1 u1.2.2.2.2.1.2 u1.2.2.2.2.2.1 u1.2.2.2.2.2.2.1 UX UD u1.2.2.2.2.2.2.2 KX KD u2.1 u2.2 := by
  have e := F_layOk (da := da) (ds := ds) hM h
  obtain ⟨f1, f2⟩ := F_ff (da := da) (ds := ds) hM h
  rw [e] at h1
  cases c : mLayOk (mff (ar 14) (sc 15) 200 0 (mD0 ar))
  · obtain ⟨a0, a1, a2, a3, a4, a5, a6, a7, a8, a9, a10, a11, a12, a13, a15, a14⟩ := h3 c
    rw [if_neg (by rw [c]; decide)] at h1
    rw [h1]
    rw [RW, PRl, a0, a1, a2, a3, a4, a5, a6, a7, a8, a9, a10, a11, a12, a15, a14]
    exact h
  · rw [if_pos c] at h1
    rw [h1]
    have hy := h2 c
    have c2 := c
    rw [← e, layOk] at c2
    obtain ⟨k1, k2, k3⟩ := of_decide_eq_true c2
    obtain ⟨hok, oc, hD⟩ := f2 k1
    generalize mff (ar 14) (sc 15) 200 0 (mD0 ar) = F' at hy hok hD c
    generalize ff tx len 200 0 1 (da, (updN (updN (updN (updN (updN ds 0 4) 1 0) 2 0) 3 0) 4 3)) = F at k1 k2 k3 hD ⊢
    obtain ⟨r', bg, rp, rt, rdn, rw_, rb, kd, hs, pt, rd⟩ := F'
    obtain ⟨r, D⟩ := F
    have ert : rt = rp := by
      have k2 : D.2 1 = D.2 0 := k2
      obtain ⟨d0, d1, d2, _⟩ := hD
      omega
    obtain ⟨hkd, hst⟩ := lay_st (x := x) hok hD ert
    obtain ⟨_, a0, a1, a2, a3, a4, a5, a6, a7, a8, a10, a12, a15, a14⟩ := hy
    obtain ⟨m0, m1, _⟩ := hok
    obtain ⟨d0, d1, d2, d3, d4, d5, d6, d7, d8, d9, d10⟩ := hD
    rw [RW, PRl, a0, a1, a2, a3, a4, a5, a6, a7, a8, a10, a12, a15, a14]
    exact ⟨h.1, ⟨m1.1, d1, d3, d4, d5, hkd, fun d hd => (d8 d hd).1, d9⟩, hst, rfl, ⟨rfl, UR_0⟩, ⟨rfl, UR_0⟩⟩
theorem F_person {iv wv : Int32} (hM : MI sc ar) (h : RW len tx pa ps x dy gz uk UX UD kk KX KD sc ar) : xPerson pa ps x iv wv = (if inPb (sc 0) iv = true ∧ isPb wv = true then (if wv = 0 then ar 1 iv.toNatClampNeg else mBits (mTell (ar 1) (ar 7) (sc 0) iv.toNatClampNeg) 8 - nI 1) else -1) := by
  obtain ⟨ht, ⟨p2, e0, e2, e3, e4, hk, hh, hw⟩, hs, hg, hu, hv⟩ := h
  have hP : sc 0 ≤ 8 := hM.1.2
  rw [xPerson, e0]
  by_cases c : inPb (sc 0) iv = true ∧ isPb wv = true
  · rw [if_pos c, if_pos c]
    obtain ⟨i, hi, rfl⟩ := inPb_nat c.1 (by omega)
    rw [nI_clamp (by omega)]
    by_cases w0 : wv = 0
    · rw [if_pos w0, if_pos w0]; exact (hk i hi).1
    · rw [if_neg w0, if_neg w0]
      have hT := KB_tell (kd := ar 1) (nw := ar 7) hP hi
      rw [tell_eq (kd := pa 0) (lk := x 0) hP hi (hk i hi).1 (hk i hi).2 (fun j hj => SR_lk hs i j hi hj), kbc] at hT ⊢
      have hl : KB (sc 0) (lst (pa 0) (x 0) (sc 0) (nI i)) := fun j hj => hT j (by rw [b_or, hj, Bool.or_true])
      obtain ⟨n, hn, e⟩ := KB_nat hP hl
      have hb := lst_i (kd := pa 0) (lk := x 0) hP hi
      rw [e] at hb ⊢
      exact (bc8m i (by omega) n hn hb).symm
  · rw [if_neg c, if_neg c]
theorem F_likes {iv jv : Int32} (hM : MI sc ar) (h : RW len tx pa ps x dy gz uk UX UD kk KX KD sc ar) : xLikes ps x iv jv = (if inPb (sc 0) iv = true ∧ inPb (sc 0) jv = true then ar 7 ((1 + (8 * iv.toNatClampNeg)) + jv.toNatClampNeg) else -1) := by
  obtain ⟨ht, ⟨p2, e0, e2, e3, e4, hk, hh, hw⟩, hs, hg, hu, hv⟩ := h
  have hP : sc 0 ≤ 8 := hM.1.2
  rw [xLikes, e0]
  by_cases c : inPb (sc 0) iv = true ∧ inPb (sc 0) jv = true
  · rw [if_pos c, if_pos c]
    obtain ⟨i, hi, rfl⟩ := inPb_nat c.1 (by omega)
    obtain ⟨j, hj, rfl⟩ := inPb_nat c.2 (by omega)
    rw [nI_clamp (n := i) (by omega), nI_clamp (n := j) (by omega)]
    exact SR_lk hs i j hi hj
  · rw [if_neg c, if_neg c]
theorem in03 {wv : Int32} (h : inB wv (nI 0) (nI 3) = true) : wv = nI 0 ∨ wv = nI 1 ∨ wv = nI 2 ∨ wv = nI 3 := by
  obtain ⟨i, hi, rfl⟩ := inB_rng h (by decide) (by decide)
  rcases (by omega : i = 0 ∨ i = 1 ∨ i = 2 ∨ i = 3) with rfl | rfl | rfl | rfl
  · exact Or.inl rfl
  · exact Or.inr (Or.inl rfl)
  · exact Or.inr (Or.inr (Or.inl rfl))
  · exact Or.inr (Or.inr (Or.inr rfl))
theorem F_door {dv wv : Int32} (hM : MI sc ar) (h : RW len tx pa ps x dy gz uk UX UD kk KX KD sc ar) : xDoor pa ps x dv wv = (if inPb (sc 2) dv = true ∧ inB wv (nI 0) (nI 3) = true then (if wv = 0 then ar 3 dv.toNatClampNeg else if wv = nI 1 then ar 7 (65 + dv.toNatClampNeg) else if wv = nI 2 then ar 7 (70 + dv.toNatClampNeg) else mBar (ar 7) (sc 6) dv.toNatClampNeg (sc 0)) else -1) := by
  obtain ⟨ht, ⟨p2, e0, e2, e3, e4, hk, hh, hw⟩, hs, hg, hu, hv⟩ := h
  have hP : sc 0 ≤ 8 := hM.1.2
  have hD : sc 2 ≤ 5 := hM.2.1.2
  rw [xDoor, e2, e4, e0]
  by_cases c : inPb (sc 2) dv = true
  · rw [if_pos c]
    obtain ⟨d, hd, rfl⟩ := inPb_nat c (by omega)
    rw [nI_clamp (by omega)]
    obtain ⟨s1, s2, s3⟩ := hs.2.2.1 d hd
    by_cases w : inB wv (nI 0) (nI 3) = true
    · have hc : inPb (sc 2) (nI d) = true ∧ inB wv (nI 0) (nI 3) = true := ⟨c, w⟩
      rw [if_pos hc]
      rcases in03 w with q | q | q | q
      · rw [q, if_pos rfl, if_pos (show nI 0 = 0 by decide)]; exact hh d hd
      · rw [q, if_neg nne_1_0, if_pos rfl, if_neg (show ¬ nI 1 = 0 by decide), if_pos rfl]; exact s1
      · rw [q, if_neg nne_2_0, if_neg nne_2_1, if_pos rfl, if_neg (show ¬ nI 2 = 0 by decide), if_neg nne_2_1, if_pos rfl]; exact s2
      · rw [q, if_neg nne_3_0, if_neg nne_3_1, if_neg nne_3_2, if_pos rfl, if_neg (show ¬ nI 3 = 0 by decide), if_neg nne_3_1, if_neg nne_3_2]
        exact bar_eq (sc 0) (fun i hi => hs.2.2.2 d i hd hi)
    · have hn : ¬ (inPb (sc 2) (nI d) = true ∧ inB wv (nI 0) (nI 3) = true) := fun q => w q.2
      have n0 : ¬ wv = nI 0 := fun q => w (by rw [q]; decide)
      have n1 : ¬ wv = nI 1 := fun q => w (by rw [q]; decide)
      have n2 : ¬ wv = nI 2 := fun q => w (by rw [q]; decide)
      have n3 : ¬ wv = nI 3 := fun q => w (by rw [q]; decide)
      rw [if_neg hn, if_neg n0, if_neg n1, if_neg n2, if_neg n3]
  · rw [if_neg c, if_neg (by intro q; exact c q.1)]
theorem F_call {iv dv : Int32} (hM : MI sc ar) (h : RW len tx pa ps x dy gz uk UX UD kk KX KD sc ar) : xCallA pa ps x iv dv = (if inPb (sc 0) iv = true ∧ inPb (sc 2) dv = true then mBits (mCallW (ar 1) (sc 0) (ar 7) iv.toNatClampNeg dv.toNatClampNeg (70 + dv.toNatClampNeg)) 8 else -1) := by
  obtain ⟨ht, ⟨p2, e0, e2, e3, e4, hk, hh, hw⟩, hs, hg, hu, hv⟩ := h
  have hP : sc 0 ≤ 8 := hM.1.2
  have hD : sc 2 ≤ 5 := hM.2.1.2
  rw [xCallA, xOkB, e0, e2]
  by_cases c : inPb (sc 0) iv = true ∧ inPb (sc 2) dv = true
  · rw [if_pos (by rw [c.1, c.2]; rfl), if_pos c]
    obtain ⟨i, hi, rfl⟩ := inPb_nat c.1 (by omega)
    obtain ⟨d, hd, rfl⟩ := inPb_nat c.2 (by omega)
    have hT := KB_tell (kd := ar 1) (nw := ar 7) hP hi
    rw [tell_eq (kd := pa 0) (lk := x 0) hP hi (hk i hi).1 (hk i hi).2 (fun j hj => SR_lk hs i j hi hj)] at hT
    rw [nI_clamp (n := i) (by omega), nI_clamp (n := d) (by omega), callW (kd := pa 0) (lk := x 0) hP hi hk (SR_lk hs), pk_us]
    exact bc_eq hP hT
  · rw [if_neg (by intro q; exact c (band q)), if_neg c]
theorem W_put (hM : MI sc ar) (h : RW len tx pa ps x dy gz uk UX UD kk KX KD sc ar) {x' : Nat → Nat → Int32} {dy' : Nat} {st' nw' : Nat → Int32} (hs' : SRl (sc 0) (sc 2) x' dy' st') : RW len tx pa ps x' dy' gz (pushK 8 uk) (pushX 8 uk UX x) (pushD 8 uk UD dy) kk KX KD (updN sc 8 (mRemN (sc 8))) (upA (upA (upA ar 9 (mRemW (ar 9) (ar 7) (sc 8))) 7 st') 28 nw') := by
  obtain ⟨ht, hp, hs, hg, ⟨hu1, hu2⟩, hv⟩ := h
  subst hu1
  obtain ⟨a, b⟩ := UR_put8 hM.1.2 hM.2.1.2 hM.2.2.2.2.1 hu2 hs
  exact ⟨ht, hp, hs', hg, ⟨a, b⟩, hv⟩
theorem W_call {iv dv : Int32} (hM : MI sc ar) (h : RW len tx pa ps x dy gz uk UX UD kk KX KD sc ar) {u1 : (Nat → Nat → Nat) × HV × SV} {u2 : Nat × (Nat → Int32) × (Nat → Int32) × (Nat → Int32)} (h1 : u1.2 = xCallS pa ps (UX, UD, uk) (x, dy) iv dv) (h2 : u2 = (if inPb (sc 0) iv = true ∧ inPb (sc 2) dv = true then (mRemN (sc 8), mRemW (ar 9) (ar 7) (sc 8), mCallW (ar 1) (sc 0) (ar 7) iv.toNatClampNeg dv.toNatClampNeg, mCallW (ar 1) (sc 0) (ar 7) iv.toNatClampNeg dv.toNatClampNeg) else (sc 8, ar 9, ar 7, ar 28))) :
    RW len tx pa ps u1.2.2.1 u1.2.2.2 gz u1.2.1.2.2 u1.2.1.1 u1.2.1.2.1 kk KX KD (updN sc 8 u2.1) (upA (upA (upA ar 9 u2.2.1) 7 u2.2.2.1) 28 u2.2.2.2) := by
  have hR := h
  obtain ⟨ht, ⟨p2, e0, e2, e3, e4, hk, hh, hw⟩, hs, hg, hu, hv⟩ := h
  have hP : sc 0 ≤ 8 := hM.1.2
  have hD : sc 2 ≤ 5 := hM.2.1.2
  rw [xCallS, xOkB, e0, e2] at h1
  by_cases c : inPb (sc 0) iv = true ∧ inPb (sc 2) dv = true
  · rw [if_pos (by rw [c.1, c.2]; rfl)] at h1
    rw [if_pos c] at h2
    obtain ⟨i, hi, rfl⟩ := inPb_nat c.1 (by omega)
    obtain ⟨d, hd, rfl⟩ := inPb_nat c.2 (by omega)
    rw [nI_clamp (n := d) (by omega)] at h1
    rw [nI_clamp (n := i) (by omega), nI_clamp (n := d) (by omega)] at h2
    rw [h1, h2]
    exact W_put hM hR (SR_call hP hD hs hk hi hd)
  · rw [if_neg (by intro q; exact c (band q))] at h1
    rw [if_neg c] at h2
    rw [h1, h2]
    exact hR
theorem bar_has {i d : Nat} (hP : sc 0 ≤ 8) (hi : i < sc 0) (hs : SRl (sc 0) (sc 2) x dy (ar 7)) (hd : d < sc 2) : hasB (mBar (ar 7) (sc 6) d (sc 0)) (nI i) = !decide (x 3 (d * 8 + i) < nI (sc 6)) := by
  rw [hasB_bt _ _ (by omega), bar_bt _ hP, decide_eq_true hi, Bool.true_and, hs.2.2.2 d i hd hi]
theorem F_tries {iv dv : Int32} (hM : MI sc ar) (h : RW len tx pa ps x dy gz uk UX UD kk KX KD sc ar) : xTriesA ps x iv dv = (if inPb (sc 0) iv = true ∧ inPb (sc 2) dv = true then (if hasB (mBar (ar 7) (sc 6) dv.toNatClampNeg (sc 0)) iv = true then -2 else if hasB (ar 7 (70 + dv.toNatClampNeg)) iv = true then nI 1 else nI 0) else -1) := by
  obtain ⟨ht, ⟨p2, e0, e2, e3, e4, hk, hh, hw⟩, hs, hg, hu, hv⟩ := h
  have hP : sc 0 ≤ 8 := hM.1.2
  have hD : sc 2 ≤ 5 := hM.2.1.2
  rw [xTriesA, xOkB, xBar, e0, e2, e4]
  by_cases c : inPb (sc 0) iv = true ∧ inPb (sc 2) dv = true
  · rw [if_pos (by rw [c.1, c.2]; rfl), if_pos c]
    obtain ⟨i, hi, rfl⟩ := inPb_nat c.1 (by omega)
    obtain ⟨d, hd, rfl⟩ := inPb_nat c.2 (by omega)
    rw [nI_clamp (n := i) (by omega), nI_clamp (n := d) (by omega), bar_has hP hi hs hd, (hs.2.2.1 d hd).2.1]
  · rw [if_neg (by intro q; exact c (band q)), if_neg c]
theorem W_tries {iv dv : Int32} (hM : MI sc ar) (h : RW len tx pa ps x dy gz uk UX UD kk KX KD sc ar) {u1 : (Nat → Nat → Nat) × HV × SV} {u2 : Nat × (Nat → Int32) × (Nat → Int32) × (Nat → Int32)} (h1 : u1.2 = xTriesS ps (UX, UD, uk) (x, dy) iv dv) (h2 : u2 = (if inPb (sc 0) iv = true ∧ inPb (sc 2) dv = true then (if hasB (mBar (ar 7) (sc 6) dv.toNatClampNeg (sc 0)) iv = true then (sc 8, ar 9, ar 7, ar 28) else if hasB (ar 7 (70 + dv.toNatClampNeg)) iv = true then (mRemN (sc 8), mRemW (ar 9) (ar 7) (sc 8), ar 7, ar 28) else (mRemN (sc 8), mRemW (ar 9) (ar 7) (sc 8), upd (ar 7) ((75 + (8 * dv.toNatClampNeg)) + iv.toNatClampNeg) (ar 7 ((75 + (8 * dv.toNatClampNeg)) + iv.toNatClampNeg) + nI 1), ar 28)) else (sc 8, ar 9, ar 7, ar 28))) :
    RW len tx pa ps u1.2.2.1 u1.2.2.2 gz u1.2.1.2.2 u1.2.1.1 u1.2.1.2.1 kk KX KD (updN sc 8 u2.1) (upA (upA (upA ar 9 u2.2.1) 7 u2.2.2.1) 28 u2.2.2.2) := by
  have hR := h
  obtain ⟨ht, ⟨p2, e0, e2, e3, e4, hk, hh, hw⟩, hs, hg, hu, hv⟩ := h
  have hP : sc 0 ≤ 8 := hM.1.2
  have hD : sc 2 ≤ 5 := hM.2.1.2
  rw [xTriesS, xOkB, xBar, e0, e2, e4] at h1
  by_cases c : inPb (sc 0) iv = true ∧ inPb (sc 2) dv = true
  · rw [if_pos (by rw [c.1, c.2]; rfl)] at h1
    rw [if_pos c] at h2
    obtain ⟨i, hi, rfl⟩ := inPb_nat c.1 (by omega)
    obtain ⟨d, hd, rfl⟩ := inPb_nat c.2 (by omega)
    rw [nI_clamp (n := i) (by omega), nI_clamp (n := d) (by omega)] at h1 h2
    rw [bar_has hP hi hs hd, ← (hs.2.2.1 d hd).2.1] at h2
    dsimp only at h1
    by_cases b : (!decide (x 3 (d * 8 + i) < nI (sc 6))) = true
    · rw [if_pos b] at h1 h2
      rw [h1, h2]
      exact hR
    · rw [if_neg b] at h1 h2
      by_cases o : hasB (x 2 d) (nI i) = true
      · rw [if_pos o] at h1 h2
        rw [h1, h2]
        exact W_put hM hR hs
      · rw [if_neg o] at h1 h2
        rw [h1, h2, ← hs.2.2.2 d i hd hi]
        exact W_put hM hR (SR_wrong hP hD hs hi hd)
  · rw [if_neg (by intro q; exact c (band q))] at h1
    rw [if_neg c] at h2
    rw [h1, h2]
    exact hR
theorem F_day (hM : MI sc ar) (h : RW len tx pa ps x dy gz uk UX UD kk KX KD sc ar) : nI (dy + 1) = mGoes (ar 1) (sc 0) (sc 2) (ar 7) 0 := by
  obtain ⟨ht, ⟨p2, e0, e2, e3, e4, hk, hh, hw⟩, hs, hg, hu, hv⟩ := h
  rw [(goes_eq (kd := pa 0) (lk := x 0) hM.1.2 hM.2.1.2 hk (SR_lk hs)).2.1, ← hs.1, nI_add]
theorem W_day (hM : MI sc ar) (h : RW len tx pa ps x dy gz uk UX UD kk KX KD sc ar) {u1 : (Nat → Nat → Nat) × HV × SV} {u2 : Nat × (Nat → Int32) × (Nat → Int32) × (Nat → Int32)} (h1 : u1.2 = xDayS pa ps (UX, UD, uk) (x, dy)) (h2 : u2 = (mRemN (sc 8), mRemW (ar 9) (ar 7) (sc 8), mGoes (ar 1) (sc 0) (sc 2) (ar 7), mGoes (ar 1) (sc 0) (sc 2) (ar 7))) :
    RW len tx pa ps u1.2.2.1 u1.2.2.2 gz u1.2.1.2.2 u1.2.1.1 u1.2.1.2.1 kk KX KD (updN sc 8 u2.1) (upA (upA (upA ar 9 u2.2.1) 7 u2.2.2.1) 28 u2.2.2.2) := by
  have hR := h
  obtain ⟨ht, ⟨p2, e0, e2, e3, e4, hk, hh, hw⟩, hs, hg, hu, hv⟩ := h
  rw [xDayS, e0, e2] at h1
  rw [h1, h2]
  exact W_put hM hR (SR_day hM.1.2 hM.2.1.2 hs hk)
theorem alt_ok {vv : Int32} : decide (¬ vv < 0 ∧ vv ≤ nI 9) = inB vv (nI 0) (nI 9) := rfl
theorem F_alter {iv jv vv : Int32} (hM : MI sc ar) (h : RW len tx pa ps x dy gz uk UX UD kk KX KD sc ar) : xAltA ps x iv jv vv = (if inPb (sc 0) iv = true ∧ inPb (sc 0) jv = true ∧ inB vv (nI 0) (nI 9) = true then ar 7 ((1 + (8 * iv.toNatClampNeg)) + jv.toNatClampNeg) else -1) := by
  obtain ⟨ht, ⟨p2, e0, e2, e3, e4, hk, hh, hw⟩, hs, hg, hu, hv⟩ := h
  have hP : sc 0 ≤ 8 := hM.1.2
  rw [xAltA, xAltB, e0, alt_ok]
  by_cases c : inPb (sc 0) iv = true ∧ inPb (sc 0) jv = true ∧ inB vv (nI 0) (nI 9) = true
  · rw [if_pos (by rw [c.1, c.2.1, c.2.2]; rfl), if_pos c]
    obtain ⟨i, hi, rfl⟩ := inPb_nat c.1 (by omega)
    obtain ⟨j, hj, rfl⟩ := inPb_nat c.2.1 (by omega)
    rw [nI_clamp (n := i) (by omega), nI_clamp (n := j) (by omega)]
    exact SR_lk hs i j hi hj
  · rw [if_neg (by intro q; exact c ⟨(band q).1, band (band q).2⟩), if_neg c]
theorem W_alter {iv jv vv : Int32} (hM : MI sc ar) (h : RW len tx pa ps x dy gz uk UX UD kk KX KD sc ar) {u1 : (Nat → Nat → Nat) × HV × SV} {u2 : Nat × (Nat → Int32) × (Nat → Int32) × (Nat → Int32)} (h1 : u1.2 = xAltS ps (UX, UD, uk) (x, dy) iv jv vv) (h2 : u2 = (if inPb (sc 0) iv = true ∧ inPb (sc 0) jv = true ∧ inB vv (nI 0) (nI 9) = true then (mRemN (sc 8), mRemW (ar 9) (ar 7) (sc 8), upd (ar 7) ((1 + (8 * iv.toNatClampNeg)) + jv.toNatClampNeg) vv, ar 28) else (sc 8, ar 9, ar 7, ar 28))) :
    RW len tx pa ps u1.2.2.1 u1.2.2.2 gz u1.2.1.2.2 u1.2.1.1 u1.2.1.2.1 kk KX KD (updN sc 8 u2.1) (upA (upA (upA ar 9 u2.2.1) 7 u2.2.2.1) 28 u2.2.2.2) := by
  have hR := h
  obtain ⟨ht, ⟨p2, e0, e2, e3, e4, hk, hh, hw⟩, hs, hg, hu, hv⟩ := h
  have hP : sc 0 ≤ 8 := hM.1.2
  rw [xAltS, xAltB, e0, alt_ok] at h1
  by_cases c : inPb (sc 0) iv = true ∧ inPb (sc 0) jv = true ∧ inB vv (nI 0) (nI 9) = true
  · rw [if_pos (by rw [c.1, c.2.1, c.2.2]; rfl)] at h1
    rw [if_pos c] at h2
    obtain ⟨i, hi, rfl⟩ := inPb_nat c.1 (by omega)
    obtain ⟨j, hj, rfl⟩ := inPb_nat c.2.1 (by omega)
    rw [nI_clamp (n := i) (by omega), nI_clamp (n := j) (by omega)] at h1 h2
    rw [h1, h2]
    exact W_put hM hR (SR_alter hP hs hi hj c.2.2)
  · rw [if_neg (by intro q; exact c ⟨(band q).1, band (band q).2⟩)] at h1
    rw [if_neg c] at h2
    rw [h1, h2]
    exact hR
theorem F_undo (h : RW len tx pa ps x dy gz uk UX UD kk KX KD sc ar) : xUndA (UX, UD, uk) = (if sc 8 = 0 then -2 else nI (sc 8 - 1)) := by
  have e : uk = sc 8 := h.2.2.2.2.1.1
  subst e
  rfl
theorem W_undo (hM : MI sc ar) (h : RW len tx pa ps x dy gz uk UX UD kk KX KD sc ar) {u1 : (Nat → Nat → Nat) × HV × SV} {u2 : Nat × (Nat → Int32)} (h1 : u1.2 = xUndS (UX, UD, uk) (x, dy)) (h2 : u2 = (if sc 8 = 0 then (0, ar 7) else (sc 8 - 1, cpL (ar 7) (ar 9) 0 (115 * (sc 8 - 1)) 115))) :
    RW len tx pa ps u1.2.2.1 u1.2.2.2 gz u1.2.1.2.2 u1.2.1.1 u1.2.1.2.1 kk KX KD (updN sc 8 u2.1) (upA ar 7 u2.2) := by
  obtain ⟨ht, hp, hs, hg, ⟨hu1, hu2⟩, hv⟩ := h
  subst hu1
  rw [xUndS] at h1
  by_cases c : sc 8 = 0
  · rw [if_pos c] at h2
    rw [if_pos (by exact c)] at h1
    rw [h1, h2]
    exact ⟨ht, hp, hs, hg, ⟨c, hu2⟩, hv⟩
  · rw [if_neg c] at h2
    rw [if_neg (by exact c)] at h1
    rw [h1, h2]
    exact ⟨ht, hp, SR_take hM.1.2 hM.2.1.2 (Nat.pos_of_ne_zero c) hu2, hg, ⟨rfl, UR_le hu2 (Nat.sub_le _ _)⟩, hv⟩
theorem F_shutOut (h : RW len tx pa ps x dy gz uk UX UD kk KX KD sc ar) : soB (pa 2) (x 2) (ps 2) = mSo (ar 7) (ar 3) (sc 2) := by
  obtain ⟨ht, ⟨p2, e0, e2, e3, e4, hk, hh, hw⟩, hs, hg, hu, hv⟩ := h
  rw [e2]
  exact so_eq (sc 2) (fun d hd => ⟨hh d hd, (hs.2.2.1 d hd).2.1⟩)
theorem in_iff {nv : Int32} {k : Nat} : inB nv (nI 0) (nI k) = true ↔ (¬ nv < 0 ∧ nv ≤ nI k) := by
  rw [inB]; exact decide_eq_true_iff
theorem F_knowsBy {dv nv : Int32} (hM : MI sc ar) (h : RW len tx pa ps x dy gz uk UX UD kk KX KD sc ar) : xKnowsBy pa ps x dv nv = (if inPb (sc 2) dv = true ∧ inB nv (nI 0) (nI 20) = true then mKnB (ar 1) (sc 0) dv.toNatClampNeg (ar 7) nv.toNatClampNeg (70 + dv.toNatClampNeg) else -1) := by
  obtain ⟨ht, ⟨p2, e0, e2, e3, e4, hk, hh, hw⟩, hs, hg, hu, hv⟩ := h
  have hP : sc 0 ≤ 8 := hM.1.2
  have hD : sc 2 ≤ 5 := hM.2.1.2
  rw [xKnowsBy, e0, e2]
  by_cases c : inPb (sc 2) dv = true ∧ inB nv (nI 0) (nI 20) = true
  · rw [if_pos (by exact ⟨c.1, in_iff.mp c.2⟩), if_pos c]
    obtain ⟨d, hd, rfl⟩ := inPb_nat c.1 (by omega)
    rw [nI_clamp (n := d) (by omega), (knB (kd := pa 0) (lk := x 0) (d := d) hP hk (SR_lk hs) _).2, (hs.2.2.1 d hd).2.1]
  · rw [if_neg (by intro q; exact c ⟨q.1, in_iff.mpr q.2⟩), if_neg c]
theorem F_when {iv dv : Int32} (hM : MI sc ar) (h : RW len tx pa ps x dy gz uk UX UD kk KX KD sc ar) : xWhen pa ps x iv dv = (if inPb (sc 0) iv = true ∧ inPb (sc 2) dv = true then mWh (ar 1) (sc 0) dv.toNatClampNeg iv 21 0 (ar 7) else -1) := by
  obtain ⟨ht, ⟨p2, e0, e2, e3, e4, hk, hh, hw⟩, hs, hg, hu, hv⟩ := h
  have hP : sc 0 ≤ 8 := hM.1.2
  have hD : sc 2 ≤ 5 := hM.2.1.2
  rw [xWhen, e0, e2]
  by_cases c : inPb (sc 0) iv = true ∧ inPb (sc 2) dv = true
  · rw [if_pos c, if_pos c]
    obtain ⟨d, hd, rfl⟩ := inPb_nat c.2 (by omega)
    rw [nI_clamp (n := d) (by omega), wh_eq (kd := pa 0) (lk := x 0) hP hk 21 0 _ (SR_lk hs), (hs.2.2.1 d hd).2.1]
  · rw [if_neg c, if_neg c]
theorem F_lets {dv nv : Int32} (hM : MI sc ar) (h : RW len tx pa ps x dy gz uk UX UD kk KX KD sc ar) : xLets pa ps x dv nv = (if inPb (sc 2) dv = true ∧ inB nv (nI 0) (nI 5) = true then mLets (ar 1) (sc 0) (ar 7) (ar 3 dv.toNatClampNeg) dv.toNatClampNeg nv.toNatClampNeg (sc 0) else -1) := by
  obtain ⟨ht, ⟨p2, e0, e2, e3, e4, hk, hh, hw⟩, hs, hg, hu, hv⟩ := h
  have hP : sc 0 ≤ 8 := hM.1.2
  have hD : sc 2 ≤ 5 := hM.2.1.2
  rw [xLets, e0, e2]
  by_cases c : inPb (sc 2) dv = true ∧ inB nv (nI 0) (nI 5) = true
  · rw [if_pos (by exact ⟨c.1, in_iff.mp c.2⟩), if_pos c]
    obtain ⟨d, hd, rfl⟩ := inPb_nat c.1 (by omega)
    rw [nI_clamp (n := d) (by omega), lets_eq (kd := pa 0) (lk := x 0) hP hk (SR_lk hs) (sc 0) (Nat.le_refl _), hh d hd]
  · rw [if_neg (by intro q; exact c ⟨q.1, in_iff.mpr q.2⟩), if_neg c]
theorem F_keeps {iv dv nv : Int32} (hM : MI sc ar) (h : RW len tx pa ps x dy gz uk UX UD kk KX KD sc ar) : xKeeps pa ps x iv dv nv = (if inPb (sc 0) iv = true ∧ inPb (sc 2) dv = true ∧ inB nv (nI 0) (nI 5) = true then ((nI 1 <<< (nI (sc 0) &&& 31)) - nI 1) &&& (mLets (ar 1) (sc 0) (ar 7) iv dv.toNatClampNeg nv.toNatClampNeg (sc 0) ^^^ (-1)) else -1) := by
  obtain ⟨ht, ⟨p2, e0, e2, e3, e4, hk, hh, hw⟩, hs, hg, hu, hv⟩ := h
  have hP : sc 0 ≤ 8 := hM.1.2
  rw [xKeeps, e0, e2]
  by_cases c : inPb (sc 0) iv = true ∧ inPb (sc 2) dv = true ∧ inB nv (nI 0) (nI 5) = true
  · rw [if_pos (by exact ⟨c.1, c.2.1, in_iff.mp c.2.2⟩), if_pos c, lets_eq (kd := pa 0) (lk := x 0) hP hk (SR_lk hs) (sc 0) (Nat.le_refl _), allB]
  · rw [if_neg (by intro q; exact c ⟨q.1, q.2.1, in_iff.mpr q.2.2⟩), if_neg c]
theorem F_allIn {dv : Int32} (hM : MI sc ar) (h : RW len tx pa ps x dy gz uk UX UD kk KX KD sc ar) : xAllIn pa ps x dv = (if dv = -1 then mBits (mSo (ar 7) (ar 3) (sc 2)) 8 else if inPb (sc 2) dv = true then (if mShut (ar 7) (ar 3) dv.toNatClampNeg = true then nI (loL (mLets (ar 1) (sc 0) (ar 7) (ar 3 dv.toNatClampNeg) dv.toNatClampNeg 0 (sc 0)) 8 0) else -4) else -1) := by
  have es := F_shutOut h
  obtain ⟨ht, ⟨p2, e0, e2, e3, e4, hk, hh, hw⟩, hs, hg, hu, hv⟩ := h
  have hP : sc 0 ≤ 8 := hM.1.2
  have hD : sc 2 ≤ 5 := hM.2.1.2
  have hho : hsOk (ar 3) (sc 0) (sc 2) := hM.2.2.2.2.2.2.2.2.1
  rw [xAllIn, es, e0, e2]
  by_cases m : dv = -1
  · rw [if_pos m, if_pos m]
    exact bc_eq (P := 8) (by decide) (KB_so (by decide) (sc 2) (by omega))
  · rw [if_neg m, if_neg m]
    by_cases c : inPb (sc 2) dv = true
    · rw [if_pos c, if_pos c]
      obtain ⟨d, hd, rfl⟩ := inPb_nat c (by omega)
      rw [nI_clamp (by omega), hasB_bt _ _ (by omega), so_bt _ (by omega), decide_eq_true hd, Bool.true_and]
      by_cases q : mShut (ar 7) (ar 3) d = true
      · rw [if_pos q, if_pos q, ← lets_eq (kd := pa 0) (lk := x 0) (d := d) hP hk (SR_lk hs) (sc 0) (Nat.le_refl _), hh d hd]
        refine lo_eq hP (KB_lets hP (sc 0) (Nat.le_refl _)) (fun z => ?_)
        obtain ⟨i, hi, e⟩ := hsOk_at hho hd hP
        have hb := mLets_host (kd := ar 1) (P := sc 0) (st := ar 7) (h := i) (d := d) (by omega) (sc 0) hi
        rw [← e, z, bt_nI0] at hb
        cases hb
      · rw [if_neg q, if_neg q]
    · rw [if_neg c, if_neg c]
theorem F_friend {iv wv : Int32} (hM : MI sc ar) (h : RW len tx pa ps x dy gz uk UX UD kk KX KD sc ar) : xFriend ps x iv wv = (if inPb (sc 0) iv = true ∧ isPb wv = true then (if wv = 0 then (mFr (ar 7) iv.toNatClampNeg (sc 0)).1 else (mFr (ar 7) iv.toNatClampNeg (sc 0)).2) else -1) := by
  obtain ⟨ht, ⟨p2, e0, e2, e3, e4, hk, hh, hw⟩, hs, hg, hu, hv⟩ := h
  have hP : sc 0 ≤ 8 := hM.1.2
  rw [xFriend, e0]
  by_cases c : inPb (sc 0) iv = true ∧ isPb wv = true
  · obtain ⟨i, hi, rfl⟩ := inPb_nat c.1 (by omega)
    rw [if_pos c, if_pos c, nI_clamp (by omega), fr_end p2 (fun j hj => hs.2.1 j i hj hi)]
  · rw [if_neg c, if_neg c]
theorem F_seen {iv dv cv : Int32} (hM : MI sc ar) (h : RW len tx pa ps x dy gz uk UX UD kk KX KD sc ar) : xSeenA ps gz iv dv cv = (if inPb (sc 0) iv = true ∧ inPb (sc 2) dv = true ∧ isPb cv = true then (if sc 12 = 8 then -3 else nI (sc 12 + 1)) else -1) := by
  obtain ⟨ht, ⟨p2, e0, e2, e3, e4, hk, hh, hw⟩, hs, hg, hu, hv⟩ := h
  have h8 : sc 12 ≤ 8 := hM.2.2.2.2.2.2.1
  rw [xSeenA, xSeenB, e0, e2, hg]
  by_cases c : inPb (sc 0) iv = true ∧ inPb (sc 2) dv = true ∧ isPb cv = true
  · rw [if_pos (by rw [c.1, c.2.1, c.2.2]; rfl), if_pos c]
    by_cases q : sc 12 = 8
    · rw [if_pos (by omega), if_pos q]
    · rw [if_neg (by omega), if_neg q]
  · rw [if_neg (by intro q; exact c ⟨(band q).1, band (band q).2⟩), if_neg c]
theorem W_seen {iv dv cv : Int32} (hM : MI sc ar) (h : RW len tx pa ps x dy gz uk UX UD kk KX KD sc ar) {u1 : (Nat → Nat → Int32) × Nat} {u2 : Nat × (Nat → Int32)} (h1 : u1 = xSeenS ps ga gz iv dv cv) (h2 : u2 = (if inPb (sc 0) iv = true ∧ inPb (sc 2) dv = true ∧ isPb cv = true ∧ ¬ sc 12 = 8 then (sc 12 + 1, upd (upd (upd (ar 13) (3 * sc 12) iv) ((3 * sc 12) + 1) dv) ((3 * sc 12) + 2) cv) else (sc 12, ar 13))) :
    RW len tx pa ps x dy u1.2 uk UX UD kk KX KD (updN sc 12 u2.1) (upA ar 13 u2.2) := by
  have hR := h
  obtain ⟨ht, hp, hs, hg, hu, hv⟩ := h
  have h8 : sc 12 ≤ 8 := hM.2.2.2.2.2.2.1
  have e0 : ps 0 = sc 0 := hp.2.1
  have e2 : ps 2 = sc 2 := hp.2.2.1
  rw [xSeenS, xSeenB, e0, e2, hg] at h1
  by_cases c : inPb (sc 0) iv = true ∧ inPb (sc 2) dv = true ∧ isPb cv = true ∧ ¬ sc 12 = 8
  · rw [if_pos (by exact ⟨by rw [c.1, c.2.1, c.2.2.1]; rfl, by omega⟩)] at h1
    rw [if_pos c] at h2
    rw [h1, h2]
    exact ⟨ht, hp, hs, rfl, hu, hv⟩
  · rw [if_neg (by intro q; exact c ⟨(band q.1).1, (band (band q.1).2).1, (band (band q.1).2).2, by omega⟩)] at h1
    rw [if_neg c] at h2
    rw [h1, h2]
    exact ⟨ht, hp, hs, rfl, hu, hv⟩
theorem F_called0 {dv : Int32} (h : RW len tx pa ps x dy gz uk UX UD kk KX KD sc ar) (h0 : gz = 0) : xCalled pa ps x ga gz dv = (if inPb (sc 2) dv = true then mCd (ar 1) (ar 7) (ar 13) (sc 0) (sc 12) dv (sc 0) else -1) := by
  obtain ⟨ht, ⟨p2, e0, e2, e3, e4, hk, hh, hw⟩, hs, hg, hu, hv⟩ := h
  subst h0
  rw [xCalled, e0, e2, ← hg, lkA, ciA]
  by_cases c : inPb (sc 2) dv = true
  · rw [if_pos c, if_pos c]; exact ca_0 (sc 0)
  · rw [if_neg c, if_neg c]
theorem F_guess {kv : Int32} (h : RW len tx pa ps x dy gz uk UX UD kk KX KD sc ar) : xGuess pa ps kv = xGuess (fun _ => ar 5) (fun _ => sc 4) kv := by
  obtain ⟨ht, ⟨p2, e0, e2, e3, e4, hk, hh, hw⟩, hs, hg, hu, hv⟩ := h
  rw [xGuess, xGuess, e3]
  by_cases c : 0 ≤ kv
  · rw [if_pos c, if_pos c]; exact gu_eq hw (sc 4) (Nat.le_refl _)
  · rw [if_neg c, if_neg c]
theorem F_mean {pv : Int32} (hM : MI sc ar) (h : RW len tx pa ps x dy gz uk UX UD kk KX KD sc ar) : xMean pa ps pv = (if isPb pv = true then (if sc 4 = 0 then -4 else nI (mLow (mMn (ar 5) (sc 4) (sc 4)) (mSumP (ar 5) (sc 4)) pv)) else -1) := by
  obtain ⟨ht, ⟨p2, e0, e2, e3, e4, hk, hh, hw⟩, hs, hg, hu, hv⟩ := h
  have hp : ptOk (ar 5) (sc 4) := hM.2.2.2.2.2.2.2.2.2
  have hW : sc 4 ≤ 6 := hM.2.2.1
  have b1 := mSumP_le hp (sc 4) (Nat.le_refl _)
  have b2 := mMn_le (V := sc 4) hp hW (sc 4) (Nat.le_refl _)
  rw [xMean, e3]
  by_cases c : isPb pv = true
  · rw [if_pos c, if_pos c]
    by_cases q : sc 4 = 0
    · rw [if_pos q, if_pos q]
    · rw [if_neg q, if_neg q, mn_eq hw hp (sc 4) (Nat.le_refl _), sum_eq hw hp (sc 4) (Nat.le_refl _)]
      exact lt_eq (by omega) (by omega) (by omega)
  · rw [if_neg c, if_neg c]
theorem F_inTime {pv : Int32} (hM : MI sc ar) (h : RW len tx pa ps x dy gz uk UX UD kk KX KD sc ar) : xInTime pa ps pv = (if isPb pv = true then (if sc 4 = 0 then -4 else nI (mLow (mIn (ar 5) (sc 4) (sc 6) (sc 4)) (mSumP (ar 5) (sc 4)) pv)) else -1) := by
  obtain ⟨ht, ⟨p2, e0, e2, e3, e4, hk, hh, hw⟩, hs, hg, hu, hv⟩ := h
  have hp : ptOk (ar 5) (sc 4) := hM.2.2.2.2.2.2.2.2.2
  have hW : sc 4 ≤ 6 := hM.2.2.1
  have hB : sc 6 ≤ 9 := hM.2.2.2.1
  have b1 := mSumP_le hp (sc 4) (Nat.le_refl _)
  have b2 := mIn_le (V := sc 4) (B := sc 6) hp (sc 4) (Nat.le_refl _)
  rw [xInTime, e3, e4]
  by_cases c : isPb pv = true
  · rw [if_pos c, if_pos c]
    by_cases q : sc 4 = 0
    · rw [if_pos q, if_pos q]
    · rw [if_neg q, if_neg q, it_eq hW hB hw hp (sc 4) (Nat.le_refl _), sum_eq hw hp (sc 4) (Nat.le_refl _)]
      exact lt_eq (by omega) (by omega) (by omega)
  · rw [if_neg c, if_neg c]
theorem in_iff' {nv : Int32} {k : Nat} : inB nv (nI 0) (nI k) = true ↔ (¬ nv < 0 ∧ ¬ nI k < nv) := by
  rw [in_iff, Int32.not_lt (a := nI k)]
theorem F_likely {dv nv pv : Int32} (hM : MI sc ar) (h : RW len tx pa ps x dy gz uk UX UD kk KX KD sc ar) : xLikely pa ps x dv nv pv = (if inPb (sc 2) dv = true ∧ inB nv (nI 0) (nI 3) = true ∧ isPb pv = true then nI (mLow (mLkA (ar 1) (ar 3) (sc 0) dv.toNatClampNeg (ar 7) nv.toNatClampNeg (sc 0 ^ nv.toNatClampNeg)) (sc 0 ^ nv.toNatClampNeg) pv) else -1) := by
  obtain ⟨ht, ⟨p2, e0, e2, e3, e4, hk, hh, hw⟩, hs, hg, hu, hv⟩ := h
  have hP : sc 0 ≤ 8 := hM.1.2
  have h0 : 0 < sc 0 := hM.1.1
  have hD : sc 2 ≤ 5 := hM.2.1.2
  rw [xLikely, e0, e2]
  by_cases c : inPb (sc 2) dv = true ∧ inB nv (nI 0) (nI 3) = true ∧ isPb pv = true
  · have q := in_iff'.mp c.2.1
    rw [if_pos (by exact ⟨c.1, q.1, q.2, c.2.2⟩), if_pos c]
    obtain ⟨d, hd, rfl⟩ := inPb_nat c.1 (by omega)
    obtain ⟨n, hn, rfl⟩ := inB_rng c.2.1 (by decide) (by decide)
    rw [nI_clamp (n := d) (by omega), nI_clamp (n := n) (by omega)]
    have hx2 : x 2 d = ar 7 (70 + d) := (hs.2.2.1 d hd).2.1
    have b1 := pow_le hP hn.2
    have b2 : 0 < sc 0 ^ n := Nat.pow_pos h0
    have b3 := mLkA_le (ar 1) (ar 3) (sc 0) d (ar 7) n (sc 0 ^ n)
    rw [hx2, ← lkA_eq (hs := ar 3) hP h0 hk (SR_lk hs) (hh d hd)]
    exact lt_eq (by omega) b2 (by omega)
  · rw [if_neg (by intro q; exact c ⟨q.1, in_iff'.mpr ⟨q.2.1, q.2.2.1⟩, q.2.2.2⟩), if_neg c]
theorem F_street {zv nv wv : Int32} (hM : MI sc ar) (h : RW len tx pa ps x dy gz uk UX UD kk KX KD sc ar) : xStreet pa ps x zv nv wv = (if inB zv (nI 0) (nI 9999) = true ∧ inB nv (nI 1) (nI 60) = true ∧ isPb wv = true then (if wv = 0 then mSo (mSt (ar 1) (ar 3) (sc 0) (sc 2) zv.toNatClampNeg (ar 7) nv.toNatClampNeg).1 (ar 3) (sc 2) else nI (mSt (ar 1) (ar 3) (sc 0) (sc 2) zv.toNatClampNeg (ar 7) nv.toNatClampNeg).2) else -1) := by
  obtain ⟨ht, ⟨p2, e0, e2, e3, e4, hk, hh, hw⟩, hs, hg, hu, hv⟩ := h
  have hP : sc 0 ≤ 8 := hM.1.2
  have hD : sc 2 ≤ 5 := hM.2.1.2
  have iff1 : inB nv (nI 1) (nI 60) = true ↔ (¬ nv < nI 1 ∧ ¬ nI 60 < nv) := by
    rw [inB, decide_eq_true_iff, Int32.not_lt (a := nI 60)]
  rw [xStreet, xStB, e0, e2]
  by_cases c : inB zv (nI 0) (nI 9999) = true ∧ inB nv (nI 1) (nI 60) = true ∧ isPb wv = true
  · have q1 := in_iff'.mp c.1
    have q2 := iff1.mp c.2.1
    rw [if_pos (by rw [decide_eq_true ⟨q1.1, q1.2, q2.1, q2.2⟩, c.2.2]; rfl), if_pos c]
    obtain ⟨s1, s2, s3⟩ := st_eq (z := zv.toNatClampNeg) (f := x 2) (hs := pa 2) (hs' := ar 3) hP hD hM.1.1 hM.2.1.1 hk (SR_lk hs) hh (fun d hd => (hs.2.2.1 d hd).2.1) nv.toNatClampNeg
    by_cases w : wv = 0
    · rw [if_pos w, if_pos w]; exact so_eq (sc 2) (fun d hd => ⟨hh d hd, s2 d hd⟩)
    · rw [if_neg w, if_neg w, s3]
  · rw [if_neg (by intro q; obtain ⟨a, b⟩ := band q; have a := of_decide_eq_true a; exact c ⟨in_iff'.mpr ⟨a.1, a.2.1⟩, iff1.mpr a.2.2, b⟩), if_neg c]
theorem F_keep (hM : MI sc ar) (h : RW len tx pa ps x dy gz uk UX UD kk KX KD sc ar) : xKeepA (KX, KD, kk) = (if sc 10 = 2 then -3 else nI (sc 10 + 1)) := by
  have e : kk = sc 10 := h.2.2.2.2.2.1
  have h2 : sc 10 ≤ 2 := hM.2.2.2.2.2.1
  subst e
  rw [xKeepA]
  by_cases c : sc 10 = 2
  · rw [if_pos (by show 2 ≤ sc 10; omega), if_pos c]
  · rw [if_neg (by show ¬ 2 ≤ sc 10; omega), if_neg c, pushK_lt (by show sc 10 < 2; omega)]
theorem W_keep (hM : MI sc ar) (h : RW len tx pa ps x dy gz uk UX UD kk KX KD sc ar) {u1 : (Nat → Nat → Nat) × HV} {u2 : Nat × (Nat → Int32)} (h1 : u1.2 = xKeepS (KX, KD, kk) (x, dy)) (h2 : u2 = (if sc 10 = 2 then (sc 10, ar 11) else (sc 10 + 1, cpL (ar 11) (ar 7) (115 * sc 10) 0 115))) :
    RW len tx pa ps x dy gz uk UX UD u1.2.2.2 u1.2.1 u1.2.2.1 (updN sc 10 u2.1) (upA ar 11 u2.2) := by
  have hR := h
  obtain ⟨ht, hp, hs, hg, hu, ⟨hv1, hv2⟩⟩ := h
  have h10 : sc 10 ≤ 2 := hM.2.2.2.2.2.1
  subst hv1
  rw [xKeepS] at h1
  by_cases c : sc 10 = 2
  · rw [if_pos (by show 2 ≤ sc 10; omega)] at h1
    rw [if_pos c] at h2
    rw [h1, h2]
    exact hR
  · rw [if_neg (by show ¬ 2 ≤ sc 10; omega), putH] at h1
    rw [if_neg c] at h2
    rw [h1, h2]
    have hk := UR_add (n := 2) hM.1.2 hM.2.1.2 (by omega) hv2 hs
    rw [← pushK_lt (n := 2) (show sc 10 < 2 by omega)] at hk
    exact ⟨ht, hp, hs, hg, hu, ⟨pushK_lt (n := 2) (show sc 10 < 2 by omega), hk⟩⟩
theorem F_back (h : RW len tx pa ps x dy gz uk UX UD kk KX KD sc ar) : xBackA (KX, KD, kk) = (if sc 10 = 0 then -2 else nI (sc 10 - 1)) := by
  have e : kk = sc 10 := h.2.2.2.2.2.1
  subst e
  rfl
theorem W_back (hM : MI sc ar) (h : RW len tx pa ps x dy gz uk UX UD kk KX KD sc ar) {u1 : Nat × HV × SV} {u2 : Nat × Nat × (Nat → Int32)} (h1 : u1 = xBackS uk (KX, KD, kk) (x, dy)) (h2 : u2 = (if sc 10 = 0 then (sc 8, 0, ar 7) else (0, sc 10 - 1, cpL (ar 7) (ar 11) 0 (115 * (sc 10 - 1)) 115))) :
    RW len tx pa ps u1.2.2.1 u1.2.2.2 gz u1.1 UX UD u1.2.1.2.2 u1.2.1.1 u1.2.1.2.1 (updN (updN sc 8 u2.1) 10 u2.2.1) (upA ar 7 u2.2.2) := by
  obtain ⟨ht, hp, hs, hg, hu, ⟨hv1, hv2⟩⟩ := h
  subst hv1
  rw [xBackS] at h1
  by_cases c : sc 10 = 0
  · rw [if_pos (by exact c)] at h1
    rw [if_pos c] at h2
    rw [h1, h2]
    exact ⟨ht, hp, hs, hg, hu, ⟨c, hv2⟩⟩
  · rw [if_neg (by exact c)] at h1
    rw [if_neg c] at h2
    rw [h1, h2]
    exact ⟨ht, hp, SR_take hM.1.2 hM.2.1.2 (Nat.pos_of_ne_zero c) hv2, hg, ⟨rfl, UR_0⟩, ⟨rfl, UR_le hv2 (Nat.sub_le _ _)⟩⟩
theorem F_count {wv : Int32} (h : RW len tx pa ps x dy gz uk UX UD kk KX KD sc ar) : xCount ps dy gz uk kk len wv = (if wv = nI 0 then nI (sc 0) else if wv = nI 1 then nI (sc 2) else if wv = nI 2 then nI (sc 4) else if wv = nI 3 then ar 7 0 else if wv = nI 4 then nI (sc 6) else if wv = nI 5 then nI (sc 12) else if wv = nI 6 then nI (sc 8) else if wv = nI 7 then nI (sc 10) else if wv = nI 8 then nI (sc 15) else -1) := by
  obtain ⟨ht, ⟨p2, e0, e2, e3, e4, hk, hh, hw⟩, hs, hg, hu, hv⟩ := h
  rw [xCount, e0, e2, e3, e4, hs.1, hg, hu.1, hv.1, ht.1]
end RWS
