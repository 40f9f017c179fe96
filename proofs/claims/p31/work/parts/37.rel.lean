/-! what holds of the two objects all along -/
def XI (len : Nat) (tx : Nat → Int32) (ps : Nat → Nat) (gz uk kk : Nat) : Prop := len ≤ 200 ∧ (∀ k, narrow .char (.int (tx k)) = .int (tx k)) ∧ ps 0 ≤ 8 ∧ ps 2 ≤ 5 ∧ ps 3 ≤ 6 ∧ gz ≤ 8 ∧ uk ≤ 8 ∧ kk ≤ 2
def MI (sc : Nat → Nat) (ar : Nat → Nat → Int32) : Prop := (0 < sc 0 ∧ sc 0 ≤ 8) ∧ (0 < sc 2 ∧ sc 2 ≤ 5) ∧ sc 4 ≤ 6 ∧ sc 6 ≤ 9 ∧ sc 8 ≤ 8 ∧ sc 10 ≤ 2 ∧ sc 12 ≤ 8 ∧ sc 15 ≤ 200 ∧ hsOk (ar 3) (sc 0) (sc 2) ∧ ptOk (ar 5) (sc 4)
theorem pushK_le {n k : Nat} (h : k ≤ n) : pushK n k ≤ n := by
  rw [pushK]
  cases hb : Nat.ble n k
  · show k + 1 ≤ n
    have : ¬ n ≤ k := fun q => by rw [Nat.ble_eq_true_of_le q] at hb; cases hb
    omega
  · exact Nat.le_refl n
theorem X_write {len : Nat} {tx : Nat → Int32} {ps : Nat → Nat} {gz uk kk : Nat} {lv : Int32} {u : Nat × (Nat → Int32)} (h : XI len tx ps gz uk kk) (hu : u = xWrS len tx lv) : XI u.1 u.2 ps gz uk kk := by
  obtain ⟨h1, h2, h3⟩ := h
  rw [xWrS] at hu
  split at hu
  · subst hu; exact ⟨h1, h2, h3⟩
  · rename_i c
    subst hu
    have c2 : ¬ 200 ≤ len := fun q => c (Or.inr q)
    refine ⟨by show len + 1 ≤ 200; omega, fun k => ?_, h3⟩
    show narrow .char (.int (upd tx len _ k)) = .int (upd tx len _ k)
    by_cases e : k = len
    · subst e; rw [pk_us]; exact nar_nar _
    · rw [pk_un e]; exact h2 k
theorem X_len {len len' : Nat} {tx : Nat → Int32} {ps : Nat → Nat} {gz uk kk : Nat} (h : XI len tx ps gz uk kk) (h2 : len' ≤ 200) : XI len' tx ps gz uk kk := ⟨h2, h.2⟩
theorem X_gz {len gz' : Nat} {tx : Nat → Int32} {ps : Nat → Nat} {gz uk kk : Nat} (h : XI len tx ps gz uk kk) (h2 : gz' ≤ 8) : XI len tx ps gz' uk kk := ⟨h.1, h.2.1, h.2.2.1, h.2.2.2.1, h.2.2.2.2.1, h2, h.2.2.2.2.2.2⟩
theorem X_uk {len uk' : Nat} {tx : Nat → Int32} {ps : Nat → Nat} {gz uk kk : Nat} (h : XI len tx ps gz uk kk) (h2 : uk' ≤ 8) : XI len tx ps gz uk' kk := ⟨h.1, h.2.1, h.2.2.1, h.2.2.2.1, h.2.2.2.2.1, h.2.2.2.2.2.1, h2, h.2.2.2.2.2.2.2⟩
theorem X_kk {len kk' : Nat} {tx : Nat → Int32} {ps : Nat → Nat} {gz uk kk : Nat} (h : XI len tx ps gz uk kk) (h2 : kk' ≤ 2) : XI len tx ps gz uk kk' := ⟨h.1, h.2.1, h.2.2.1, h.2.2.2.1, h.2.2.2.2.1, h.2.2.2.2.2.1, h.2.2.2.2.2.2.1, h2⟩
theorem X_lay {len : Nat} {tx : Nat → Int32} {pa x : Nat → Nat → Int32} {ps : Nat → Nat} {dy gz uk kk : Nat} {F : Int32 × DV} {u : Nat × Nat × DV × DV × SV × Nat × Nat × Nat} (h : XI len tx ps gz uk kk) (h1 : u.2.2.2 = (if layOk F = true then layT F.2 x else ((pa, ps), (x, dy), gz, uk, kk))) (h2 : OKD len (u.1, u.2.2.1)) (h3 : layOk F = true → u.2.2.1 = F.2) : XI len tx u.2.2.2.1.2 u.2.2.2.2.2.1 u.2.2.2.2.2.2.1 u.2.2.2.2.2.2.2 := by
  by_cases c : layOk F = true
  · rw [if_pos c] at h1
    rw [h1]
    have e := h3 c
    have o := h2
    rw [OKD, e] at o
    exact ⟨h.1, h.2.1, o.2.1, o.2.2.2.1, o.2.2.2.2, Nat.zero_le _, Nat.zero_le _, Nat.zero_le _⟩
  · rw [if_neg c] at h1
    rw [h1]
    exact h
theorem uk_call {pa : Nat → Nat → Int32} {ps : Nat → Nat} {h : HV} {s : SV} {iv dv : Int32} (hk : h.2.2 ≤ 8) : (xCallS pa ps h s iv dv).1.2.2 ≤ 8 := by
  rw [xCallS]; split; exact pushK_le hk; exact hk
theorem uk_tries {ps : Nat → Nat} {h : HV} {s : SV} {iv dv : Int32} (hk : h.2.2 ≤ 8) : (xTriesS ps h s iv dv).1.2.2 ≤ 8 := by
  rw [xTriesS]; split
  · split
    · exact hk
    · split
      · exact pushK_le hk
      · exact pushK_le hk
  · exact hk
theorem uk_alter {ps : Nat → Nat} {h : HV} {s : SV} {iv jv vv : Int32} (hk : h.2.2 ≤ 8) : (xAltS ps h s iv jv vv).1.2.2 ≤ 8 := by
  rw [xAltS]; split; exact pushK_le hk; exact hk
theorem uk_undo {h : HV} {s : SV} (hk : h.2.2 ≤ 8) : (xUndS h s).1.2.2 ≤ 8 := by
  rw [xUndS]; split
  · exact hk
  · show h.2.2 - 1 ≤ 8; omega
theorem gz_seen {ps : Nat → Nat} {ga : Nat → Nat → Int32} {gz : Nat} {iv dv cv : Int32} (hk : gz ≤ 8) : (xSeenS ps ga gz iv dv cv).2 ≤ 8 := by
  rw [xSeenS]; split
  · rename_i c; show gz + 1 ≤ 8; omega
  · exact hk
theorem kk_keep {h : HV} {s : SV} (hk : h.2.2 ≤ 2) : (xKeepS h s).2.2 ≤ 2 := by
  rw [xKeepS]; split
  · exact hk
  · exact pushK_le hk
theorem uk_back {uk : Nat} {h : HV} {s : SV} (hu : uk ≤ 8) : (xBackS uk h s).1 ≤ 8 := by
  rw [xBackS]; split
  · exact hu
  · exact Nat.zero_le _
theorem kk_back {uk : Nat} {h : HV} {s : SV} (hk : h.2.2 ≤ 2) : (xBackS uk h s).2.1.2.2 ≤ 2 := by
  rw [xBackS]; split
  · exact hk
  · show h.2.2 - 1 ≤ 2; omega
theorem mRemN_le {k : Nat} (h : k ≤ 8) : mRemN k ≤ 8 := by
  rw [mRemN]; split <;> omega
theorem M_8 {sc : Nat → Nat} {ar : Nat → Nat → Int32} (h : MI sc ar) {k : Nat} (hk : k ≤ 8) {f w z : Nat → Int32} : MI (updN sc 8 k) (upA (upA (upA ar 9 f) 7 w) 28 z) := ⟨h.1, h.2.1, h.2.2.1, h.2.2.2.1, hk, h.2.2.2.2.2⟩
theorem M_lay {sc sc' : Nat → Nat} {ar ar' : Nat → Nat → Int32} {F : Int32 × MDV} (h : MI sc ar) (h1 : mLayOk F = true → mLayY sc ar F.2 sc' ar') (h2 : mLayOk F = false → mSame sc ar sc' ar') : MI sc' ar' ∧ sc' 15 = sc 15 := by
  obtain ⟨r0, bg, rp, rt, rdn, rw_, rb, kd, hs, pt, rd⟩ := F
  cases c : mLayOk (r0, bg, rp, rt, rdn, rw_, rb, kd, hs, pt, rd)
  · obtain ⟨a0, a1, a2, a3, a4, a5, a6, a7, a8, a9, a10, a11, a12, a13, a15, a14⟩ := h2 c
    refine ⟨?_, a15⟩
    rw [MI, a0, a2, a3, a4, a5, a6, a8, a10, a12, a15]
    exact h
  · obtain ⟨ok, a0, a1, a2, a3, a4, a5, a6, a7, a8, a10, a12, a15, a14⟩ := h1 c
    have hc : r0 = -4 ∧ rt = rp ∧ ¬ rdn = 0 := by rw [mLayOk] at c; exact of_decide_eq_true c
    refine ⟨?_, a15⟩
    rw [MI, a0, a2, a3, a4, a5, a6, a8, a10, a12, a15]
    obtain ⟨o0, o1, o2, o3, o4, o5, o6, o7, o8, o9⟩ := ok
    have hne : ¬ rdn = 0 := hc.2.2
    exact ⟨⟨Nat.lt_of_lt_of_le (by decide) o1.1, o1.2⟩, ⟨Nat.pos_of_ne_zero hne, o3⟩, o4, o5, Nat.zero_le _, Nat.zero_le _, Nat.zero_le _, h.2.2.2.2.2.2.2.1, o7, o9⟩
