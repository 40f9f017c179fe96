/-! the two new objects belong together -/
def FFi : Int32 × DV := ff (sL 76) 76 200 0 1 ((fun _ => zF), (updN (updN (updN (updN (updN (updN (updN (updN (updN (updN (fun _ => 0) 0 4) 1 0) 2 0) 3 0) 4 3) 0 4) 1 0) 2 0) 3 0) 4 3))
theorem st_1 : FFi.1 = -4 := by decide +kernel
theorem st_ps : FFi.2.2 0 = 5 ∧ FFi.2.2 2 = 4 ∧ FFi.2.2 3 = 3 ∧ FFi.2.2 4 = 2 := by decide +kernel
theorem st_sc : m8sc 0 = 5 ∧ m8sc 2 = 4 ∧ m8sc 4 = 3 ∧ m8sc 6 = 2 ∧ m8sc 8 = 0 ∧ m8sc 10 = 0 ∧ m8sc 12 = 0 ∧ m8sc 15 = 0 := by decide +kernel
theorem st_kd : ∀ i, i < 5 → FFi.2.1 0 i = m8ar 1 i ∧ (m8ar 1 i = nI 0 ∨ m8ar 1 i = nI 1 ∨ m8ar 1 i = nI 2 ∨ m8ar 1 i = nI 3) := by decide +kernel
theorem st_hs : ∀ d, d < 4 → FFi.2.1 2 d = m8ar 3 d := by decide +kernel
theorem st_pt : ∀ w, w < 3 → FFi.2.1 4 w = m8ar 5 w := by decide +kernel
theorem st_lk : ∀ i, i < 5 → ∀ j, j < 5 → FFi.2.1 1 (i * 8 + j) = m8ar 7 ((1 + (8 * i)) + j) ∧ inB (m8ar 7 ((1 + (8 * i)) + j)) (nI 0) (nI 9) = true := by decide +kernel
theorem st_cl : ∀ d, d < 4 → FFi.2.1 3 d = m8ar 7 (65 + d) := by decide +kernel
theorem st_kn : ∀ d, d < 4 → layX FFi.2 (fun _ => zF) 2 d = m8ar 7 (70 + d) := by decide +kernel
theorem st_kb : ∀ d, d < 4 → ∀ j, j < 32 → bt (m8ar 7 (70 + d)) j = true → j < 5 := by decide +kernel
theorem st_wr : ∀ d, d < 4 → ∀ i, i < 5 → m8ar 7 ((75 + (8 * d)) + i) = nI 0 := by decide +kernel
theorem st_0 : m8ar 7 0 = nI 0 := by decide +kernel
theorem W_start {da : Nat → Nat → Int32} {ds : Nat → Nat} (e : (da, ds) = FFi.2) : RW 0 (sL 76) da ds (layX (da, ds) (fun _ => zF)) 0 0 0 (fun _ _ => zF) (fun _ => 0) 0 (fun _ _ => zF) (fun _ => 0) m8sc m8ar := by
  have a1 := st_ps
  have a2 := st_kd
  have a3 := st_hs
  have a4 := st_pt
  have a5 := st_lk
  have a6 := st_cl
  have a7 := st_kn
  rw [← e] at a1 a2 a3 a4 a5 a6 a7
  obtain ⟨p0, p2, p3, p4⟩ := a1
  obtain ⟨s0, s2, s4, s6, s8, s10, s12, s15⟩ := st_sc
  rw [RW, PRl, s0, s2, s4, s6, s8, s10, s12, s15]
  refine ⟨⟨rfl, TR_0 _ _⟩, ⟨by decide, p0, p2, p3, p4, fun i hi => a2 i hi, a3, a4⟩, ⟨st_0.symm, fun i j hi hj => a5 i hi j hj, fun d hd => ⟨a6 d hd, a7 d hd, fun j hj => ?_⟩, fun d i hd hi => (st_wr d hd i hi).symm⟩, rfl, ⟨rfl, UR_0⟩, ⟨rfl, UR_0⟩⟩
  by_cases h : j < 32
  · exact st_kb d hd j h hj
  · rw [b_big (by omega)] at hj; cases hj
