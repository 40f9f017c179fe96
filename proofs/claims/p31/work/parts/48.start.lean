set_option maxHeartbeats 4000000 in
set_option maxRecDepth 100000 in
theorem whole_start {p : Program} {e : Env} {s : State} {m : MethodId} {below : List Frame} {meth : Method} {c : Code} (l : Launch) {b L : Nat} {xs : Nat → Int32} (hL : L ≤ 256) (C0 : lw_At p s m meth c b L xs) : W p l e room_1 s m #[Value.ref b] below meth c s.heap [] 0 0 (lw_Z below #[Value.ref b] s) (entryFrame m ([Value.ref b] : List Value).toArray 4) := by
  obtain ⟨hx, hb, hr, hml, hown, hts0, hX, hbl, hlocks, hgv⟩ := id C0
  have hts : ∀ w ∈ wsL_law, w.before #[Value.ref b] s = true := fun w h => hts0 w (wsL_law_in w h)
  have hown : s.vm.findClass RL = some m.cls := hown
  obtain ⟨A, hAe⟩ : ∃ A : Nat → Prop, A = fun q : Nat => s.heap.size ≤ q := ⟨_, rfl⟩
  have hA : ∀ q : Nat, s.heap.size ≤ q → A q := fun q h => by rw [hAe]; exact h
  have hAo : ∀ a : Nat, a < s.heap.size → ¬ A a := fun a h => by rw [hAe]; exact Nat.not_le.mpr h
  have hbA : ¬ A b := hAo b hbl
  obtain ⟨cc0, iS0, hKn0⟩ := u_known (C := RX0) (T := TX0) (N := 2) (n := 2) hts inlX0 (hts (Cond.instantiable RX0 2) (List.mem_append_right _ (List.mem_append_left _ (List.mem_append_left _ (List.mem_of_getElem? (i := 10) rfl)))))
  obtain ⟨cc1, iS1, hKn1⟩ := u_known (C := RX1) (T := TX1) (N := 10) (n := 10) hts inlX1 (hts (Cond.instantiable RX1 10) (List.mem_append_right _ (List.mem_append_left _ (List.mem_append_left _ (List.mem_of_getElem? (i := 14) rfl)))))
  obtain ⟨cc2, iS2, hKn2⟩ := u_known (C := RX2) (T := TX2) (N := 4) (n := 4) hts inlX2 (hts (Cond.instantiable RX2 4) (List.mem_append_right _ (List.mem_append_left _ (List.mem_append_left _ (List.mem_of_getElem? (i := 18) rfl)))))
  obtain ⟨cc3, iS3, hKn3⟩ := u_known (C := RX3) (T := TX3) (N := 2) (n := 2) hts inlX3 (hts (Cond.instantiable RX3 2) (List.mem_append_right _ (List.mem_append_left _ (List.mem_append_right _ (List.mem_append_left _ (List.mem_of_getElem? (i := 11) rfl))))))
  obtain ⟨cc4, iS4, hKn4⟩ := u_known (C := RX4) (T := TX4) (N := 4) (n := 4) hts inlX4 (hts (Cond.instantiable RX4 4) (List.mem_append_right _ (List.mem_append_left _ (List.mem_append_right _ (List.mem_append_left _ (List.mem_of_getElem? (i := 7) rfl))))))
  obtain ⟨cc5, iS5, hKn5⟩ := u_known (C := RX5) (T := TX5) (N := 5) (n := 5) hts inlX5 (hts (Cond.instantiable RX5 5) (List.mem_append_right _ (List.mem_append_left _ (List.mem_append_left _ (List.mem_of_getElem? (i := 23) rfl)))))
  obtain ⟨cc6, iS6, hKn6⟩ := u_known (C := RX6) (T := TX6) (N := 2) (n := 2) hts inlX6 (hts (Cond.instantiable RX6 2) (List.mem_append_right _ (List.mem_append_left _ (List.mem_append_right _ (List.mem_append_left _ (List.mem_of_getElem? (i := 3) rfl))))))
  obtain ⟨cc7, iS7, hKn7⟩ := u_known (C := RX7) (T := TX7) (N := 10) (n := 10) hts inlX7 (hts (Cond.instantiable RX7 10) (List.mem_append_right _ (List.mem_append_left _ (List.mem_append_left _ (List.mem_of_getElem? (i := 0) rfl)))))
  obtain ⟨cc8, iS8, hKn8⟩ := u_known (C := RX8) (T := TX8) (N := 29) (n := 29) hts inlX8 (hts (Cond.instantiable RX8 29) (List.mem_append_right _ (List.mem_append_left _ (List.mem_append_left _ (List.mem_of_getElem? (i := 2) rfl)))))
  obtain ⟨dC, dI, hKc⟩ : ∃ (dC : Nat → ClassId) (dI : Nat → Nat → Nat), ∀ (k : Nat) (q : vw_C), vwCl[k]? = some q → u_Kn s q.1 q.2.1 q.2.2 (dC k) (dI k) := by
    refine ⟨fun k => if k = 0 then cc0 else if k = 1 then cc1 else if k = 2 then cc2 else if k = 3 then cc3 else if k = 4 then cc4 else if k = 5 then cc5 else if k = 6 then cc6 else if k = 7 then cc7 else cc8, fun k => if k = 0 then iS0 else if k = 1 then iS1 else if k = 2 then iS2 else if k = 3 then iS3 else if k = 4 then iS4 else if k = 5 then iS5 else if k = 6 then iS6 else if k = 7 then iS7 else iS8, ?_⟩
    intro k q hq
    match k, hq with
    | 0, hq => cases hq; exact hKn0
    | 1, hq => cases hq; exact hKn1
    | 2, hq => cases hq; exact hKn2
    | 3, hq => cases hq; exact hKn3
    | 4, hq => cases hq; exact hKn4
    | 5, hq => cases hq; exact hKn5
    | 6, hq => cases hq; exact hKn6
    | 7, hq => cases hq; exact hKn7
    | 8, hq => cases hq; exact hKn8
    | k + 9, hq => simp [vwCl] at hq
  obtain ⟨ci_, ki_, co_, ai1, ai2, ai3⟩ := Cond.arrayClass_spec (hts (Cond.arrayClass .int) (List.mem_append_right _ (List.mem_append_left _ (List.mem_append_right _ (List.mem_append_left _ (List.mem_of_getElem? (i := 15) rfl))))))
  obtain ⟨cch_, kch_, coh_, ac1, ac2, ac3⟩ := Cond.arrayClass_spec (hts (Cond.arrayClass .char) (List.mem_append_right _ (List.mem_append_left _ (List.mem_append_right _ (List.mem_append_left _ (List.mem_of_getElem? (i := 20) rfl))))))
  have hAO : va_AO "LastCallersWord$State" s := va_AO.of (hts0 (Cond.arrayOver (.object "LastCallersWord$State")) (List.mem_of_getElem? (i := 230) (by decide +kernel)))
  obtain ⟨cs_, cq_, kq_, aq1, aq2, aq3, aq4, aq5⟩ := Cond.arrayOver_spec hAO
  obtain ⟨g, hg⟩ : ∃ g : GG, g = ((dC, dI), ci_, cch_, cq_) := ⟨_, rfl⟩
  have hK : va_K g.1 vwCl (tysG g) s := by
    rw [hg]
    refine ⟨hKc, fun k q hq => ?_⟩
    match k, hq with
    | 0, hq => cases hq; exact ⟨fun n z => ⟨fun k h => (by cases h), ki_, ai2, co_, ai3⟩, ai1⟩
    | 1, hq => cases hq; exact ⟨fun n z => ⟨fun k h => (by cases h), kch_, ac2, coh_, ac3⟩, ac1⟩
    | 2, hq => cases hq; exact ⟨fun n z => ⟨fun k h => (by cases h), kq_, aq3, cs_, aq4⟩, ⟨kq_, cs_, aq3, aq4, aq1, aq5⟩⟩
    | k + 3, hq => simp [tysG] at hq
  have hKK : KK g s := ⟨hK, (va_Nw.of rfl (hts0 (Cond.methodLinkNest RX6 52 yX7_pair RX7) (List.mem_of_getElem? (i := 388) (by decide +kernel)))), (va_Nw.of rfl (hts0 (Cond.methodLinkNest RX6 55 yX7_has RX7) (List.mem_of_getElem? (i := 389) (by decide +kernel)))), (va_Nw.of rfl (hts0 (Cond.methodLinkNest RX2 81 yX7_pair RX7) (List.mem_of_getElem? (i := 325) (by decide +kernel))))⟩
  have hKC : KC g s := ⟨hKK, (va_Nw.of rfl (hts0 (Cond.methodLinkNest RX7 9 yX0_init RX7) (List.mem_of_getElem? (i := 66) (by decide +kernel)))), (va_Nw.of rfl (hts0 (Cond.methodLinkNest RX7 18 yX1_init RX7) (List.mem_of_getElem? (i := 82) (by decide +kernel)))), (va_Nw.of rfl (hts0 (Cond.methodLinkNest RX7 37 yX5_init RX7) (List.mem_of_getElem? (i := 161) (by decide +kernel)))), (va_Nw.of rfl (hts0 (Cond.methodLinkNest RX7 53 yX4_init RX7) (List.mem_of_getElem? (i := 202) (by decide +kernel)))), (va_Nw.of rfl (hts0 (Cond.methodLinkNest RX3 25 yX5_init RX7) (List.mem_of_getElem? (i := 231) (by decide +kernel)))), hAO⟩
  have hs := flat_of_before _ hgv
  have key : ∀ j, j < 76 → (Cond.eq (.elem (.field (Term.string "LastCallersWord" 74) "java/lang/String" "value" "[B") (.int (Int32.ofNat j))) (.int (sBY.getD j 0))) ∈ flatC (Jvm.Cond.and given_1 narrow_1) := by decide +kernel
  obtain ⟨adK, adV, hvS, hev⟩ := vk_Sof (N := 1) (tm := fun _ => (Term.string "LastCallersWord" 74)) (len := [76]) (byt := [sBY]) (A := A) (args := #[Value.ref b]) (s := s) (fun i hi => by obtain rfl : i = 0 := (by omega); decide) (fun i hi => hs _ (by decide +kernel)) (fun i hi => hs _ (by decide +kernel)) (fun i hi => hs _ (by decide +kernel)) (fun i hi => by obtain rfl : i = 0 := (by omega); exact hs _ (by decide +kernel)) (fun i hi j hj => by obtain rfl : i = 0 := (by omega); exact hs _ (key j hj)) (fun i j hi hj hij => absurd (show i = j by omega) hij) hAo
  have hSB : SB (adK 0) (adV 0) A s := ⟨⟨fun i hi => by obtain rfl : i = 0 := (by omega); exact hvS.1 0 (by decide), fun i j hi hj _ => by omega⟩, va_Zof (hts0 (Cond.laysStatic "java/lang/String" "COMPACT_STRINGS" "Z") (List.mem_of_getElem? (i := 250) (by decide +kernel))) (hts (Cond.initialized RJ0) (List.mem_append_right _ (List.mem_append_left _ (List.mem_append_right _ (List.mem_append_right _ (List.mem_append_right _ (List.mem_append_right _ (List.mem_append_left _ (List.mem_of_getElem? (i := 7) rfl))))))))) (va_eqt (hs (Cond.eq (.static "java/lang/String" "COMPACT_STRINGS" "Z") (.int 1)) (by decide +kernel))) hAo, va_Zqof (hts0 (Cond.laysStatic "jdk/internal/util/Preconditions" "SIOOBE_FORMATTER" "Ljava/util/function/BiFunction;") (List.mem_of_getElem? (i := 266) (by decide +kernel))) (hts (Cond.initialized RJ3) (List.mem_append_right _ (List.mem_append_left _ (List.mem_append_right _ (List.mem_append_right _ (List.mem_append_right _ (List.mem_append_right _ (List.mem_append_right _ (List.mem_append_left _ (List.mem_of_getElem? (i := 10) rfl)))))))))) (hs (Cond.isRef (.static "jdk/internal/util/Preconditions" "SIOOBE_FORMATTER" "Ljava/util/function/BiFunction;")) (by decide +kernel)) hAo⟩
  have hvk : vk_R RX7 74 sTX (adK 0) s := vk_R.of (A := #[Value.ref b]) (hts0 (Cond.stringRef RX7 74 sTX) (List.mem_of_getElem? (i := 240) (by decide +kernel))) (hev 0 (by decide))
  have hl := lv_entry ([.ref b]) (n := 4) (Nat.le_of_ble_eq_true rfl)
  rw [lg_entry_eq]
  generalize (lg_sl ([.ref b]) ++ List.replicate (4 - (lg_sl ([.ref b])).length) Slot.unset).toArray = ls at hl ⊢
  have hl : lv_has ls 4 [(0, .ref b)] := hl
  have hS : va_S A s.heap s.heap [] := va_S.rf
  have hP : va_P g.1 vwCl [] s.heap := fun k q h => by simp at h
  have hD : va_D A [] := ⟨fun i j p q h => by simp at h, fun k q h => by simp at h⟩
  have ctx : CallFix p m c code 4 s #[Value.ref b] wsL_law RL := ⟨hx, hb, hml, hown, hts⟩
  refine va_new (D := g.1) (cl := vwCl) (ci := 7) (fs := [.null, .null, .null, .null, .null, .null, .null, .null, .null, .null]) (C := RX7) (T := TX7) (N := 10) hx hb hts inlX7 tyX7 tyX7_ok hown (hts (Cond.classLink RL 7 RX7) (List.mem_append_left _ (List.mem_append_left _ (List.mem_of_getElem? (i := 0) rfl)))) (hts (Cond.instantiable RX7 10) (List.mem_append_right _ (List.mem_append_left _ (List.mem_append_left _ (List.mem_of_getElem? (i := 0) rfl))))) (hts (Cond.initialized RX7) (List.mem_append_right _ (List.mem_append_left _ (List.mem_append_left _ (List.mem_of_getElem? (i := 1) rfl))))) hK hP hD hS hA rfl (fun j hj => by rcases (by omega : j = 0 ∨ j = 1 ∨ j = 2 ∨ j = 3 ∨ j = 4 ∨ j = 5 ∨ j = 6 ∨ j = 7 ∨ j = 8 ∨ j = 9) with rfl | rfl | rfl | rfl | rfl | rfl | rfl | rfl | rfl | rfl <;> rfl) (Nat.le_of_ble_eq_true rfl) (Nat.le_of_ble_eq_true rfl) dL_law_0 (fun q7 H hP hD hS => ?_)
  have hP : va_P g.1 vwCl [(q7, .inr (7, [.null, .null, .null, .null, .null, .null, .null, .null, .null, .null]))] H := hP
  have hD : va_D A [(q7, .inr (7, [.null, .null, .null, .null, .null, .null, .null, .null, .null, .null]))] := hD
  refine W.widen (k := 1) (n := 10) (by omega) (by omega) ?_
  refine lv_dup hx hb dL_law_3 rfl ?_
  refine ci_call7 (As := []) (rest := [.ref q7]) (b := q7) (wr1 := []) ctx hKC hP hD hS hA hSB hvk (c_X7_init l g H.size (adK 0) (adV 0) q7) gL_law_X7_init (hts (Cond.methodLink RL 9 yX7_init) (List.mem_append_left _ (List.mem_append_left _ (List.mem_of_getElem? (i := 2) rfl)))) (hts (Cond.initialized RX7) (List.mem_append_right _ (List.mem_append_left _ (List.mem_append_left _ (List.mem_of_getElem? (i := 1) rfl))))) rfl (hts (Cond.instanceMethod yX7_init) (List.mem_append_right _ (List.mem_append_left _ (List.mem_append_left _ (List.mem_of_getElem? (i := 4) rfl))))) rfl rfl rfl hdX7_init.2 ⟨Nat.le_of_ble_eq_true rfl, Nat.le_of_ble_eq_true rfl⟩ [0] [] rfl rfl rfl rfl (by decide) hl.1 rfl rfl (Nat.le_of_ble_eq_true rfl) dL_law_4 ⟨Nat.le_of_ble_eq_true rfl, Nat.le_of_ble_eq_true rfl⟩ (fun u H locs hu hP hD hS => ?_)
  obtain ⟨hu0, hok, hoc, hff⟩ := hu
  obtain ⟨ad, ub, kb, pl, oc, da, ds⟩ := u
  have hu0 : ad 0 0 = q7 := hu0
  subst hu0
  have hP : va_P g.1 vwCl (xW g ad ub kb 0 (sL 76) pl oc da ds da ds (layX (da, ds) (fun _ => zF)) 0 (fun _ => zF) 0 0 (fun _ _ => zF) (fun _ => 0) 0 (fun _ _ => zF) (fun _ => 0) zF) H := hP
  have hD : va_D A (xW g ad ub kb 0 (sL 76) pl oc da ds da ds (layX (da, ds) (fun _ => zF)) 0 (fun _ => zF) 0 0 (fun _ _ => zF) (fun _ => 0) 0 (fun _ _ => zF) (fun _ => 0) zF) := hD
  refine W.widen (k := 81) (n := 1770) (by omega) (by omega) ?_
  refine lv_astore_n (lv' := [(1, .ref (ad 0 0)), (0, .ref b)]) hx hb dL_law_7 rfl hl (by decide) rfl (fun ls hl => ?_)
  refine va_new (D := g.1) (cl := vwCl) (ci := 8) (fs := [.int (nI 0), .null, .int (nI 0), .null, .int (nI 0), .null, .int (nI 0), .null, .int (nI 0), .null, .int (nI 0), .null, .int (nI 0), .null, .null, .int (nI 0), .int (nI 0), .null, .int (nI 0), .int (nI 0), .int (nI 0), .null, .int (nI 0), .null, .int (nI 0), .null, .int (nI 0), .null, .null]) (C := RX8) (T := TX8) (N := 29) hx hb hts inlX8 tyX8 tyX8_ok hown (hts (Cond.classLink RL 10 RX8) (List.mem_append_left _ (List.mem_append_left _ (List.mem_of_getElem? (i := 1) rfl)))) (hts (Cond.instantiable RX8 29) (List.mem_append_right _ (List.mem_append_left _ (List.mem_append_left _ (List.mem_of_getElem? (i := 2) rfl))))) (hts (Cond.initialized RX8) (List.mem_append_right _ (List.mem_append_left _ (List.mem_append_left _ (List.mem_of_getElem? (i := 3) rfl))))) hK hP hD hS hA rfl (fun j hj => by rcases (by omega : j = 0 ∨ j = 1 ∨ j = 2 ∨ j = 3 ∨ j = 4 ∨ j = 5 ∨ j = 6 ∨ j = 7 ∨ j = 8 ∨ j = 9 ∨ j = 10 ∨ j = 11 ∨ j = 12 ∨ j = 13 ∨ j = 14 ∨ j = 15 ∨ j = 16 ∨ j = 17 ∨ j = 18 ∨ j = 19 ∨ j = 20 ∨ j = 21 ∨ j = 22 ∨ j = 23 ∨ j = 24 ∨ j = 25 ∨ j = 26 ∨ j = 27 ∨ j = 28) with rfl | rfl | rfl | rfl | rfl | rfl | rfl | rfl | rfl | rfl | rfl | rfl | rfl | rfl | rfl | rfl | rfl | rfl | rfl | rfl | rfl | rfl | rfl | rfl | rfl | rfl | rfl | rfl | rfl <;> rfl) (Nat.le_of_ble_eq_true rfl) (Nat.le_of_ble_eq_true rfl) dL_law_8 (fun q8 H hP hD hS => ?_)
  have hP : va_P g.1 vwCl ((xW g ad ub kb 0 (sL 76) pl oc da ds da ds (layX (da, ds) (fun _ => zF)) 0 (fun _ => zF) 0 0 (fun _ _ => zF) (fun _ => 0) 0 (fun _ _ => zF) (fun _ => 0) zF) ++ [(q8, .inr (8, [.int (nI 0), .null, .int (nI 0), .null, .int (nI 0), .null, .int (nI 0), .null, .int (nI 0), .null, .int (nI 0), .null, .int (nI 0), .null, .null, .int (nI 0), .int (nI 0), .null, .int (nI 0), .int (nI 0), .int (nI 0), .null, .int (nI 0), .null, .int (nI 0), .null, .int (nI 0), .null, .null]))]) H := hP
  have hD : va_D A ((xW g ad ub kb 0 (sL 76) pl oc da ds da ds (layX (da, ds) (fun _ => zF)) 0 (fun _ => zF) 0 0 (fun _ _ => zF) (fun _ => 0) 0 (fun _ _ => zF) (fun _ => 0) zF) ++ [(q8, .inr (8, [.int (nI 0), .null, .int (nI 0), .null, .int (nI 0), .null, .int (nI 0), .null, .int (nI 0), .null, .int (nI 0), .null, .int (nI 0), .null, .null, .int (nI 0), .int (nI 0), .null, .int (nI 0), .int (nI 0), .int (nI 0), .null, .int (nI 0), .null, .int (nI 0), .null, .int (nI 0), .null, .null]))]) := hD
  refine W.widen (k := 82) (n := 1799) (by omega) (by omega) ?_
  refine lv_dup hx hb dL_law_11 rfl ?_
  refine ci_callI (As := []) (rest := [.ref q8]) (b := q8) (wr1 := (xW g ad ub kb 0 (sL 76) pl oc da ds da ds (layX (da, ds) (fun _ => zF)) 0 (fun _ => zF) 0 0 (fun _ _ => zF) (fun _ => 0) 0 (fun _ _ => zF) (fun _ => 0) zF)) ctx hKC hP hD hS hA (c_X8_init l g H.size q8) gL_law_X8_init (hts (Cond.methodLink RL 12 yX8_init) (List.mem_append_left _ (List.mem_append_left _ (List.mem_of_getElem? (i := 3) rfl)))) (hts (Cond.initialized RX8) (List.mem_append_right _ (List.mem_append_left _ (List.mem_append_left _ (List.mem_of_getElem? (i := 3) rfl))))) rfl (hts (Cond.instanceMethod yX8_init) (List.mem_append_right _ (List.mem_append_left _ (List.mem_append_right _ (List.mem_append_right _ (List.mem_append_right _ (List.mem_append_right _ (List.mem_append_right _ (List.mem_append_right _ (List.mem_append_right _ (List.mem_append_right _ (List.mem_append_right _ (List.mem_append_right _ (List.mem_append_right _ (List.mem_append_left _ (List.mem_of_getElem? (i := 21) rfl)))))))))))))))) rfl rfl rfl hdX8_init.2 ⟨Nat.le_of_ble_eq_true rfl, Nat.le_of_ble_eq_true rfl⟩ [81] [0, 1, 2, 3, 4, 5, 6, 7, 8, 9, 10, 11, 12, 13, 14, 15, 16, 17, 18, 19, 20, 21, 22, 23, 24, 25, 26, 27, 28, 29, 30, 31, 32, 33, 34, 35, 36, 37, 38, 39, 40, 41, 42, 43, 44, 45, 46, 47, 48, 49, 50, 51, 52, 53, 54, 55, 56, 57, 58, 59, 60, 61, 62, 63, 64, 65, 66, 67, 68, 69, 70, 71, 72, 73, 74, 75, 76, 77, 78, 79, 80] rfl rfl rfl rfl (by decide) hl.1 rfl rfl (Nat.le_of_ble_eq_true rfl) dL_law_12 ⟨Nat.le_of_ble_eq_true rfl, Nat.le_of_ble_eq_true rfl⟩ (fun u H locs hu hP hD hS => ?_)
  obtain ⟨a, sc, ar⟩ := u
  have hu1 : sc = m8sc := hu.1
  have hu2 : ar = m8ar := hu.2
  have hP : va_P g.1 vwCl ((xW g ad ub kb 0 (sL 76) pl oc da ds da ds (layX (da, ds) (fun _ => zF)) 0 (fun _ => zF) 0 0 (fun _ _ => zF) (fun _ => 0) 0 (fun _ _ => zF) (fun _ => 0) zF) ++ mW g q8 a sc ar) H := hP
  have hD : va_D A ((xW g ad ub kb 0 (sL 76) pl oc da ds da ds (layX (da, ds) (fun _ => zF)) 0 (fun _ => zF) 0 0 (fun _ _ => zF) (fun _ => 0) 0 (fun _ _ => zF) (fun _ => 0) zF) ++ mW g q8 a sc ar) := hD
  refine W.widen (k := 96) (n := 3558) (by omega) (by omega) ?_
  refine lv_astore_n (lv' := [(2, .ref q8), (1, .ref (ad 0 0)), (0, .ref b)]) hx hb dL_law_15 rfl hl (by decide) rfl (fun ls hl => ?_)
  refine lv_iconst (v := nI 0) hx hb dL_law_16 (by decide) ?_
  refine lv_istore_n (lv' := [(3, .int (nI 0)), (2, .ref q8), (1, .ref (ad 0 0)), (0, .ref b)]) hx hb dL_law_17 rfl hl (by decide) rfl (fun ls hl => ?_)
  have LC : LCx p s m meth c b L xs A g := ⟨hx, hb, hml, hown, hts, hKK, hX, hbl, hbA⟩
  have hR : (Rl 0 (sL 76) da ds (layX (da, ds) (fun _ => zF)) 0 (fun _ => zF) 0 0 (fun _ _ => zF) (fun _ => 0) 0 (fun _ _ => zF) (fun _ => 0) sc ar) := R_start hok hu1 hu2 hff
  refine law_loop LC hL hr hlocks (fun q h => by rw [hAe] at h; exact h) (L + 1) 0 (by omega) (Nat.zero_le _) hR H locs hP hD hS ls hl
-- ===== YOUR PART ENDS =====
set_option maxHeartbeats 4000000 in
theorem lw_walk (l : Launch) (b : Addr) (xs : List Int32) : MetFree l x (headSpec (Jvm.Cond.code x code maxLocals ret :: tables_1) room_1) (lw_P b xs) (fun _ _ _ _ _ => True) lw_Q := by
  refine MetFree.of_bodyS (code := code) (maxLocals := maxLocals) (ret := ret) (by decide) ?_ ?_
  · intro args s m h hn
    obtain ⟨meth, c, h1, h2, h3, h4, h5, h6, -, -⟩ := Cond.code_spec hn (atoms_spec (ws := Jvm.Cond.code x code maxLocals ret :: tables_1) h _ List.mem_cons_self)
    exact ⟨meth, c, h1, h2, h3, h4, h5, h6⟩
  · intro p e s m args below meth c s₁ B hml0 hP _
    obtain ⟨rfl, hx, hbd, hgv⟩ := hP
    obtain ⟨scr, harrAt, hlist, hof, hsmall⟩ := hx
    obtain ⟨hcb, hkn, -, -⟩ := State.arrayAt?_spec harrAt
    have hown : s.vm.findClass R_law = some m.cls := findClass_of_methodNamed B.named
    have hts0 : ∀ c ∈ (Jvm.Cond.code x code maxLocals ret :: tables_1), c.before #[Value.ref b] s = true := atoms_spec (ws := Jvm.Cond.code x code maxLocals ret :: tables_1) B.pre
    have hts : ∀ w ∈ lw_tbl, w.before #[Value.ref b] s = true := k2_hts_sels lw_privs (fun w hw => hts0 w (List.mem_cons_of_mem _ hw)) lw_privs_ok
    have hml : c.maxLocals = 4 := B.maxLocals_eq (hts0 _ List.mem_cons_self)
    have X₀ : Stand p l e room_1 s m #[Value.ref b] below meth c s₁ [] 0 0 := Stand.of_body B
    have hh0 : s₁.heap = s.heap := by rw [B.state]; rfl
    have hsz : scr.slots.size = xs.length := by rw [← Array.length_toList, hlist, List.length_map]
    have hval : ∀ j : Nat, j < xs.length → scr.slots[j]? = some (.int (xs.getD j 0)) := fun j hj => by
      rw [← Array.getElem?_toList, hlist]
      simp [hj]
    have hbl : b < s.heap.size := (Array.getElem?_eq_some_iff.mp hcb).1
    have hX : va_X b xs.length (fun j => xs.getD j 0) s s.heap := ⟨scr, hcb, hof, hkn, hsz, hval⟩
    have K : W p l e room_1 s m #[Value.ref b] below meth c s₁.heap [] 0 0 (lw_Z below #[Value.ref b] s) (entryFrame m ([Value.ref b] : List Value).toArray 4) := by
      rw [hh0]
      exact whole_start l hbd ⟨B.exec, B.bytes, B.returns, hml, hown, hts, hX, hbl, B.notSynchronized, hgv⟩
    obtain ⟨t, a1, o, b1, b2, b3⟩ := K s₁ rfl X₀
    exact ⟨t, o, a1, b1, b2, b3⟩
theorem lw_pre_spec {args : Array Value} {s : State} (h : (Jvm.Cond.and given_1 narrow_1).before args s = true) (hr : rest_1_c.before args s = true) : ∃ (b : Addr) (xs : List Int32), lw_P b xs args s := by
  have hs := flat_of_before _ h
  have hq := flat_of_before _ hr
  have hc : (Cond.count 1).before args s = true := hs _ (by decide +kernel)
  have harr : (Cond.arrayOf (.arg 0) .int).before args s = true := hs _ (by decide +kernel)
  have hle : (Cond.le (.length (.arg 0)) (.int 256)).before args s = true := hs _ (by decide +kernel)
  have hlen : (Cond.isInt (.length (.arg 0))).before args s = true := hq _ (by decide +kernel)
  have hall : (Cond.all (.arg 0) (.isInt (.elem (.arg 0) (.index 0)))).before args s = true := hq _ (by decide +kernel)
  obtain ⟨b, xs, hb, hx⟩ := State.ints_of_pre rfl harr hlen hall
  have hsm : xs.length < 2 ^ 31 := hx.choose_spec.2.2.2
  have hev : (Term.length (.arg 0)).eval args s none [] s = some (.int xs.length.toInt32) := hx.length_eval hb
  have hv := Cond.le_ints hev (show (Term.int 256).eval args s none [] s = some (.int 256) from rfl)
  have hd : xs.length.toInt32 ≤ 256 := by
    simpa [Cond.before, Cond.holds, hv] using hle
  have hN : xs.length ≤ 256 := (Int32.ofNat_le_ofNat hsm (by decide)).mp (show Int32.ofNat xs.length ≤ Int32.ofNat 256 from hd)
  exact ⟨b, xs, Cond.one_arg hc (show args[0]? = some (.ref b) from hb), hx, hN, h⟩
theorem lw_comes (l : Launch) : Comes l x (Jvm.Cond.code x code maxLocals ret :: tables_1) room_1 (fun tb e args s => Calls_1 tb e args s ∧ rest_1 tb e args s ∧ Pre_1 tb e args s)
    (fun _ _ args s o t => lw_Q args s o t) := by
  intro p e ha hc hk s m args below hf hfit hheap happ hpre
  obtain ⟨b, xs, hP⟩ := lw_pre_spec hpre.2.2 hpre.2.1
  obtain ⟨k, o, h1, h2, h3, hQ⟩ := lw_walk l b xs p e ha hc hk s m args below hf ((Spec.applies_iff_loose hf).mp happ).1 hP trivial
  exact ⟨k, o, h1, h2, h3, hQ⟩
theorem lw_frame {s t : State} {o : Outcome} {args : Array Value} (h : Framed s o t [] 600000 7302250) :
    Framed s o t (fieldLocs frame_1_writes args s ++ arrayLocs frame_1_arrays args s ++ staticLocs frame_1_statics s) 600000 7302250 := h
theorem lw_limb (L : Cond) (hL : ∀ (args : Array Value) (s t : State), L.after args s (.returned (some (.int 1))) t = true) :
    ArmFor flags0 classFile x code maxLocals ret World_1 tables_1 room_1 Calls_1 rest_1 Pre_1
      (fun tb e a s o t => postC L tb e a s o t ∧ Framed s o t (fieldLocs frame_1_writes a s ++ arrayLocs frame_1_arrays a s ++ staticLocs frame_1_statics s) 600000 7302250) := by
  intro l _ _ _ p e ha hc hk s m args below hf hfit hheap happ hpre
  obtain ⟨k, o, h1, h2, h3, rfl, hF⟩ := lw_comes l p e ha hc hk s m args below hf hfit hheap happ hpre
  exact ⟨k, _, h1, h2, h3, hL args s _, lw_frame hF⟩
theorem i_vc : Claimed_1_1 ∧ Claimed_1_2 := ⟨lw_limb limb_1_1 (fun args s t => by simp [limb_1_1, Cond.after, Cond.holds, Cond.value]), lw_limb limb_1_2 (fun args s t => Cond.after_iff.mpr (by
  first | (rw [show limb_1_2 = Cond.eq .result (.int 1) from rfl, Cond.eq_ints (x := 1) (y := 1) rfl rfl]; simp; done) | (simp [limb_1_2, Cond.value, Term.eval]; done)))⟩
