theorem m8_ok : MI m8sc m8ar := by
  have e0 : m8sc 0 = 5 := by decide +kernel
  have e2 : m8sc 2 = 4 := by decide +kernel
  have e4 : m8sc 4 = 3 := by decide +kernel
  rw [MI, e0, e2, e4]
  refine ⟨by decide, by decide, by decide, by decide +kernel, by decide +kernel, by decide +kernel, by decide +kernel, by decide +kernel, fun d hd => ?_, fun w hw => ?_⟩
  · rcases (by omega : d = 0 ∨ d = 1 ∨ d = 2 ∨ d = 3) with rfl | rfl | rfl | rfl <;> decide +kernel
  · rcases (by omega : w = 0 ∨ w = 1 ∨ w = 2) with rfl | rfl | rfl <;> decide +kernel
theorem R_start {pl : Nat} {da : Nat → Nat → Int32} {ds : Nat → Nat} {sc : Nat → Nat} {ar : Nat → Nat → Int32} (hok : OKD 76 (pl, da, ds)) (h1 : sc = m8sc) (h2 : ar = m8ar) (h3 : FFi.1 = -4 → (da, ds) = FFi.2) : (Rl 0 (sL 76) da ds (layX (da, ds) (fun _ => zF)) 0 (fun _ => zF) 0 0 (fun _ _ => zF) (fun _ => 0) 0 (fun _ _ => zF) (fun _ => 0) sc ar) := ⟨⟨Nat.zero_le _, fun k => sL_nar 76 k, hok.2.1, hok.2.2.2.1, hok.2.2.2.2, Nat.zero_le _, Nat.zero_le _, Nat.zero_le _⟩, by rw [h1, h2]; exact m8_ok, by rw [h1, h2]; exact W_start (h3 st_1)⟩
section C7
variable {p : Program} {l : Launch} {e : Env} {R : Room} {s : State} {m : MethodId} {args : Array Value} {below : List Frame} {meth : Method} {c : Code} {H : Heap} {locs : List Loc} {Q : State → Prop} {g : GG}
  {y : MethodName} {bytes cc : ByteArray} {maxL nL n index pc b : Nat} {ret : Option FieldType} {ws ws' Ts : List Cond} {rm : Room} {own C host : String} {As rest st0 : List Value} {ls : Array Slot} {w W0 : va_W} {A0 : Nat → Prop} {kc ks mc ms : Nat}
theorem ci_call7 {qs vs : Nat} {S : Type} {w' : S → va_W} {post : S → Prop} {wr1 : va_W} (ctx : CallFix p m c cc nL s args Ts own) (hKC : KC g s) (hP : va_P g.1 vwCl W0 H) (hD : va_D A0 W0) (hS : va_S A0 s.heap H locs) (hA : ∀ q, s.heap.size ≤ q → A0 q) (hSB : SB qs vs A0 s) (hvk : vk_R RX7 74 sTX qs s) (hM : Met l y ws rm (ci7 g qs vs (.ref b :: As) w H.size) (ciQ g w w' post H.size) mc ms (va_A w H.size)) (hG : GoodIn Ts ws) (hl : (Cond.methodLink own index y).before args s = true) (hin : (Cond.initialized y.cls).before args s = true) (hyn : y.name = "<init>") (hinm : (Cond.instanceMethod y).before args s = true) (hw : ws = Cond.code y bytes maxL none :: ws') (hrc : rm.cells = mc) (hrs : rm.slots = ms)
    (hd : y.cls ≠ "java/lang/invoke/MethodHandle" ∧ y.cls ≠ "java/lang/invoke/VarHandle" ∧ (parseMethodDescriptor y.desc).map (fun d => d.parameters.length) = some n) (hR : rm.frames + 1 ≤ R.frames ∧ 8 + (maxL + 11) + rm.locals ≤ R.locals) (isC isR : List Nat) (hC : isC.map (fun i => W0[i]?) = w.map some) (hRr : isR.map (fun i => W0[i]?) = wr1.map some) (hnC : va_nd isC = true) (hnR : va_nd isR = true) (hdis : ∀ i ∈ isR, i ∉ isC)
    (hsz : ls.size = nL) (hst : st0 = As.reverse ++ .ref b :: rest) (hn : As.length = n) (hrm : (rest.map fun v => v.category).sum ≤ 8) (hdg : decode cc pc = .ok (.invokespecial index, 3)) (hkc : kc + mc ≤ R.cells ∧ ks + ms ≤ R.slots)
    (kk : ∀ (u : S) (H1 : Heap) (locs1 : List Loc), post u → va_P g.1 vwCl (wr1 ++ w' u) H1 → va_D A0 (wr1 ++ w' u) → va_S A0 s.heap H1 locs1 → W p l e R s m args below meth c H1 locs1 (kc + mc) (ks + ms) Q (F0 m (pc + 3) ls rest)) : W p l e R s m args below meth c H locs kc ks Q (F0 m pc ls st0) := by
  have hPc := P_of_map hP hC
  have hDc := hD.sub isC hnC hC
  have hF := va_free hD hS hA isC hC
  refine va_callv (A0 := A0) (H0 := s.heap) (va_runI (g := F0 m pc ls st0) (rest := rest) ctx hM (cwI n ctx.2.2.2.2 hG hw hrc hrs hin hl hinm hyn hd hR) ⟨ci7_blind, fun U hU hW => ⟨rfl, by rw [hU], by rw [hU]; exact hPc, hDc.weaken (fun _ _ _ _ => trivial), hKC.warm hW, hSB.to hW.alike hU hS.2.1 (fun q h => hF q h), vk_R.warm hW hvk⟩⟩ rfl hn hsz hst (lv_room hrm) hdg hkc) hS (fun q _ h => hF q h) hF (fun u t H1 locs1 ht hvm hw hB hz1 hk1 hS1 => ?_)
  obtain ⟨hP1, hD1⟩ := va_join hP hD isC isR hC hRr hnR hdis hk1 hF (by rw [← ht]; exact hB.1) hB.2
  exact kk u H1 locs1 hw hP1 hD1 hS1
end C7
set_option maxHeartbeats 1000000 in
set_option maxRecDepth 100000 in
theorem law_end {p : Program} {l : Launch} {e : Env} {s : State} {m : MethodId} {below : List Frame} {meth : Method} {c : Code} {A : Nat → Prop} {g : GG} {ad : Nat → Nat → Nat} {o : Nat} {b L i : Nat} {xs : Nat → Int32} (LC : LCx p s m meth c b L xs A g) (hL : L ≤ 256) (hr : meth.sig.returnType = ret) (hlocks : meth.locks = false) (hAs : ∀ q, A q → s.heap.size ≤ q) (hi : L < i + 4) (hi2 : i ≤ L) (H : Heap) (locs : List Loc) (hS : va_S A s.heap H locs) (ls : Array Slot) (hl : lv_has ls 4 [(3, .int (nI i)), (2, .ref o), (1, .ref (ad 0 0)), (0, .ref b)]) : W p l e room_1 s m #[Value.ref b] below meth c H locs 96 3558 (lw_Z below #[Value.ref b] s) (F0 m 18 ls []) := by
  obtain ⟨hx, hb, hml, hown, hts, hKK, hX, hbl, hbA⟩ := id LC
  refine lv_iload_n hx hb dL_law_18 rfl (lv_at hl 0 rfl) ?_
  refine lv_aload_n hx hb dL_law_19 rfl (lv_at hl 3 rfl) ?_
  refine va_slen hx hb hX hbl hbA hS dL_law_20 ?_
  refine lv_is (x' := nI L) rfl ?_
  refine lv_iconst (v := nI 4) hx hb dL_law_21 (by decide) ?_
  refine lv_isub hx hb dL_law_22 ?_
  have hlt : nI L - nI 4 < nI i := by
    rcases Nat.lt_or_ge L 4 with h | h
    · exact Int32.lt_of_lt_of_le (pk_sneg (by decide) h) (nI_pos' (by omega))
    · rw [pk_sub h]; exact nI_lt (by omega) (by omega)
  refine lv_icmp_gt (tgt := 964) hx hb dL_law_23 (by decide) (fun cq => ?_) (fun cq => absurd hlt cq)
  refine lv_iconst (v := 1) hx hb dL_law_964 (by decide) ?_
  refine va_forget (fun q hq => hAs _ (hS.2.2 q hq)) ?_
  refine W.widen (k := 600000) (n := 7302250) (by omega) (by omega) ?_
  exact lw_ret hx hb hr hlocks dL_law_965
set_option maxHeartbeats 2000000 in
set_option maxRecDepth 100000 in
theorem law_loop {p : Program} {l : Launch} {e : Env} {s : State} {m : MethodId} {below : List Frame} {meth : Method} {c : Code} {A : Nat → Prop} {g : GG} {ad : Nat → Nat → Nat} {o : Nat} {a : Nat → Nat} {b L : Nat} {xs : Nat → Int32} (LC : LCx p s m meth c b L xs A g) (hL : L ≤ 256) (hr : meth.sig.returnType = ret) (hlocks : meth.locks = false) (hAs : ∀ q, A q → s.heap.size ≤ q) : ∀ (fu i : Nat), L + 1 - i ≤ fu → i ≤ L → ∀ {ub : Nat → Nat → Nat} {kb : Nat → Nat → Nat} {len : Nat} {tx : Nat → Int32} {pl : Nat} {oc : Nat} {da : Nat → Nat → Int32} {ds : Nat → Nat} {pa : Nat → Nat → Int32} {ps : Nat → Nat} {x : Nat → Nat → Int32} {dy : Nat} {ga : Nat → Nat → Int32} {gz : Nat} {uk : Nat} {UX : Nat → Nat → Nat → Int32} {UD : Nat → Nat} {kk : Nat} {KX : Nat → Nat → Nat → Int32} {KD : Nat → Nat} {sf : Nat → Int32} {sc : Nat → Nat} {ar : Nat → Nat → Int32}, (Rl len tx pa ps x dy ga gz uk UX UD kk KX KD sc ar) → ∀ (H : Heap) (locs : List Loc), va_P g.1 vwCl ((xW g ad ub kb len tx pl oc da ds pa ps x dy ga gz uk UX UD kk KX KD sf) ++ mW g o a sc ar) H → va_D A ((xW g ad ub kb len tx pl oc da ds pa ps x dy ga gz uk UX UD kk KX KD sf) ++ mW g o a sc ar) → va_S A s.heap H locs → ∀ (ls : Array Slot), lv_has ls 4 [(3, .int (nI i)), (2, .ref o), (1, .ref (ad 0 0)), (0, .ref b)] → W p l e room_1 s m #[Value.ref b] below meth c H locs 96 3558 (lw_Z below #[Value.ref b] s) (F0 m 18 ls []) := by
  intro fu
  induction fu with
  | zero =>
    intro i hfu hiL ub kb len tx pl oc da ds pa ps x dy ga gz uk UX UD kk KX KD sf sc ar hR H locs hP hD hS ls hl
    exact law_end LC hL hr hlocks hAs (by omega) hiL H locs hS ls hl
  | succ fu ih =>
    intro i hfu hiL ub kb len tx pl oc da ds pa ps x dy ga gz uk UX UD kk KX KD sf sc ar hR H locs hP hD hS ls hl
    by_cases hi : i + 4 ≤ L
    · obtain ⟨hx, hb, hml, hown, hts, hKK, hX, hbl, hbA⟩ := id LC
      have K : LKx p l e s m below meth c (lw_Z below #[Value.ref b] s) A g ad o a b i := by
        intro ub kb len tx pl oc da ds pa ps x dy ga gz uk UX UD kk KX KD sf sc ar hR H locs hP hD hS ls hl
        refine lv_iinc (v := nI (i + 4)) (lv' := [(3, .int (nI (i + 4))), (2, .ref o), (1, .ref (ad 0 0)), (0, .ref b)]) hx hb dL_law_958 hl (k := 0) rfl (iincK i 4) (by decide) rfl (fun ls hl => ?_)
        refine lv_goto (tgt := 18) hx hb dL_law_961 (by decide) ?_
        exact ih (i + 4) (by omega) hi hR H locs hP hD hS ls hl
      refine lv_iload_n hx hb dL_law_18 rfl (lv_at hl 0 rfl) ?_
      refine lv_aload_n hx hb dL_law_19 rfl (lv_at hl 3 rfl) ?_
      refine va_slen hx hb hX hbl hbA hS dL_law_20 ?_
      refine lv_is (x' := nI L) rfl ?_
      refine lv_iconst (v := nI 4) hx hb dL_law_21 (by decide) ?_
      refine lv_isub hx hb dL_law_22 ?_
      refine lv_is (pk_sub (a := L) (b := 4) (by omega)) ?_
      refine lv_icmp_gt (tgt := 964) hx hb dL_law_23 (by decide) (fun cq => absurd ((nI_ltI (by omega) (by omega)).mp cq) (by omega)) (fun cq => ?_)
      refine lv_aload_n hx hb dL_law_26 rfl (lv_at hl 3 rfl) ?_
      refine lv_iload_n hx hb dL_law_27 rfl (lv_at hl 0 rfl) ?_
      refine va_sld hx hb hX hbl hbA hS (i := nI i) (vp_in_nI (by omega) (by omega)) dL_law_28 ?_
      refine lv_bipush (v := nI 31) hx hb dL_law_29 (by decide) ?_
      refine lv_iand hx hb dL_law_31 ?_
      obtain ⟨k, hk, ek⟩ := pk_andE (xs (nI i).toNatClampNeg) (m := nI 31) 5 (by decide)
      refine lv_is ek ?_
      have hk : k < 32 := hk
      rcases (by omega : k = 0 ∨ k = 1 ∨ k = 2 ∨ k = 3 ∨ k = 4 ∨ k = 5 ∨ k = 6 ∨ k = 7 ∨ k = 8 ∨ k = 9 ∨ k = 10 ∨ k = 11 ∨ k = 12 ∨ k = 13 ∨ k = 14 ∨ k = 15 ∨ k = 16 ∨ k = 17 ∨ k = 18 ∨ k = 19 ∨ k = 20 ∨ k = 21 ∨ k = 22 ∨ k = 23 ∨ k = 24 ∨ k = 25 ∨ k = 26 ∨ k = 27 ∨ k = 28 ∨ k = 29 ∨ k = 30 ∨ k = 31) with rfl | rfl | rfl | rfl | rfl | rfl | rfl | rfl | rfl | rfl | rfl | rfl | rfl | rfl | rfl | rfl | rfl | rfl | rfl | rfl | rfl | rfl | rfl | rfl | rfl | rfl | rfl | rfl | rfl | rfl | rfl | rfl
      · refine lv_tableIn (x := nI 0) (off := 136) (tgt := 168) hx hb dL_law_32 (by decide) (by decide) (by rfl) (by decide) ?_
        exact L_write LC hi hL K hR H locs hP hD hS ls hl
      · refine lv_tableIn (x := nI 1) (off := 159) (tgt := 191) hx hb dL_law_32 (by decide) (by decide) (by rfl) (by decide) ?_
        exact L_wipe LC hi hL K hR H locs hP hD hS ls hl
      · refine lv_tableIn (x := nI 2) (off := 172) (tgt := 204) hx hb dL_law_32 (by decide) (by decide) (by rfl) (by decide) ?_
        exact L_fault LC hi hL K hR H locs hP hD hS ls hl
      · refine lv_tableIn (x := nI 3) (off := 185) (tgt := 217) hx hb dL_law_32 (by decide) (by decide) (by rfl) (by decide) ?_
        exact L_lay LC hi hL K hR H locs hP hD hS ls hl
      · refine lv_tableIn (x := nI 4) (off := 198) (tgt := 230) hx hb dL_law_32 (by decide) (by decide) (by rfl) (by decide) ?_
        exact L_person LC hi hL K hR H locs hP hD hS ls hl
      · refine lv_tableIn (x := nI 5) (off := 231) (tgt := 263) hx hb dL_law_32 (by decide) (by decide) (by rfl) (by decide) ?_
        exact L_likes LC hi hL K hR H locs hP hD hS ls hl
      · refine lv_tableIn (x := nI 6) (off := 264) (tgt := 296) hx hb dL_law_32 (by decide) (by decide) (by rfl) (by decide) ?_
        exact L_door LC hi hL K hR H locs hP hD hS ls hl
      · refine lv_tableIn (x := nI 7) (off := 297) (tgt := 329) hx hb dL_law_32 (by decide) (by decide) (by rfl) (by decide) ?_
        exact L_call LC hi hL K hR H locs hP hD hS ls hl
      · refine lv_tableIn (x := nI 8) (off := 330) (tgt := 362) hx hb dL_law_32 (by decide) (by decide) (by rfl) (by decide) ?_
        exact L_tries LC hi hL K hR H locs hP hD hS ls hl
      · refine lv_tableIn (x := nI 9) (off := 363) (tgt := 395) hx hb dL_law_32 (by decide) (by decide) (by rfl) (by decide) ?_
        exact L_day LC hi hL K hR H locs hP hD hS ls hl
      · refine lv_tableIn (x := nI 10) (off := 376) (tgt := 408) hx hb dL_law_32 (by decide) (by decide) (by rfl) (by decide) ?_
        exact L_alter LC hi hL K hR H locs hP hD hS ls hl
      · refine lv_tableIn (x := nI 11) (off := 419) (tgt := 451) hx hb dL_law_32 (by decide) (by decide) (by rfl) (by decide) ?_
        exact L_undo LC hi hL K hR H locs hP hD hS ls hl
      · refine lv_tableIn (x := nI 12) (off := 432) (tgt := 464) hx hb dL_law_32 (by decide) (by decide) (by rfl) (by decide) ?_
        exact L_shutOut LC hi hL K hR H locs hP hD hS ls hl
      · refine lv_tableIn (x := nI 13) (off := 445) (tgt := 477) hx hb dL_law_32 (by decide) (by decide) (by rfl) (by decide) ?_
        exact L_knowsBy LC hi hL K hR H locs hP hD hS ls hl
      · refine lv_tableIn (x := nI 14) (off := 478) (tgt := 510) hx hb dL_law_32 (by decide) (by decide) (by rfl) (by decide) ?_
        exact L_when LC hi hL K hR H locs hP hD hS ls hl
      · refine lv_tableIn (x := nI 15) (off := 511) (tgt := 543) hx hb dL_law_32 (by decide) (by decide) (by rfl) (by decide) ?_
        exact L_lets LC hi hL K hR H locs hP hD hS ls hl
      · refine lv_tableIn (x := nI 16) (off := 544) (tgt := 576) hx hb dL_law_32 (by decide) (by decide) (by rfl) (by decide) ?_
        exact L_keeps LC hi hL K hR H locs hP hD hS ls hl
      · refine lv_tableIn (x := nI 17) (off := 587) (tgt := 619) hx hb dL_law_32 (by decide) (by decide) (by rfl) (by decide) ?_
        exact L_allIn LC hi hL K hR H locs hP hD hS ls hl
      · refine lv_tableIn (x := nI 18) (off := 610) (tgt := 642) hx hb dL_law_32 (by decide) (by decide) (by rfl) (by decide) ?_
        exact L_friend LC hi hL K hR H locs hP hD hS ls hl
      · refine lv_tableIn (x := nI 19) (off := 643) (tgt := 675) hx hb dL_law_32 (by decide) (by decide) (by rfl) (by decide) ?_
        exact L_seen LC hi hL K hR H locs hP hD hS ls hl
      · refine lv_tableIn (x := nI 20) (off := 686) (tgt := 718) hx hb dL_law_32 (by decide) (by decide) (by rfl) (by decide) ?_
        exact L_forget LC hi hL K hR H locs hP hD hS ls hl
      · refine lv_tableIn (x := nI 21) (off := 699) (tgt := 731) hx hb dL_law_32 (by decide) (by decide) (by rfl) (by decide) ?_
        exact L_called LC hi hL K hR H locs hP hD hS ls hl
      · refine lv_tableIn (x := nI 22) (off := 722) (tgt := 754) hx hb dL_law_32 (by decide) (by decide) (by rfl) (by decide) ?_
        exact L_guess LC hi hL K hR H locs hP hD hS ls hl
      · refine lv_tableIn (x := nI 23) (off := 745) (tgt := 777) hx hb dL_law_32 (by decide) (by decide) (by rfl) (by decide) ?_
        exact L_mean LC hi hL K hR H locs hP hD hS ls hl
      · refine lv_tableIn (x := nI 24) (off := 768) (tgt := 800) hx hb dL_law_32 (by decide) (by decide) (by rfl) (by decide) ?_
        exact L_inTime LC hi hL K hR H locs hP hD hS ls hl
      · refine lv_tableIn (x := nI 25) (off := 791) (tgt := 823) hx hb dL_law_32 (by decide) (by decide) (by rfl) (by decide) ?_
        exact L_likely LC hi hL K hR H locs hP hD hS ls hl
      · refine lv_tableIn (x := nI 26) (off := 834) (tgt := 866) hx hb dL_law_32 (by decide) (by decide) (by rfl) (by decide) ?_
        exact L_street LC hi hL K hR H locs hP hD hS ls hl
      · refine lv_tableIn (x := nI 27) (off := 877) (tgt := 909) hx hb dL_law_32 (by decide) (by decide) (by rfl) (by decide) ?_
        exact L_keep LC hi hL K hR H locs hP hD hS ls hl
      · refine lv_tableIn (x := nI 28) (off := 890) (tgt := 922) hx hb dL_law_32 (by decide) (by decide) (by rfl) (by decide) ?_
        exact L_back LC hi hL K hR H locs hP hD hS ls hl
      · refine lv_tableIn (x := nI 29) (off := 903) (tgt := 935) hx hb dL_law_32 (by decide) (by decide) (by rfl) (by decide) ?_
        exact L_count LC hi hL K hR H locs hP hD hS ls hl
      · refine lv_tableOut (x := nI 30) (tgt := 958) hx hb dL_law_32 (by decide) (by decide) ?_
        exact K ub kb len tx pl oc da ds pa ps x dy ga gz uk UX UD kk KX KD sf sc ar hR H locs hP hD hS ls hl
      · refine lv_tableOut (x := nI 31) (tgt := 958) hx hb dL_law_32 (by decide) (by decide) ?_
        exact K ub kb len tx pl oc da ds pa ps x dy ga gz uk UX UD kk KX KD sf sc ar hR H locs hP hD hS ls hl
    · exact law_end LC hL hr hlocks hAs (by omega) hiL H locs hS ls hl
