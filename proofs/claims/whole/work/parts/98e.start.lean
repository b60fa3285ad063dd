/-! the law, from its entry -/
theorem ws_c8 : Cond.classLink RL 8 RX10 ∈ mm_words := mm_in1 (List.mem_of_getElem? (i := 24) (by decide +kernel)) (by decide +kernel)
theorem ws_c16 : Cond.classLink RL 16 RX11 ∈ mm_words := mm_in5 (List.mem_of_getElem? (i := 55) (by decide +kernel)) (by decide +kernel)
theorem ws_m15 : Cond.methodLink RL 15 yX10_init ∈ mm_words := mm_in1 (List.mem_of_getElem? (i := 26) (by decide +kernel)) (by decide +kernel)
theorem ws_m18 : Cond.methodLink RL 18 yX11_init ∈ mm_words := mm_in5 (List.mem_of_getElem? (i := 57) (by decide +kernel)) (by decide +kernel)
theorem ws_free {s : State} {H : Heap} {locs : List Loc} {wr : va_W} {q : Nat} {ex : va_E} (hD : va_D (ll_A s) (wr ++ [(q, ex)])) (hS : va_S (ll_A s) s.heap H locs) : ∀ x, va_A [(q, ex)] H.size x → ll_A s x := by
  rintro x (⟨j, e9, hj⟩ | h)
  · have hz : j < 1 := (List.getElem?_eq_some_iff.mp hj).1
    rw [show j = 0 by omega] at hj
    have h2 := hD.2 (wr.length + 0) (q, ex) (by rw [List.getElem?_append_right (by omega), Nat.add_sub_cancel_left]; rfl)
    cases hj
    exact h2
  · exact Nat.le_trans hS.1 h
theorem ws_last {D : va_G} {H : Heap} {wr w1 : va_W} (hP : va_P D vwCl (wr ++ w1) H) : va_P D vwCl w1 H := fun j x hj => hP (wr.length + j) x (by rw [List.getElem?_append_right (by omega), Nat.add_sub_cancel_left]; exact hj)
theorem ws_fst {D : va_G} {H : Heap} {wr w1 : va_W} (hP : va_P D vwCl (wr ++ w1) H) : va_P D vwCl wr H := fun j x hj => hP j x (by rw [List.getElem?_append_left (List.getElem?_eq_some_iff.mp hj).1]; exact hj)
set_option maxHeartbeats 4000000 in
set_option maxRecDepth 100000 in
theorem whole_start {p : Program} {e : Env} {s : State} {m : MethodId} {below : List Frame} {meth : Method} {c : Code} (l : Launch) (hflags : l.flags = flags0) {b L : Nat} {xs : Nat → Int32} (hL : L ≤ 3072) (C0 : lw_At p s m meth c b L xs) : W p l e room_1 s m #[Value.ref b] below meth c s.heap [] 0 0 (lw_Z below #[Value.ref b] s) (entryFrame m ([Value.ref b] : List Value).toArray 8) := by
  obtain ⟨hx, hb, hr, hml, hown, htab, hX, hbl, hlocks, hgv⟩ := id C0
  have hown : s.vm.findClass RL = some m.cls := hown
  have hm : ∀ w ∈ mm_words, w.before #[Value.ref b] s = true := fun w hw => htab w (List.mem_filter.mp hw).1
  have htb : ∀ w ∈ tables_1, w.before #[Value.ref b] s = true := fun w hw => htab w (List.mem_append_right _ hw)
  have hstk : l.stackTraces = false := by
    unfold Launch.stackTraces
    rw [hflags]
    decide +kernel
  obtain ⟨D, G, cJ, hK, hKJ⟩ := en_K hm (htb _ en_ov)
  obtain ⟨ks, adV, sa, hvR, hjs, hexX⟩ := en_X hgv htab
  have hE : mk_E D G s := ⟨hK, fun q hq => va_Nw.of rfl (htb _ (en_nk q hq)), fun q hq => va_Nw.of rfl (htb _ (en_nf q hq)), fun a => Jvm.Stand.arrayOver_alikeB (Vm.Alike.refl _) (htb _ en_ov)⟩
  have hA : ∀ q : Nat, s.heap.size ≤ q → ll_A s q := fun _ h => h
  have hS : va_S (ll_A s) s.heap s.heap [] := va_S.rf
  have hP : va_P D vwCl [] s.heap := fun k q h => by simp at h
  have hD : va_D (ll_A s) [] := ⟨fun i j p q h => by simp at h, fun k q h => by simp at h⟩
  have hl := lv_entry ([.ref b]) (n := 8) (Nat.le_of_ble_eq_true rfl)
  rw [lg_entry_eq]
  generalize (lg_sl ([.ref b]) ++ List.replicate (8 - (lg_sl ([.ref b])).length) Slot.unset).toArray = ls at hl ⊢
  have hl : lv_has ls 8 [(0, .ref b)] := hl
  refine va_new (ci := 10) (C := RX10) (T := TX10) (N := 12) hx hb hm mc_10 tyX10 tyX10_ok hown (hm _ ws_c8) (hm _ mk_in10) (hm _ mk_ii10) hK hP hD hS hA rfl kd_10 (Nat.le_of_ble_eq_true rfl) (Nat.le_of_ble_eq_true rfl) (show decode code 0 = .ok (.new 8, 3) by decide +kernel) (fun q10 H hP hD hS => ?_)
  refine lv_dup hx hb (show decode code 3 = .ok (.dup, 1) by decide +kernel) rfl ?_
  have hFc := ws_free hD hS
  refine va_callv (va_runI (As := []) (rest := [.ref q10]) ⟨hx, hb, hml, hown, hm⟩ (ctor_10 l D G q10 H.size) (cwI 0 hm (js_good mk_ic10) rfl rfl rfl (hm _ mk_ii10) (hm _ ws_m15) (hm _ mk_im10) rfl ⟨by decide +kernel, by decide +kernel, by decide +kernel⟩ ⟨Nat.le_of_ble_eq_true rfl, Nat.le_of_ble_eq_true rfl⟩) ⟨fun a U g mk q9 => ⟨q9.1, q9.2.1, q9.2.2.1, q9.2.2.2.calling g mk a⟩, fun U hU hW => ⟨rfl, by rw [hU], by rw [hU]; exact ws_last hP, hE.warm hW⟩⟩ rfl rfl hl.1 rfl (lv_room (Nat.le_of_ble_eq_true rfl)) (show decode code 4 = .ok (.invokespecial 15, 3) by decide +kernel) ⟨Nat.le_of_ble_eq_true rfl, Nat.le_of_ble_eq_true rfl⟩) hS (fun x _ h => hFc x h) hFc (fun u10 t H1 locs1 ht hvm _ hB hz1 hk1 hS => ?_)
  rw [ht] at hB
  obtain ⟨hP, hD⟩ := mk_join hP hD hk1 hFc hB.1 hB.2
  rw [List.nil_append] at hP hD
  refine lv_astore_n (lv' := [(1, .ref q10), (0, .ref b)]) hx hb (show decode code 7 = .ok (.astore_n 1, 1) by decide +kernel) rfl hl (by decide) rfl (fun ls hl => ?_)
  refine va_new (ci := 11) (C := RX11) (T := TX11) (N := 50) hx hb hm mc_11 tyX11 tyX11_ok hown (hm _ ws_c16) (hm _ mk_in11) (hm _ mk_ii11) hK hP hD hS hA rfl kd_11 (Nat.le_of_ble_eq_true rfl) (Nat.le_of_ble_eq_true rfl) (show decode code 8 = .ok (.new 16, 3) by decide +kernel) (fun q11 H hP hD hS => ?_)
  refine lv_dup hx hb (show decode code 11 = .ok (.dup, 1) by decide +kernel) rfl ?_
  have hFc := ws_free hD hS
  refine va_callv (va_runI (As := []) (rest := [.ref q11]) ⟨hx, hb, hml, hown, hm⟩ (ctor_11 l D G q11 H.size) (cwI 0 hm (js_good mk_ic11) rfl rfl rfl (hm _ mk_ii11) (hm _ ws_m18) (hm _ mk_im11) rfl ⟨by decide +kernel, by decide +kernel, by decide +kernel⟩ ⟨Nat.le_of_ble_eq_true rfl, Nat.le_of_ble_eq_true rfl⟩) ⟨fun a U g mk q9 => ⟨q9.1, q9.2.1, q9.2.2.1, q9.2.2.2.calling g mk a⟩, fun U hU hW => ⟨rfl, by rw [hU], by rw [hU]; exact ws_last hP, hE.warm hW⟩⟩ rfl rfl hl.1 rfl (lv_room (Nat.le_of_ble_eq_true rfl)) (show decode code 12 = .ok (.invokespecial 18, 3) by decide +kernel) ⟨Nat.le_of_ble_eq_true rfl, Nat.le_of_ble_eq_true rfl⟩) hS (fun x _ h => hFc x h) hFc (fun u11 t H1 locs1 ht hvm _ hB hz1 hk1 hS => ?_)
  rw [ht] at hB
  obtain ⟨hP, hD⟩ := mk_join hP hD hk1 hFc hB.1 hB.2
  refine lv_astore_n (lv' := [(2, .ref q11), (1, .ref q10), (0, .ref b)]) hx hb (show decode code 15 = .ok (.astore_n 2, 1) by decide +kernel) rfl hl (by decide) rfl (fun ls hl => ?_)
  refine lv_iconst (v := 1) hx hb (show decode code 16 = .ok (.iconst 1, 1) by decide +kernel) (by decide) ?_
  refine va_newa (atype := .long) (N' := 1) (a0 := (1, .inr (.inl (fun _ => 0)))) hx hb (hm _ mk_aJ) rfl hKJ hP hD hS hA (fun cA => rfl) (by decide) (by decide) (Nat.le_of_ble_eq_true rfl) (Nat.le_of_ble_eq_true rfl) (Nat.le_of_ble_eq_true rfl) (show decode code 17 = .ok (.newarray .long, 2) by decide +kernel) (fun ao cA H hK1 hP hD hS => ?_)
  have hcl : cA = cJ := by
    have h1 : va_RA s cA .long := (hK1.2 1 (cA, .long) rfl).2
    have h2 : va_RA s cJ .long := (hKJ.2 0 (cJ, .long) rfl).2
    exact Option.some.inj (Eq.trans (Eq.symm h1) h2)
  subst hcl
  refine lv_astore_n (lv' := [(3, .ref ao), (2, .ref q11), (1, .ref q10), (0, .ref b)]) hx hb (show decode code 19 = .ok (.astore_n 3, 1) by decide +kernel) rfl hl (by decide) rfl (fun ls hl => ?_)
  refine lv_iconst (v := 0) hx hb (show decode code 20 = .ok (.iconst 0, 1) by decide +kernel) (by decide) ?_
  refine lv_istore (lv' := [(4, .int 0), (3, .ref ao), (2, .ref q11), (1, .ref q10), (0, .ref b)]) hx hb (show decode code 21 = .ok (.istore 4, 2) by decide +kernel) hl (by decide) rfl (fun ls hl => ?_)
  have hPw : va_P D vwCl (cw_10 G q10 u10 ++ cw_11 G q11 u11) H := ws_fst hP
  have hPo : va_P D vwCl [(ao, .inl (cA, 1, .inr (.inl (fun _ => 0))))] H := ws_last hP
  have hDw : va_D (ll_A s) (cw_10 G q10 u10 ++ cw_11 G q11 u11) := ⟨fun i j p q hi hj h => hD.1 i j p q (by rw [List.getElem?_append_left (List.getElem?_eq_some_iff.mp hi).1]; exact hi) (by rw [List.getElem?_append_left (List.getElem?_eq_some_iff.mp hj).1]; exact hj) h, fun k q hk => hD.2 k q (by rw [List.getElem?_append_left (List.getElem?_eq_some_iff.mp hk).1]; exact hk)⟩
  obtain ⟨hinj, hge⟩ := iw_inj (u := u10) (v := u11) ks hDw
  have hP0 := iw_P (ks := ks) hPw
  have hks : ∀ j, iw_ad q10 u10 q11 u11 ks (1000 + j) = ks j := fun j => by
    unfold iw_ad
    rw [if_neg (by omega), Nat.add_sub_cancel_left]
  have e0 : iw_ad q10 u10 q11 u11 ks 0 = q10 := rfl
  have e62 : iw_ad q10 u10 q11 u11 ks 62 = q11 := rfl
  have hao : ¬ mm_A (iw_ad q10 u10 q11 u11 ks) ao := by
    rintro ⟨o, ho, hoa⟩
    have hm0 := mm_ws_get (ad := iw_ad q10 u10 q11 u11 ks) (G := G) (M := M0) ho
    obtain ⟨x, hx1, hx2⟩ : ∃ x, (cw_10 G q10 u10 ++ cw_11 G q11 u11)[o]? = some x ∧ x.1 = iw_ad q10 u10 q11 u11 ks o := by
      have hmm := congrArg (fun l => l[o]?) (iw_map G q10 u10 q11 u11)
      simp only [List.getElem?_map] at hmm
      have hlen : (iw_L q10 u10 q11 u11).length = 77 := rfl
      have hxx : (iw_L q10 u10 q11 u11)[o]? = some (iw_ad q10 u10 q11 u11 ks o) := by
        unfold iw_ad
        rw [if_pos (by omega), List.getD_eq_getElem?_getD, List.getElem?_eq_getElem (by omega)]
        rfl
      rw [hxx] at hmm
      cases hc : (cw_10 G q10 u10 ++ cw_11 G q11 u11)[o]? with
      | none => rw [hc] at hmm; cases hmm
      | some x => rw [hc] at hmm; exact ⟨x, rfl, Option.some.inj hmm⟩
    have hlt := (List.getElem?_eq_some_iff.mp hx1).1
    have := hD.1 o ((cw_10 G q10 u10 ++ cw_11 G q11 u11).length + 0) x (ao, .inl (cA, 1, .inr (.inl (fun _ => 0)))) (by rw [List.getElem?_append_left hlt]; exact hx1) (by rw [List.getElem?_append_right (by omega), Nat.add_sub_cancel_left]; rfl) (by rw [hx2]; exact hoa.symm)
    omega
  have haoA : s.heap.size ≤ ao := hD.2 ((cw_10 G q10 u10 ++ cw_11 G q11 u11).length + 0) (ao, _) (by rw [List.getElem?_append_right (by omega), Nat.add_sub_cancel_left]; rfl)
  have hnar : ∀ q, mm_A (iw_ad q10 u10 q11 u11 ks) q → ll_A s q := by
    rintro q ⟨o, ho, rfl⟩
    exact hge o ho
  have hXs : xX (iw_ad q10 u10 q11 u11 ks) adV sa s := by
    refine ⟨?_, hexX.narrow hnar⟩
    have h1 := hjs.narrow hnar
    rw [show (fun j => iw_ad q10 u10 q11 u11 ks (1000 + j)) = ks from funext hks]
    exact h1
  have hEm : mm_E D (iw_ad q10 u10 q11 u11 ks) G (xX (iw_ad q10 u10 q11 u11 ks) adV sa) s := ⟨hK, fun q hq => va_Nw.of rfl (htb _ (en_nf q hq)), fun q hq => va_Nw.of rfl (htb _ (en_nm q hq)), fun j q hq => by rw [hks]; exact hvR j q hq, hXs⟩
  have hw := s_Rd_isWord (l := l) (D := D) (G := G) (adV := adV) (xX_ok (iw_ad q10 u10 q11 u11 ks) adV sa) hinj (fun U h => h.1)
  exact lp_loop (adV := adV) (sa := sa) ⟨hx, hb, hml, hown, hm, hX, hbl, hEm, hge, haoA, hao, hinj, hKJ, hL, hw, hstk⟩ hr hlocks (L + 7) 0 0 M0 _ _ (by omega) (by omega) (by omega) M0_tie (by decide) (by decide) _ _ ls (fun _ => 0) (lv_sub hl [4, 3, 2, 1, 0] rfl) M0_mem hP0 hPo hS
