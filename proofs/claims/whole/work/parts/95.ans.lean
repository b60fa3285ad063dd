/-! the law's case of answer -/
theorem l9_a : ll_side 66 mr_1145 11 1 := ⟨mk_1145, mm_in6 (List.mem_of_getElem? (i := 130) (by decide +kernel)) (by decide +kernel), rfl, rfl, Nat.le_of_ble_eq_true rfl, Nat.le_of_ble_eq_true rfl, rfl⟩
theorem l9_t : ll_side 67 mr_1101 11 0 := ⟨mk_1101, mm_in5 (List.mem_of_getElem? (i := 212) (by decide +kernel)) (by decide +kernel), rfl, rfl, Nat.le_of_ble_eq_true rfl, Nat.le_of_ble_eq_true rfl, rfl⟩
theorem l9_g : GoodIn mm_words (va_wsS RL 61 yL_answer (Cond.codeWith yL_answer cL_answer 4 (some .int) [(0, 8, 11, 13)] :: mm_words)) := by
  intro w hw
  unfold va_wsS at hw
  rcases List.mem_append.mp hw with h7 | h7
  · simp only [List.mem_cons, List.not_mem_nil, or_false] at h7
    rcases h7 with rfl | rfl | rfl
    · exact mm_good an_l61
    · exact mm_good an_st
    · exact mm_good an_ini
  · rcases List.mem_cons.mp h7 with rfl | h1
    · exact mm_good an_cw
    · exact mm_good h1
section L9
variable {p : Program} {l : Launch} {e : Env} {s : State} {m : MethodId} {below : List Frame} {meth : Method} {c : Code} {Q : State → Prop} {b L : Nat} {xs : Nat → Int32} {D : va_G} {ad adV : Nat → Nat} {sa : Nat} {G : ClassId × ClassId × ClassId} {cJ : ClassId} {ao i : Nat} {cells slots pc : Nat} {st : List Value} {M : mmM} {cc : Int}
theorem ll_runQ {H : Heap} {locs : List Loc} {ls : Array Slot} {st0 rest : List Value} {A : Nat → Prop} {R : Room} {args : Array Value} {Qa : State → Outcome → State → Prop} {free : Addr → Prop} {mc ms : Nat} (hr : va_Run p l e R s m args below meth c H locs cells slots mc ms (F0 m pc ls st0) rest Qa free) (hS : va_S A s.heap H locs) (hAA : ∀ x, free x → A x)
    (kk : ∀ (v : Option Value) (st₀ t : State) (locs1 : List Loc), st₀.heap = H → Qa st₀ (.returned v) t → (∀ F : Nat → Prop, va_F F st₀ t → (∀ x, F x → A x) → va_S A s.heap t.heap locs1) → W p l e R s m args below meth c t.heap locs1 (cells + mc) (slots + ms) Q (F0 m (pc + 3) ls (v.toList ++ rest))) : W p l e R s m args below meth c H locs cells slots Q (F0 m pc ls st0) := by
  intro T hT X
  obtain ⟨v, st₀, t, T', L, h0, X', hL, e1, e2, hq, st⟩ := hr T hT X
  obtain ⟨t2, a1, b1⟩ := kk v st₀ t (locs ++ L) h0 hq (fun F hF hFA => ⟨Nat.le_trans hS.1 (by rw [← h0]; exact hF.1), fun q h1 h2 => by
      rw [hF.2 q (by rw [h0]; exact Nat.lt_of_lt_of_le h1 hS.1) (fun h => h2 (hFA q h)), h0]; exact hS.2.1 q h1 h2, fun q hq => by
      rcases List.mem_append.mp hq with h | h
      · exact hS.2.2 q h
      · exact hAA _ (hL q h)⟩) T' e1 X'
  exact ⟨t2, st t2 a1, b1⟩
theorem ll_callW (C : ll_Cx p l s m meth c b L xs D ad adV sa G cJ ao) {idx x n o ci : Nat} {r : mmRec} {t : mmT} (hr : mm_rlk mm_recs x = some r) (hs : mm_snd l D ad G (xX ad adV sa) x t) (hsd : ll_side idx r ci n) (hco : mm_cls o = ci) (hci : ci < 12) {as : List mmV} {q : mmP} (has : ∀ v ∈ as, mm_vin v) (hn : as.length = n) (ht : t (vr o :: as) M q) (hst : (st.map fun v => v.category).sum ≤ 8) (hcs : cells ≤ room_1.cells ∧ slots ≤ room_1.slots) (hd : ll_at pc (.invokevirtual idx, 3) = true) {H : Heap} {locs : List Loc} {ls : Array Slot} {f : Nat → Int64} (hl : ls.size = 8) (hM : mm_mem M) (hP : va_P D vwCl (mm_ws ad G M) H) (hO : va_P D vwCl [(ao, .inl (cJ, 1, .inr (.inl f)))] H) (hS : va_S (ll_A s) s.heap H locs)
    (kk : ∀ (r' : Option mmV) (M' : mmM) (H1 : Heap) (locs1 : List Loc), q r' M' → (∀ v, r' = some v → mm_vin v) → mm_mem M' → va_P D vwCl (mm_ws ad G M') H1 → va_P D vwCl [(ao, .inl (cJ, 1, .inr (.inl f)))] H1 → va_S (ll_A s) s.heap H1 locs1 → W p l e room_1 s m #[Value.ref b] below meth c H1 locs1 cells slots Q (F0 m (pc + 3) ls ((r'.map (mm_val ad)).toList ++ st))) : W p l e room_1 s m #[Value.ref b] below meth c H locs cells slots Q (F0 m pc ls ((as.map (mm_val ad)).reverse ++ .ref (ad o) :: st)) := by
  obtain ⟨hok, hlk, hns, hna, hfr, hlo, hcl⟩ := hsd
  have hX := xX_ok ad adV sa
  have hE := C.2.2.2.2.2.2.2.1
  have hts := C.2.2.2.2.1
  have hmet := hs r hr (vr o :: as) M q (List.forall_mem_cons.mpr ⟨trivial, has⟩) hM ht
  obtain ⟨Cn, Tn, N, hc⟩ := mm_vwCl (ci := mm_cls o) (by omega)
  have hcn : r.1.cls = Cn := by rw [hok.2.2.2.2.2.2, hcl, ← hco]; exact mm_own_cl hc
  have hrec := va_recv (a := ad o) (q0 := o) hE.1 hP hc (mm_obj (by omega))
  have hG : GoodIn mm_words (wsV RL idx Cn r.1 (mm_rws r)) := by
    intro w hw
    unfold wsV at hw
    rcases List.mem_append.mp hw with h7 | h7
    · simp only [List.mem_cons, List.not_mem_nil, or_false] at h7
      rcases h7 with rfl | rfl | rfl | rfl
      · exact mm_good hlk
      · exact mm_good (hok.2.2.1 hns).1
      · rw [← hcn]; exact mm_good (hok.2.2.1 hns).2
      · rw [← hcn]; exact mm_good hok.2.2.2.1
    · exact mm_goodR hok w h7
  refine ll_run (rest := st) (va_runV (As := as.map (mm_val ad)) (b := ad o) (n := r.2.2.2.2.2.1) ⟨C.1, C.2.1, C.2.2.1, C.2.2.2.1, hts⟩ hmet (cwV _ hts hG rfl rfl rfl ⟨hcn, hok.2.2.2.2.1⟩ ⟨hfr, hlo⟩) ⟨mm_blind hX, hrec, fun U hU hW => ⟨rfl, by rw [hU]; exact hP, hE.to hX hW (fun q h7 h8 => by rw [hU]; exact hS.2.1 q h7 (Nat.not_le.mpr h7))⟩⟩ rfl (by rw [List.length_map, hn, hna]) hl rfl (lv_room hst) (ll_at_spec hd) hcs) hS (ll_inA C) (fun r' M' H1 locs1 hq hv hm hP1 hk hS1 => ?_)
  exact kk r' M' H1 locs1 hq hv hm hP1 (hO.kept (fun k x hx => by
    have hk0 : k < 1 := (List.getElem?_eq_some_iff.mp hx).1
    have hx2 := hx
    rw [show k = 0 by omega] at hx2
    cases hx2
    exact hk _ (hO k _ hx).lt C.2.2.2.2.2.2.2.2.2.2.1)) hS1
theorem ll_argW (C : ll_Cx p l s m meth c b L xs D ad adV sa G cJ ao) (hi : i + 6 ≤ L) {k : Nat} (hd : ll_ck1 pc k = true) {H : Heap} {locs : List Loc} {ls : Array Slot} (h0 : ls[0]? = some (.val (.ref b))) (h4 : ls[4]? = some (.val (.int (nI i)))) (hS : va_S (ll_A s) s.heap H locs) (kk : W p l e room_1 s m #[Value.ref b] below meth c H locs cells slots Q (F0 m (pc + 6) ls (.int (xs (i + k)) :: st))) : W p l e room_1 s m #[Value.ref b] below meth c H locs cells slots Q (F0 m pc ls st) := by
  simp only [ll_ck1, Bool.and_eq_true, decide_eq_true_eq] at hd
  obtain ⟨⟨⟨⟨⟨d0, d1⟩, d3⟩, d4⟩, d5⟩, hk⟩ := hd
  have hL : L ≤ 3072 := C.2.2.2.2.2.2.2.2.2.2.2.2.2.1
  refine lv_aload_n C.1 C.2.1 (ll_at_spec d0) rfl h0 ?_
  refine lv_iload C.1 C.2.1 (ll_at_spec d1) h4 ?_
  refine lv_iconst C.1 C.2.1 (ll_at_spec d3) rfl ?_
  refine lv_iadd C.1 C.2.1 (ll_at_spec d4) ?_
  rw [ll_add hk]
  refine va_sld C.1 C.2.1 C.2.2.2.2.2.1 C.2.2.2.2.2.2.1 (Nat.not_le.mpr C.2.2.2.2.2.2.1) hS (vp_in_nI (by omega) (by omega)) (ll_at_spec d5) ?_
  rw [nI_clamp (by omega)]
  exact kk
set_option maxRecDepth 100000 in
/-- behind the class's answer: r is 1 where it threw, else the answer lies in out -/
theorem l9_rest (C : ll_Cx p l s m meth c b L xs D ad adV sa G cJ ao) (hi : i + 6 ≤ L) (hcs : cells ≤ room_1.cells ∧ slots ≤ room_1.slots) {z w : Int} (hw01 : w = 0 ∨ w = 1) (hz : t_M_answer [vr 62, vi (xs (i + 1)).toInt] M (fun r' M2 => r' = some (vl z) ∧ M2 62 0 = w ∧ tieR cc M2)) {H : Heap} {locs : List Loc} {ls : Array Slot} {f : Nat → Int64} (hf : w = 0 → f 0 = Int64.ofInt z) (hl : lv_has ls 8 (ll_lv b ad ao i)) (hM : mm_mem M) (hP : va_P D vwCl (mm_ws ad G M) H) (hO : va_P D vwCl [(ao, .inl (cJ, 1, .inr (.inl f)))] H) (hS : va_S (ll_A s) s.heap H locs) (k : ∀ M', tieR cc M' → ll_G p l e s m below meth c Q b D ad G cJ ao i cells slots 1163 [] M') : W p l e room_1 s m #[Value.ref b] below meth c H locs cells slots Q (F0 m 500 ls [.int (Int32.ofInt w)]) := by
  have hX := xX_ok ad adV sa
  have hinj := C.2.2.2.2.2.2.2.2.2.2.2.1
  have hw := C.2.2.2.2.2.2.2.2.2.2.2.2.2.2.1
  refine lv_istore (lv' := (5, .int (Int32.ofInt w)) :: ll_lv b ad ao i) C.1 C.2.1 (show decode code 500 = .ok (.istore 5, 2) by decide +kernel) hl (by decide) rfl (fun ls hl => ?_)
  refine lv_aload_n C.1 C.2.1 (show decode code 502 = .ok (.aload_n 2, 1) by decide +kernel) rfl (lv_at hl 3 rfl) ?_
  refine ll_argW C hi (k := 1) (by decide +kernel) (lv_at hl 1 rfl) (lv_at hl 5 rfl) hS ?_
  have e1 : ([Value.int (xs (i + 1))] : List Value) = ([vi (xs (i + 1)).toInt] : List mmV).map (mm_val ad) := by
    show [Value.int (xs (i + 1))] = [Value.int (Int32.ofInt (xs (i + 1)).toInt)]
    rw [mm_of]
  have e2 : (Value.int (xs (i + 1)) :: [.ref (ad 62)] : List Value) = (([vi (xs (i + 1)).toInt] : List mmV).map (mm_val ad)).reverse ++ .ref (ad 62) :: [] := by rw [← e1]; rfl
  rw [e2]
  refine ll_callW C (as := [vi (xs (i + 1)).toInt]) (st := []) (o := 62) (x := 1145) (r := mr_1145) (t := t_M_answer) rfl (s_M_answer hX hinj hw) l9_a rfl (by decide) (List.forall_mem_cons.mpr ⟨mm_Rof _, fun _ h => absurd h List.not_mem_nil⟩) rfl hz (Nat.le_of_ble_eq_true rfl) hcs (by decide +kernel) hl.1 hM hP hO hS ?_
  rintro r' M2 H1 locs1 ⟨rfl, hM20, htie⟩ hv hM2 hP hO hS
  refine lv_lstore (x := Int64.ofInt z) (lv' := (6, .long (Int64.ofInt z)) :: (5, .int (Int32.ofInt w)) :: ll_lv b ad ao i) C.1 C.2.1 (show decode code 512 = .ok (.lstore 6, 2) by decide +kernel) hl (by decide) rfl (fun ls hl => ?_)
  refine lv_aload_n C.1 C.2.1 (show decode code 514 = .ok (.aload_n 2, 1) by decide +kernel) rfl (lv_at hl 4 rfl) ?_
  refine ll_callW C (as := []) (st := []) (o := 62) (x := 1101) (r := mr_1101) (t := t_M_thrown) (q := fun r'' M3 => r'' = some (vi w) ∧ M3 = M2) rfl (s_M_thrown hX hinj hw) l9_t rfl (by decide) (fun _ h => absurd h List.not_mem_nil) rfl ⟨rfl, by rw [hM20], rfl⟩ (Nat.le_of_ble_eq_true rfl) hcs (by decide +kernel) hl.1 hM2 hP hO hS ?_
  rintro r'' M3 H1 locs1 ⟨rfl, rfl⟩ hv hM2 hP hO hS
  refine lv_iload C.1 C.2.1 (show decode code 518 = .ok (.iload 5, 2) by decide +kernel) (lv_at hl 1 rfl) ?_
  refine lv_icmp_eq (tgt := 525) C.1 C.2.1 (show decode code 520 = .ok (.if_icmp .eq 5, 3) by decide +kernel) (by decide) (fun _ => ?_) (fun h => absurd rfl h)
  refine lv_iload C.1 C.2.1 (show decode code 525 = .ok (.iload 5, 2) by decide +kernel) (lv_at hl 1 rfl) ?_
  have hend : W p l e room_1 s m #[Value.ref b] below meth c H1 locs1 cells slots Q (F0 m 541 ls []) := by
    refine lv_goto (tgt := 1163) C.1 C.2.1 (show decode code 541 = .ok (.goto 622, 3) by decide +kernel) (by decide) ?_
    exact k _ htie H1 locs1 ls f (lv_sub hl [2, 3, 4, 5, 6] rfl) hM2 hP hO hS
  refine lv_if_ne (tgt := 541) C.1 C.2.1 (show decode code 527 = .ok (.ifCond .ne 14, 3) by decide +kernel) (by decide) (fun _ => hend) (fun hw0 => ?_)
  have hw0' : w = 0 := by
    rcases hw01 with h | h
    · exact h
    · rw [h] at hw0; exact absurd hw0 (by decide)
  refine lv_aload_n C.1 C.2.1 (show decode code 530 = .ok (.aload_n 3, 1) by decide +kernel) rfl (lv_at hl 5 rfl) ?_
  refine lv_iconst (v := 0) C.1 C.2.1 (show decode code 531 = .ok (.iconst 0, 1) by decide +kernel) (by decide) ?_
  refine va_lald C.1 C.2.1 C.2.2.2.2.2.2.2.2.2.2.2.2.1 hO 0 0 rfl rfl (i := 0) (by unfold vp_in; decide) (show decode code 532 = .ok (.laload, 1) by decide +kernel) ?_
  rw [show f (0 : Int32).toNatClampNeg = Int64.ofInt z from hf hw0']
  refine lv_lload C.1 C.2.1 (show decode code 533 = .ok (.lload 6, 2) by decide +kernel) (lv_at hl 0 rfl) ?_
  refine W.lcmp C.1 C.2.1 (show decode code 535 = .ok (.lcmp, 1) by decide +kernel) ?_
  exact lv_if_eq (tgt := 541) C.1 C.2.1 (show decode code 536 = .ok (.ifCond .eq 5, 3) by decide +kernel) (by decide) (fun _ => hend) (fun h => absurd (ll_cmp0 _) h)
theorem l9_blind {X : State → Prop} (hX : mm_XOk ad X) {f : Nat → Int64} {q : Int} : FrameBlind (la_Pc D ad G X cJ ao f q M) := fun a U g mk q => ⟨q.1, q.2.1, q.2.2.1.calling hX g mk a, va_K.moved (u := U) (U := U.calling g mk a) (Vm.Alike.refl U.vm) q.2.2.2.1, q.2.2.2.2⟩
set_option maxRecDepth 100000 in
theorem lc_9 (C : ll_Cx p l s m meth c b L xs D ad adV sa G cJ ao) (hi : i + 6 ≤ L) (hcs : cells + 1 ≤ room_1.cells ∧ slots + 6 ≤ room_1.slots) (h : tieR cc M) (k : ∀ M' cells' slots', tieR (cc + 1) M' → cells' ≤ cells + 1 → slots' ≤ slots + 6 → ll_G p l e s m below meth c Q b D ad G cJ ao i cells' slots' 1163 [] M') : ll_G p l e s m below meth c Q b D ad G cJ ao i cells slots 489 [] M := fun H locs ls f hl hM hP hO hS => by
  have hX := xX_ok ad adV sa
  have hE := C.2.2.2.2.2.2.2.1
  have hts := C.2.2.2.2.1
  have hao := C.2.2.2.2.2.2.2.2.2.2.1
  have hinj := C.2.2.2.2.2.2.2.2.2.2.2.1
  have hK := C.2.2.2.2.2.2.2.2.2.2.2.2.1
  have hw := C.2.2.2.2.2.2.2.2.2.2.2.2.2.2.1
  have hst := C.2.2.2.2.2.2.2.2.2.2.2.2.2.2.2
  refine lv_aload_n C.1 C.2.1 (show decode code 489 = .ok (.aload_n 1, 1) by decide +kernel) rfl (lv_at hl 1 rfl) ?_
  refine ll_argW C hi (k := 1) (by decide +kernel) (lv_at hl 0 rfl) (lv_at hl 4 rfl) hS ?_
  refine lv_aload_n C.1 C.2.1 (show decode code 496 = .ok (.aload_n 3, 1) by decide +kernel) rfl (lv_at hl 3 rfl) ?_
  have e0 : (Value.int (xs (i + 1))) = .int (Int32.ofInt (xs (i + 1)).toInt) := by rw [mm_of]
  rw [e0]
  have hpre : PreS s H (la_Pc D ad G (xX ad adV sa) cJ ao f (xs (i + 1)).toInt M) (la_args ad (xs (i + 1)).toInt ao) := ⟨l9_blind hX, fun U hU hW => ⟨rfl, by rw [hU]; exact hP, hE.to hX hW (fun q h7 h8 => by rw [hU]; exact hS.2.1 q h7 (Nat.not_le.mpr h7)), va_K.moved hW.alike hK, by rw [hU]; exact hO⟩⟩
  have hOm : ∀ {H1 : Heap}, (∀ x : Nat, x < H.size → ¬ mm_A ad x → H1[x]? = H[x]?) → va_P D vwCl [(ao, .inl (cJ, 1, .inr (.inl f)))] H1 := fun {H1} hk => hO.kept (fun k x hx => by
    have hk0 : k < 1 := (List.getElem?_eq_some_iff.mp hx).1
    have hx2 := hx
    rw [show k = 0 by omega] at hx2
    cases hx2
    exact hk _ (hO k _ hx).lt hao)
  by_cases hq : 0 ≤ (xs (i + 1)).toInt ∧ (xs (i + 1)).toInt < M 18 4
  · refine ll_runQ (rest := []) (mc := 0) (ms := 0) (vx_runSW (As := la_args ad (xs (i + 1)).toInt ao) (n := 3) ⟨C.1, C.2.1, C.2.2.1, C.2.2.2.1, hts⟩ (la_in hX hinj hw hM (mm_Rof _) (Qz := fun z M1 => t_M_answer [vr 62, vi (xs (i + 1)).toInt] M1 (fun r' M2 => r' = some (vl z) ∧ M2 62 0 = 0 ∧ tieR (cc + 1) M2)) ⟨rfl, hq.1, hq.2, tie_answer_in h hq.1 hq.2⟩ cJ ao hao f) (vx_cwSW 3 hts l9_g rfl rfl rfl ⟨by decide +kernel, by decide +kernel, by decide +kernel⟩ ⟨Nat.le_of_ble_eq_true rfl, Nat.le_of_ble_eq_true rfl⟩) hpre rfl rfl hl.1 rfl (lv_room (Nat.le_of_ble_eq_true rfl)) (show decode code 497 = .ok (.invokestatic 61, 3) by decide +kernel) ⟨by omega, by omega⟩) hS (fun x hx => ?_) (fun v st₀ t locs1 h0 hQ hF => ?_)
    · rcases hx with h | rfl
      · exact ll_inA C x h
      · exact C.2.2.2.2.2.2.2.2.2.1
    · obtain ⟨⟨z, M1, f', hv, hz, hM1, hz64, hf', hP1, hO1⟩, hFr⟩ := hQ
      cases hv
      have hS1 := hF _ hFr (fun x hx => by
        rcases hx with h | rfl
        · exact ll_inA C x h
        · exact C.2.2.2.2.2.2.2.2.2.1)
      exact l9_rest C hi ⟨by omega, by omega⟩ (w := 0) (Or.inl rfl) hz (fun _ => hf') hl hM1 hP1 hO1 hS1 (fun M' ht => k M' cells slots ht (by omega) (by omega))
  · refine ll_runQ (rest := []) (mc := 1) (ms := 6) (vx_runSW (As := la_args ad (xs (i + 1)).toInt ao) (n := 3) ⟨C.1, C.2.1, C.2.2.1, C.2.2.2.1, hts⟩ (la_out hst hinj hw hM (mm_Rof _) hq cJ ao f) (vx_cwSW 3 hts l9_g rfl rfl rfl ⟨by decide +kernel, by decide +kernel, by decide +kernel⟩ ⟨Nat.le_of_ble_eq_true rfl, Nat.le_of_ble_eq_true rfl⟩) hpre rfl rfl hl.1 rfl (lv_room (Nat.le_of_ble_eq_true rfl)) (show decode code 497 = .ok (.invokestatic 61, 3) by decide +kernel) hcs) hS (ll_inA C) (fun v st₀ t locs1 h0 hQ hF => ?_)
    obtain ⟨hv, hP1, hFr⟩ := hQ
    cases hv
    have hS1 := hF _ hFr (ll_inA C)
    exact l9_rest C hi hcs (z := 0) (w := 1) (Or.inr rfl) (tie_answer_out h hq) (fun h => absurd h (by decide)) hl hM hP1 (hOm (fun x h1 h2 => by rw [← h0]; exact hFr.2 x (by rw [h0]; exact h1) h2)) hS1 (fun M' ht => k M' (cells + 1) (slots + 6) ht (Nat.le_refl _) (Nat.le_refl _))
end L9
