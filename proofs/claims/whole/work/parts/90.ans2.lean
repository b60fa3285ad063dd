/-! answer of a question that isn't there: thrown, and caught by the law -/
def pa_X (D : va_G) (ad : Nat → Nat) (G : ClassId × ClassId × ClassId) (M : mmM) : String → State → State → Prop := vx_X (fun _ : Unit => True) (fun E _ t => E = RNS ∧ va_P D vwCl (mm_ws ad G M) t.heap) (mm_A ad)
set_option maxHeartbeats 4000000 in
set_option maxRecDepth 100000 in
theorem pa_out {l : Launch} (hl : l.stackTraces = false) {D : va_G} {ad adV : Nat → Nat} {sa : Nat} {G : ClassId × ClassId × ClassId} (hinj : ∀ i j, i < 77 → j < 77 → ad i = ad j → i = j) (hw : mm_snd l D ad G (xX ad adV sa) 313 t_Rd_isWord) {M : mmM} (hM : mm_mem M) {q : Int} (hq : mm_R q) (hn : ¬ (0 ≤ q ∧ q < M 18 4)) : vx_Met l yX10_answer (Cond.code yX10_answer cX10_answer 2 (some .long) :: mm_words) { frames := 6, cells := 1, slots := 6, locals := 82 } (mm_Pc D ad G (xX ad adV sa) [vr 0, vi q] M) (va_Ql (fun _ (_ : Unit) => False) (fun _ _ => False) (mm_A ad)) (pa_X D ad G M) 1 6 (mm_A ad) := by
  have hX := xX_ok ad adV sa
  refine vx_ofW (cc := cX10_answer) (maxL := 2) (ret := some .long) (by decide +kernel) rfl ?_
  intro p e s m args below meth c s₁ B hml hex hv
  obtain ⟨rfl, hP, hE⟩ := hv
  have hts0 : ∀ w ∈ (Cond.code yX10_answer cX10_answer 2 (some .long) :: mm_words), w.before (([vr 0, vi q] : List mmV).map (mm_val ad)).toArray s = true := atoms_spec (ws := Cond.code yX10_answer cX10_answer 2 (some .long) :: mm_words) B.pre
  have hts : ∀ w ∈ mm_words, w.before (([vr 0, vi q] : List mmV).map (mm_val ad)).toArray s = true := fun w hw => hts0 w (List.mem_cons_of_mem _ hw)
  have hown : s.vm.findClass RX10 = some m.cls := findClass_of_methodNamed B.named
  have hlocks : meth.locks = false := B.notSynchronized
  have C : mm_Cx p s m (([vr 0, vi q] : List mmV).map (mm_val ad)).toArray meth c D ad G (xX ad adV sa) 10 cX10_answer 2 (some .long) := ⟨B.exec, B.bytes, hml, B.returns, hlocks, hown, hts, hE, hX, hinj⟩
  rw [lg_entry_eq]
  have hL := mm_LR_entry (ad := ad) (n := 2) (as := [vr 0, vi q]) (Nat.le_of_ble_eq_true rfl) (List.forall_mem_cons.mpr ⟨trivial, List.forall_mem_cons.mpr ⟨hq, fun _ h => absurd h List.not_mem_nil⟩⟩)
  generalize (lg_sl (([vr 0, vi q] : List mmV).map (mm_val ad)) ++ List.replicate (2 - (lg_sl (([vr 0, vi q] : List mmV).map (mm_val ad))).length) Slot.unset).toArray = ls at hL ⊢
  have hS0 : va_S (mm_A ad) s.heap s.heap [] := va_S.rf
  refine lv_aload_n C.1 C.2.1 (show decode cX10_answer 0 = .ok (.aload_n 0, 1) by decide +kernel) rfl (hL.at (i := 0) (v := vr 0) rfl) ?_
  refine mm_s_get C (o := 0) (k := 2) (idx := 26) (nest := false) (v := .ref (ad 18)) (by decide) mf_68 rfl hP (show decode cX10_answer 1 = .ok (.getfield 26, 3) by decide +kernel) ?_
  refine lv_iload_n C.1 C.2.1 (show decode cX10_answer 4 = .ok (.iload_n 1, 1) by decide +kernel) rfl (hL.at (i := 1) (v := vi q) rfl) ?_
  have hcall := mm_s_callv (l := l) (e := e) (below := below) (R := { frames := 6, cells := 1, slots := 6, locals := 82 }) (Qs := vx_MQ below (va_Ql (fun _ (_ : Unit) => False) (fun _ _ => False) (mm_A ad)) (pa_X D ad G M) (([vr 0, vi q] : List mmV).map (mm_val ad)).toArray s 1 6 (mm_A ad)) (pc := 5) (K := fun L S M' => L = [some (vr 0), some (vi q)] ∧ S = [vi 0] ∧ M' = M) (L := [some (vr 0), some (vi q)]) (S := [vi q, vr 18]) (M := M) C (T := [(203, t_Q_has)]) (List.forall_mem_cons.mpr ⟨s_Q_has hX hinj hw, fun _ h => absurd h List.not_mem_nil⟩) (idx := 146) (x := 203) (n := 2) (r := mr_203) (by decide) rfl rfl rfl (Nat.le_of_ble_eq_true rfl) (Nat.le_of_ble_eq_true rfl) rfl mt_85 (by decide +kernel) ?_ ?_
  · exact hcall s.heap [] ls hL (List.forall_mem_cons.mpr ⟨hq, List.forall_mem_cons.mpr ⟨trivial, fun _ h => absurd h List.not_mem_nil⟩⟩) hM hP hS0
  · rintro L S M' ⟨rfl, rfl, rfl⟩ H locs ls hL hS hM hP hSt
    refine lv_if_ne (x := 0) (tgt := 21) C.1 C.2.1 (show decode cX10_answer 8 = .ok (.ifCond .ne 13, 3) by decide +kernel) (by decide) (fun h => absurd rfl h) (fun _ => ?_)
    have hx := hE.2.2.2.2.2
    refine ex_make (rest := []) (names := ex_names) (text := "no such question") (sa := sa) (A := mm_A ad) (ix := 13) (rx := ex_rx) C.1 C.2.1 hl (by decide +kernel) (by decide +kernel) (by decide +kernel) (by decide +kernel) hown (by decide +kernel) (by decide +kernel) (hts _ an_k) (hts _ an_i) hx.2.1 (fun w hw => ?_) ex_wo hx.2.2.1 hx.2.2.2 hSt (by rw [hml]; exact hL.1.1) (show decode cX10_answer 11 = .ok (.new 181, 3) by decide +kernel) (by decide +kernel) (show decode cX10_answer 15 = .ok (.ldc 183, 2) by decide +kernel) (show decode cX10_answer 17 = .ok (.invokespecial 185, 3) by decide +kernel) (Nat.le_of_ble_eq_true rfl) (Nat.le_of_ble_eq_true rfl) (Nat.le_of_ble_eq_true rfl) (Nat.le_of_ble_eq_true rfl) (fun q9 ce H1 h1 h2 h3 h4 h5 => ?_)
    · rcases ex_wk w hw with h | h
      · exact hts w (List.mem_filter.mpr ⟨ex_wt w hw, h⟩)
      · have h1 := hx.1 w hw h
        cases w <;> first | exact va_Nw.use rfl h1 | (exfalso; rcases h with h | h <;> simp [ex_k] at h)
    · refine vx_athrow C.1 C.2.1 (show decode cX10_answer 20 = .ok (.athrow, 1) by decide +kernel) ?_
      refine vx_out (fun x hx => (hex x hx).elim) hlocks h1 h2 h3 (fun t ht hvm => ⟨(), trivial, ⟨rfl, by rw [ht]; exact hP.kept (fun k x hx => h5 x.1 (hP k x hx).lt)⟩, ?_⟩) hSt.2.2 (Nat.le_of_ble_eq_true rfl) (Nat.le_of_ble_eq_true rfl)
      exact ⟨by rw [ht]; exact Nat.le_trans hSt.1 h4, fun x hx1 hx2 => by rw [ht, h5 x (Nat.lt_of_lt_of_le hx1 hSt.1)]; exact hSt.2.1 x hx1 hx2⟩
  · refine ⟨show mm_cls 18 = 2 by decide, Nat.le_of_ble_eq_true rfl, ?_⟩
    refine ⟨by unfold isQ; decide, rfl, ?_, rfl⟩
    show [vi (mm_b (0 ≤ q ∧ q < M 18 4))] = [vi 0]
    rw [show mm_b (0 ≤ q ∧ q < M 18 4) = 0 from if_neg hn]
