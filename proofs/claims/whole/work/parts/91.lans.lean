/-! the law's own answer: it catches -/
theorem la_good : GoodIn mm_words (wsV RL 7 RX10 yX10_answer (Cond.code yX10_answer cX10_answer 2 (some .long) :: mm_words)) := by
  have hok : mm_recOk mr_1010 := mk_1010
  intro w hw
  unfold wsV at hw
  rcases List.mem_append.mp hw with h7 | h7
  · simp only [List.mem_cons, List.not_mem_nil, or_false] at h7
    rcases h7 with rfl | rfl | rfl | rfl
    · exact mm_good an_l7
    · exact mm_good (hok.2.2.1 rfl).1
    · exact mm_good (hok.2.2.1 rfl).2
    · exact mm_good hok.2.2.2.1
  · exact js_good hok.1 w h7
def la_args (ad : Nat → Nat) (q : Int) (ao : Nat) : List Value := [.ref (ad 0), .int (Int32.ofInt q), .ref ao]
def la_Pc (D : va_G) (ad : Nat → Nat) (G : ClassId × ClassId × ClassId) (X : State → Prop) (cJ : ClassId) (ao : Nat) (f : Nat → Int64) (q : Int) (M : mmM) : Array Value → State → Prop := va_Pc (la_args ad q ao) (fun U => va_P D vwCl (mm_ws ad G M) U.heap ∧ mm_E D ad G X U ∧ va_K D vwCl [(cJ, .long)] U ∧ va_P D vwCl [(ao, .inl (cJ, 1, .inr (.inl f)))] U.heap)
set_option maxHeartbeats 4000000 in
set_option maxRecDepth 100000 in
theorem la_out {l : Launch} (hl : l.stackTraces = false) {D : va_G} {ad adV : Nat → Nat} {sa : Nat} {G : ClassId × ClassId × ClassId} (hinj : ∀ i j, i < 77 → j < 77 → ad i = ad j → i = j) (hw : mm_snd l D ad G (xX ad adV sa) 313 t_Rd_isWord) {M : mmM} (hM : mm_mem M) {q : Int} (hq : mm_R q) (hn : ¬ (0 ≤ q ∧ q < M 18 4)) (cJ : ClassId) (ao : Nat) (f : Nat → Int64) : Met l yL_answer (Cond.codeWith yL_answer cL_answer 4 (some .int) [(0, 8, 11, 13)] :: mm_words) { frames := 7, cells := 1, slots := 6, locals := 103 } (la_Pc D ad G (xX ad adV sa) cJ ao f q M) (fun _ st o t => o = .returned (some (.int 1)) ∧ va_P D vwCl (mm_ws ad G M) t.heap ∧ va_F (mm_A ad) st t) 1 6 (mm_A ad) := by
  have hX := xX_ok ad adV sa
  refine va_MetW (cc := cL_answer) (maxL := 4) (ret := some .int) (by decide +kernel) rfl ?_
  intro p e s m args below meth c s₁ B hml hv
  obtain ⟨rfl, hP, hE, hK, hO⟩ := hv
  have hts0 : ∀ w ∈ (Cond.codeWith yL_answer cL_answer 4 (some .int) [(0, 8, 11, 13)] :: mm_words), w.before (la_args ad q ao).toArray s = true := atoms_spec (ws := Cond.codeWith yL_answer cL_answer 4 (some .int) [(0, 8, 11, 13)] :: mm_words) B.pre
  have hts : ∀ w ∈ mm_words, w.before (la_args ad q ao).toArray s = true := fun w hw => hts0 w (List.mem_cons_of_mem _ hw)
  have hx := B.exec
  have hb := B.bytes
  have hr := B.returns
  have hown : s.vm.findClass RL = some m.cls := findClass_of_methodNamed B.named
  have hlocks : meth.locks = false := B.notSynchronized
  have htab := vx_table (x := yL_answer) B (hts0 _ List.mem_cons_self)
  have hl0 := lv_entry (la_args ad q ao) (n := 4) (Nat.le_of_ble_eq_true rfl)
  rw [lg_entry_eq]
  generalize (lg_sl (la_args ad q ao) ++ List.replicate (4 - (lg_sl (la_args ad q ao)).length) Slot.unset).toArray = ls at hl0 ⊢
  have hl0 : lv_has ls 4 [(0, .ref (ad 0)), (1, .int (Int32.ofInt q)), (2, .ref ao)] := hl0
  have hS : va_S (mm_A ad) s.heap s.heap [] := va_S.rf
  refine lv_aload_n hx hb (show decode cL_answer 0 = .ok (.aload_n 2, 1) by decide +kernel) rfl (lv_at hl0 2 rfl) ?_
  refine lv_iconst (v := 0) hx hb (show decode cL_answer 1 = .ok (.iconst 0, 1) by decide +kernel) (by decide) ?_
  refine lv_aload_n hx hb (show decode cL_answer 2 = .ok (.aload_n 0, 1) by decide +kernel) rfl (lv_at hl0 0 rfl) ?_
  refine lv_iload_n hx hb (show decode cL_answer 3 = .ok (.iload_n 1, 1) by decide +kernel) rfl (lv_at hl0 1 rfl) ?_
  have hrec := va_recv (a := ad 0) (q0 := 0) (ci := 10) hE.1 hP rfl (mm_obj (o := 0) (by decide))
  refine vx_calll (rest := [.int 0, .ref ao]) (A0 := mm_A ad) (H0 := s.heap) (AX := mm_A ad) (vx_runV (As := [.int (Int32.ofInt q)]) (b := ad 0) (C := RX10) (n := 1) ⟨hx, hb, hml, hown, hts⟩ (pa_out hl hinj hw hM hq hn) (cwV 1 hts la_good rfl rfl rfl ⟨rfl, by decide +kernel, by decide +kernel, by decide +kernel⟩ ⟨Nat.le_of_ble_eq_true rfl, Nat.le_of_ble_eq_true rfl⟩) ⟨mm_blind hX, hrec, fun U hU hW => ⟨rfl, by rw [hU]; exact hP, hE.to hX hW (fun q h7 h8 => by rw [hU])⟩⟩ rfl rfl hl0.1 rfl (lv_room (Nat.le_of_ble_eq_true rfl)) (show decode cL_answer 4 = .ok (.invokevirtual 7, 3) by decide +kernel) ⟨Nat.le_of_ble_eq_true rfl, Nat.le_of_ble_eq_true rfl⟩) hS (fun _ _ h => h) (fun _ h => h) (fun _ _ h => h) ?_ ?_
  · intro E ce q9 u t H1 locs1 ht hvm _ hB hsz hk hS1 h1 h2 h3
    obtain ⟨rfl, hP1⟩ := hB
    rw [ht] at hP1
    refine vx_catch hown [] { startPc := 0, endPc := 8, handlerPc := 11, catchType := 13 } [] htab (fun z hz => absurd hz List.not_mem_nil) (by decide) (by decide) (hts _ an_lk) (va_Nw.use rfl (hE.2.2.2.2.2.1 _ ex_wc (Or.inr rfl))) h1 h2 h3 ?_
    refine lv_astore_n (lv' := [(3, .ref q9), (0, .ref (ad 0)), (1, .int (Int32.ofInt q)), (2, .ref ao)]) hx hb (show decode cL_answer 11 = .ok (.astore_n 3, 1) by decide +kernel) rfl hl0 (by decide) rfl (fun ls hl => ?_)
    refine lv_iconst (v := 1) hx hb (show decode cL_answer 12 = .ok (.iconst 1, 1) by decide +kernel) (by decide) ?_
    exact W.iret hx hb hr (fun t ht hW => ⟨rfl, by rw [ht]; exact hP1, hS1.F ht⟩) hS1.2.2 (show decode cL_answer 13 = .ok (.ireturn, 1) by decide +kernel)
  · intro r u t H1 locs1 ht hvm hp
    exact hp.elim
set_option maxHeartbeats 4000000 in
set_option maxRecDepth 100000 in
theorem la_in {l : Launch} {D : va_G} {ad : Nat → Nat} {X : State → Prop} {G : ClassId × ClassId × ClassId} (hX : mm_XOk ad X) (hinj : ∀ i j, i < 77 → j < 77 → ad i = ad j → i = j) (hw : mm_snd l D ad G X 313 t_Rd_isWord) {M : mmM} (hM : mm_mem M) {q : Int} (hq : mm_R q) {Qz : Int → mmM → Prop} (ht : t_P_answer [vr 0, vi q] M (fun r M1 => ∃ z, r = some (vl z) ∧ Qz z M1)) (cJ : ClassId) (ao : Nat) (hao : ¬ mm_A ad ao) (f : Nat → Int64) : Met l yL_answer (Cond.codeWith yL_answer cL_answer 4 (some .int) [(0, 8, 11, 13)] :: mm_words) { frames := 6, cells := 0, slots := 0, locals := 125 } (la_Pc D ad G X cJ ao f q M) (fun _ st o t => (∃ (z : Int) (M1 : mmM) (f' : Nat → Int64), o = .returned (some (.int 0)) ∧ Qz z M1 ∧ mm_mem M1 ∧ mm_R64 z ∧ f' 0 = Int64.ofInt z ∧ va_P D vwCl (mm_ws ad G M1) t.heap ∧ va_P D vwCl [(ao, .inl (cJ, 1, .inr (.inl f')))] t.heap) ∧ va_F (fun x => mm_A ad x ∨ x = ao) st t) 0 0 (fun x => mm_A ad x ∨ x = ao) := by
  refine va_MetW (cc := cL_answer) (maxL := 4) (ret := some .int) (by decide +kernel) rfl ?_
  intro p e s m args below meth c s₁ B hml hv
  obtain ⟨rfl, hP, hE, hK, hO⟩ := hv
  have hts0 : ∀ w ∈ (Cond.codeWith yL_answer cL_answer 4 (some .int) [(0, 8, 11, 13)] :: mm_words), w.before (la_args ad q ao).toArray s = true := atoms_spec (ws := Cond.codeWith yL_answer cL_answer 4 (some .int) [(0, 8, 11, 13)] :: mm_words) B.pre
  have hts : ∀ w ∈ mm_words, w.before (la_args ad q ao).toArray s = true := fun w hw => hts0 w (List.mem_cons_of_mem _ hw)
  have hx := B.exec
  have hb := B.bytes
  have hr := B.returns
  have hown : s.vm.findClass RL = some m.cls := findClass_of_methodNamed B.named
  have hlocks : meth.locks = false := B.notSynchronized
  have hl0 := lv_entry (la_args ad q ao) (n := 4) (Nat.le_of_ble_eq_true rfl)
  rw [lg_entry_eq]
  generalize (lg_sl (la_args ad q ao) ++ List.replicate (4 - (lg_sl (la_args ad q ao)).length) Slot.unset).toArray = ls at hl0 ⊢
  have hl0 : lv_has ls 4 [(0, .ref (ad 0)), (1, .int (Int32.ofInt q)), (2, .ref ao)] := hl0
  have hS : va_S (mm_A ad) s.heap s.heap [] := va_S.rf
  refine lv_aload_n hx hb (show decode cL_answer 0 = .ok (.aload_n 2, 1) by decide +kernel) rfl (lv_at hl0 2 rfl) ?_
  refine lv_iconst (v := 0) hx hb (show decode cL_answer 1 = .ok (.iconst 0, 1) by decide +kernel) (by decide) ?_
  refine lv_aload_n hx hb (show decode cL_answer 2 = .ok (.aload_n 0, 1) by decide +kernel) rfl (lv_at hl0 0 rfl) ?_
  refine lv_iload_n hx hb (show decode cL_answer 3 = .ok (.iload_n 1, 1) by decide +kernel) rfl (lv_at hl0 1 rfl) ?_
  have hrec := va_recv (a := ad 0) (q0 := 0) (ci := 10) hE.1 hP rfl (mm_obj (o := 0) (by decide))
  have hmet := s_P_answer hX hinj hw mr_1010 rfl [vr 0, vi q] M _ (List.forall_mem_cons.mpr ⟨trivial, List.forall_mem_cons.mpr ⟨hq, fun _ h => absurd h List.not_mem_nil⟩⟩) hM ht
  refine mm_run (rest := [.int 0, .ref ao]) (va_runV (As := [.int (Int32.ofInt q)]) (b := ad 0) (C := RX10) (n := 1) ⟨hx, hb, hml, hown, hts⟩ hmet (cwV 1 hts la_good rfl rfl rfl ⟨rfl, by decide +kernel, by decide +kernel, by decide +kernel⟩ ⟨Nat.le_of_ble_eq_true rfl, Nat.le_of_ble_eq_true rfl⟩) ⟨mm_blind hX, hrec, fun U hU hW => ⟨rfl, by rw [hU]; exact hP, hE.to hX hW (fun q h7 h8 => by rw [hU])⟩⟩ rfl rfl hl0.1 rfl (lv_room (Nat.le_of_ble_eq_true rfl)) (show decode cL_answer 4 = .ok (.invokevirtual 7, 3) by decide +kernel) ⟨Nat.zero_le _, Nat.zero_le _⟩) hS ?_
  rintro r M1 H1 locs1 ⟨z, rfl, hz⟩ hvr hM1 hP1 hS1
  have hz64 : mm_R64 z := hvr _ rfl
  have hlt : ao < s.heap.size := (hO 0 _ rfl).lt
  have hO1 : va_P D vwCl [(ao, .inl (cJ, 1, .inr (.inl f)))] H1 := hO.kept (fun k x hx => by
    have hk0 : k < 1 := (List.getElem?_eq_some_iff.mp hx).1
    rw [show k = 0 by omega] at hx
    cases hx
    exact hS1.2.1 ao hlt hao)
  have hPP := hP1.app hO1
  have hlen : (mm_ws ad G M1).length = 77 := by simp [mm_ws]
  have hD : va_D (fun x => mm_A ad x ∨ x = ao) (mm_ws ad G M1 ++ [(ao, .inl (cJ, 1, .inr (.inl f)))]) := by
    have hsp : ∀ (k : Nat) (x : Nat × va_E), (mm_ws ad G M1 ++ [(ao, .inl (cJ, 1, .inr (.inl f)))])[k]? = some x → (k < 77 ∧ x = (ad k, mm_cell ad G M1 k)) ∨ (k = 77 ∧ x.1 = ao) := by
      intro k x hk
      by_cases h : k < 77
      · rw [List.getElem?_append_left (by omega)] at hk
        exact Or.inl (mm_ws_inv hk)
      · rw [List.getElem?_append_right (by omega), hlen] at hk
        have hk0 : k - 77 < 1 := (List.getElem?_eq_some_iff.mp hk).1
        rw [show k - 77 = 0 by omega] at hk
        cases hk
        exact Or.inr ⟨by omega, rfl⟩
    refine ⟨fun i j x y hi hj hxy => ?_, fun k x hk => ?_⟩
    · rcases hsp i x hi with ⟨a1, rfl⟩ | ⟨a1, a2⟩ <;> rcases hsp j y hj with ⟨b1, rfl⟩ | ⟨b1, b2⟩
      · exact hinj i j a1 b1 hxy
      · exact absurd ⟨i, a1, by rw [← b2]; exact hxy.symm⟩ hao
      · exact absurd ⟨j, b1, by rw [← a2]; exact hxy⟩ hao
      · omega
    · rcases hsp k x hk with ⟨a1, rfl⟩ | ⟨a1, a2⟩
      · exact Or.inl ⟨k, a1, rfl⟩
      · exact Or.inr a2
  have hS2 : va_S (fun x => mm_A ad x ∨ x = ao) s.heap H1 locs1 := ⟨hS1.1, fun x h1 h2 => hS1.2.1 x h1 (fun h => h2 (Or.inl h)), fun l hl => Or.inl (hS1.2.2 l hl)⟩
  refine va_last (x := Int64.ofInt z) hx hb hK hPP hD hS2 77 0 (by rw [List.getElem?_append_right (by omega), hlen]; rfl) rfl (i := 0) (by unfold vp_in; decide) (show decode cL_answer 7 = .ok (.lastore, 1) by decide +kernel) (fun H2 locs2 hP2 hD2 hS2 => ?_)
  refine lv_goto (tgt := 14) hx hb (show decode cL_answer 8 = .ok (.goto 6, 3) by decide +kernel) (by decide) ?_
  refine lv_iconst (v := 0) hx hb (show decode cL_answer 14 = .ok (.iconst 0, 1) by decide +kernel) (by decide) ?_
  refine W.iret hx hb hr (fun t ht hW => ⟨⟨z, M1, vp_updL f (0 : Int32).toNatClampNeg (Int64.ofInt z), rfl, hz, hM1, hz64, rfl, ?_, ?_⟩, hS2.F ht⟩) hS2.2.2 (show decode cL_answer 15 = .ok (.ireturn, 1) by decide +kernel)
  · rw [ht]
    intro k x hk
    have h1 := (mm_ws_inv hk).1
    exact hP2 k x (by rw [List.getElem?_set_ne (by omega), List.getElem?_append_left (by omega)]; exact hk)
  · rw [ht]
    intro k x hk
    have hk0 : k < 1 := (List.getElem?_eq_some_iff.mp hk).1
    rw [show k = 0 by omega] at hk
    exact hP2 77 x (by rw [List.getElem?_set_self (by simp [hlen])]; exact hk)
