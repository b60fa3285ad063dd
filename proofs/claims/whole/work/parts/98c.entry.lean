/-! what holds at the law's entry -/
theorem en_arr {s : State} {args : Array Value} {ty : FieldType} (h : (Cond.arrayClass ty).before args s = true) : ∃ cA : ClassId, ArrOfT s cA ty ∧ s.vm.findClass ("[" ++ ty.toString) = some cA := by
  obtain ⟨comp, kC, cc, h1, h2, h3⟩ := Cond.arrayClass_spec h
  exact ⟨comp, fun n z => ⟨fun x => by simp [arrV], kC, h2, cc, h3⟩, h1⟩
theorem en_arr2 {s : State} {args : Array Value} (h : (Cond.arrayOver (.array .int)).before args s = true) : ∃ cA : ClassId, ArrOfT s cA (.array .int) ∧ s.vm.findClass "[[I" = some cA := by
  obtain ⟨comp, c, k, h1, h2, h3, h4⟩ := Cond.arrayOver_specA h
  exact ⟨c, fun n z => ⟨fun x => by simp [arrV], k, h2, comp, h3⟩, h4⟩
theorem en_nf : ∀ q ∈ mm_nestF, Cond.fieldLinkNest q.1 q.2.1 q.2.2.1 q.2.2.2.1 q.2.2.2.2 RX10 ∈ tables_1 := by decide +kernel
theorem en_nm : ∀ q ∈ mm_nestM, Cond.methodLinkNest q.1 q.2.1 q.2.2 RX10 ∈ tables_1 := by decide +kernel
theorem en_nk : ∀ q ∈ mk_nestM, Cond.methodLinkNest q.1 q.2.1 q.2.2 RX10 ∈ tables_1 := by decide +kernel
theorem en_ov : Cond.arrayOver (.array .int) ∈ tables_1 := by decide +kernel
theorem en_K {s : State} {args : Array Value} (hts : ∀ w ∈ mm_words, w.before args s = true) (hov : (Cond.arrayOver (.array .int)).before args s = true) : ∃ (D : va_G) (G : ClassId × ClassId × ClassId) (cJ : ClassId), va_K D vwCl (mm_tys G) s ∧ va_K D vwCl [(cJ, .long)] s := by
  obtain ⟨c0, s0, k0⟩ := u_known (C := RX0) (T := TX0) (N := 4) (n := 4) hts mc_0 (hts _ mk_in0)
  obtain ⟨c1, s1, k1⟩ := u_known (C := RX1) (T := TX1) (N := 3) (n := 3) hts mc_1 (hts _ mk_in1)
  obtain ⟨c2, s2, k2⟩ := u_known (C := RX2) (T := TX2) (N := 5) (n := 5) hts mc_2 (hts _ mk_in2)
  obtain ⟨c3, s3, k3⟩ := u_known (C := RX3) (T := TX3) (N := 10) (n := 10) hts mc_3 (hts _ mk_in3)
  obtain ⟨c4, s4, k4⟩ := u_known (C := RX4) (T := TX4) (N := 6) (n := 6) hts mc_4 (hts _ mk_in4)
  obtain ⟨c5, s5, k5⟩ := u_known (C := RX5) (T := TX5) (N := 2) (n := 2) hts mc_5 (hts _ mk_in5)
  obtain ⟨c6, s6, k6⟩ := u_known (C := RX6) (T := TX6) (N := 5) (n := 5) hts mc_6 (hts _ mk_in6)
  obtain ⟨c7, s7, k7⟩ := u_known (C := RX7) (T := TX7) (N := 2) (n := 2) hts mc_7 (hts _ mk_in7)
  obtain ⟨c8, s8, k8⟩ := u_known (C := RX8) (T := TX8) (N := 4) (n := 4) hts mc_8 (hts _ mk_in8)
  obtain ⟨c9, s9, k9⟩ := u_known (C := RX9) (T := TX9) (N := 7) (n := 7) hts mc_9 (hts _ mk_in9)
  obtain ⟨c10, s10, k10⟩ := u_known (C := RX10) (T := TX10) (N := 12) (n := 12) hts mc_10 (hts _ mk_in10)
  obtain ⟨c11, s11, k11⟩ := u_known (C := RX11) (T := TX11) (N := 50) (n := 50) hts mc_11 (hts _ mk_in11)
  obtain ⟨gI, a1, a2⟩ := en_arr (hts _ mk_aI)
  obtain ⟨gB, b1, b2⟩ := en_arr (hts _ mk_aB)
  obtain ⟨gJ, j1, j2⟩ := en_arr (hts _ mk_aJ)
  obtain ⟨gA, e1, e2⟩ := en_arr2 hov
  have hc : ∃ (dC : Nat → ClassId) (dI : Nat → Nat → Nat), ∀ (k : Nat) (q : vw_C), vwCl[k]? = some q → u_Kn s q.1 q.2.1 q.2.2 (dC k) (dI k) := by
    refine ⟨fun k => [c0, c1, c2, c3, c4, c5, c6, c7, c8, c9, c10, c11].getD k c0, fun k => [s0, s1, s2, s3, s4, s5, s6, s7, s8, s9, s10, s11].getD k s0, ?_⟩
    intro k q hq
    match k, hq with
    | 0, hq => cases hq; exact k0
    | 1, hq => cases hq; exact k1
    | 2, hq => cases hq; exact k2
    | 3, hq => cases hq; exact k3
    | 4, hq => cases hq; exact k4
    | 5, hq => cases hq; exact k5
    | 6, hq => cases hq; exact k6
    | 7, hq => cases hq; exact k7
    | 8, hq => cases hq; exact k8
    | 9, hq => cases hq; exact k9
    | 10, hq => cases hq; exact k10
    | 11, hq => cases hq; exact k11
    | k + 12, hq => simp at hq
  obtain ⟨dC, dI, hc⟩ := hc
  refine ⟨(dC, dI), (gI, gB, gA), gJ, ⟨hc, fun k q hq => ?_⟩, hc, fun k q hq => ?_⟩
  · match k, hq with
    | 0, hq => cases hq; exact ⟨a1, a2⟩
    | 1, hq => cases hq; exact ⟨b1, b2⟩
    | 2, hq => cases hq; exact ⟨e1, e2⟩
    | k + 3, hq => simp [mm_tys] at hq
  · match k, hq with
    | 0, hq => cases hq; exact ⟨j1, j2⟩
    | k + 1, hq => simp at hq
