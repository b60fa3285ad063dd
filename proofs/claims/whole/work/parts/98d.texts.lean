/-! the texts and the statics at the law's entry -/
def en_tm (i : Nat) : Term := .string RX3 (mm_sidx.getD i (0, "")).1
abbrev en_c : Cond := Jvm.Cond.and given_1 narrow_1
theorem en_ex : ∀ i, i < 12 → Cond.exactly (en_tm i) "java/lang/String" ∈ flatC en_c := by decide +kernel
theorem en_co : ∀ i, i < 12 → Cond.eq (.field (en_tm i) "java/lang/String" "code\x72" "B") (.int 0) ∈ flatC en_c := by decide +kernel
theorem en_ar : ∀ i, i < 12 → Cond.arrayOf (.field (en_tm i) "java/lang/String" "value" "[B") .byte ∈ flatC en_c := by decide +kernel
theorem en_le : ∀ i, i < 12 → Cond.eq (.length (.field (en_tm i) "java/lang/String" "value" "[B")) (.int (Int32.ofNat (js_len.getD i 0))) ∈ flatC en_c := by decide +kernel
theorem en_el : ∀ i, i < 12 → ∀ j, j < js_len.getD i 0 → Cond.eq (.elem (.field (en_tm i) "java/lang/String" "value" "[B") (.int (Int32.ofNat j))) (.int ((js_byt.getD i []).getD j 0)) ∈ flatC en_c := by decide +kernel
theorem en_ne : ∀ i, i < 12 → ∀ j, j < 12 → i ≠ j → Cond.not (Cond.eq (en_tm i) (en_tm j)) ∈ flatC en_c ∨ Cond.not (Cond.eq (en_tm j) (en_tm i)) ∈ flatC en_c := by decide +kernel
theorem en_sr : ∀ q ∈ mm_sidx, Cond.stringRef RX3 q.1 q.2 ∈ tables_1 := by decide +kernel
theorem en_s1 : Cond.eq (.static RJ0 "COMPACT_STRINGS" "Z") (.int 1) ∈ flatC en_c ∧ Cond.isRef (.static RJ3 "SIOOBE_FORMATTER" "Ljava/util/function/BiFunction;") ∈ flatC en_c ∧ Cond.isRef (.static Bundle.tN "UNASSIGNED_STACK" Bundle.steD) ∈ flatC en_c ∧ Cond.isRef (.static Bundle.tN "SUPPRESSED_SENTINEL" Bundle.listD) ∈ flatC en_c ∧ Cond.exactly (.string RX10 183) "java/lang/String" ∈ flatC en_c := by decide +kernel
theorem en_s2 : Cond.laysStatic RJ0 "COMPACT_STRINGS" "Z" ∈ tables_1 ∧ Cond.laysStatic RJ3 "SIOOBE_FORMATTER" "Ljava/util/function/BiFunction;" ∈ tables_1 ∧ Cond.laysStatic Bundle.tN "UNASSIGNED_STACK" Bundle.steD ∈ tables_1 ∧ Cond.laysStatic Bundle.tN "SUPPRESSED_SENTINEL" Bundle.listD ∈ tables_1 ∧ Cond.stringRef RX10 183 "no such question" ∈ tables_1 ∧ Cond.initialized Bundle.tN ∈ tables_1 := by decide +kernel
theorem en_X {s : State} {args : Array Value} (hgv : en_c.before args s = true) (htab : ∀ w ∈ lw_tbl, w.before args s = true) : ∃ (ks adV : Nat → Nat) (sa : Nat), (∀ (j : Nat) (q : Nat × String), mm_sidx[j]? = some q → vk_R RX3 q.1 q.2 (ks j) s) ∧ js_X (ll_A s) ks adV s ∧ ex_X (ll_A s) sa s := by
  have hs := flat_of_before _ hgv
  have ht : ∀ w ∈ tables_1, w.before args s = true := fun w hw => htab w (List.mem_append_right _ hw)
  have hm : ∀ w ∈ mm_words, w.before args s = true := fun w hw => htab w (List.mem_filter.mp hw).1
  have hA : ∀ a : Nat, a < s.heap.size → ¬ ll_A s a := fun a h => Nat.not_le.mpr h
  obtain ⟨adK, adV, hS, hev⟩ := vk_Sof (args := args) (s := s) (N := 12) (tm := en_tm) (len := js_len) (byt := js_byt) (A := ll_A s) (fun i hi => by have := (js_all i hi).2.1; omega) (fun i hi => hs _ (en_ex i hi)) (fun i hi => hs _ (en_co i hi)) (fun i hi => hs _ (en_ar i hi)) (fun i hi => hs _ (en_le i hi)) (fun i hi j hj => hs _ (en_el i hi j hj)) (fun i j hi hj hij => (en_ne i hi j hj hij).imp (hs _) (hs _)) hA
  obtain ⟨sa, c, cA, kA, q1, -⟩ := Cond.exactly_spec (args := args) (first := s) (o := none) (s := s) (idx := []) (t := .string RX10 183) (cls := "java/lang/String") (hs _ en_s1.2.2.2.2)
  refine ⟨adK, adV, sa, fun j q hq => ?_, ⟨va_Zof (ht _ en_s2.1) (hm _ jn_RJ0) (va_eqt (hs _ en_s1.1)) hA, va_Zqof (ht _ en_s2.2.1) (hm _ jn_RJ3) (hs _ en_s1.2.1) hA, hS⟩, ⟨fun w hw hk => ?_, vk_R.of (ht _ en_s2.2.2.2.2.1) q1, vx_Zqof (ht _ en_s2.2.2.1) (ht _ en_s2.2.2.2.2.2) (hs _ en_s1.2.2.1) hA, vx_Zqof (ht _ en_s2.2.2.2.1) (ht _ en_s2.2.2.2.2.2) (hs _ en_s1.2.2.2.1) hA⟩⟩
  · have hj : j < 12 := (List.getElem?_eq_some_iff.mp hq).1
    have hgd : mm_sidx.getD j (0, "") = q := by rw [List.getD_eq_getElem?_getD, hq]; rfl
    have h1 := hev j hj
    unfold en_tm at h1
    rw [hgd] at h1
    exact vk_R.of (ht _ (en_sr q (List.mem_of_getElem? hq))) h1
  · have h1 := htab w (ex_wt w hw)
    cases w <;> first | exact va_Nw.of rfl h1 | (exfalso; rcases hk with hk | hk <;> simp [ex_k] at hk)
