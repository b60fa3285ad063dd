/-! a block, and a method -/
theorem mm_exp1 {pc : Nat} {i : Instr} {x : Nat} {d : Instr × Nat} {a : Instr × Nat} (h : (mm_exp pc i x).any (fun a => decide (d = a)) = true) (he : mm_exp pc i x = [a]) : d = a := by
  rw [he] at h
  simpa using h
theorem mm_exp_ld {n : Nat} {d a : Instr × Nat} {f : Fin 4 → Instr} (h : (a :: (if h : n < 4 then [((f ⟨n, h⟩, 1) : Instr × Nat)] else [])).any (fun a => decide (d = a)) = true) : d = a ∨ ∃ k : Fin 4, (k : Nat) = n ∧ d = (f k, 1) := by
  by_cases hn : n < 4
  · rw [dif_pos hn] at h
    have : d = a ∨ d = (f ⟨n, hn⟩, 1) := by simpa using h
    rcases this with h1 | h1
    · exact Or.inl h1
    · exact Or.inr ⟨⟨n, hn⟩, rfl, h1⟩
  · rw [dif_neg hn] at h
    exact Or.inl (by simpa using h)
theorem mm_andE (a b : Int) : Int32.ofInt (mm_and a b) = Int32.ofInt a &&& Int32.ofInt b := mm_of _
theorem mm_xorE (a b : Int) : Int32.ofInt (mm_xor a b) = Int32.ofInt a ^^^ Int32.ofInt b := mm_of _
theorem mm_shrE (a b : Int) : Int32.ofInt (mm_shr a b) = Int32.ofInt a >>> (Int32.ofInt b &&& 31) := mm_of _
theorem mm_inRok {z : Int} (h : mm_inR z = true) : mm_R z := by
  simp only [mm_inR, Bool.and_eq_true, decide_eq_true_eq] at h
  exact h
section MMB
variable {p : Program} {l : Launch} {e : Env} {R : Room} {s : State} {m : MethodId} {args : Array Value} {below : List Frame} {meth : Method} {c : Code} {D : va_G} {ad : Nat → Nat} {G : ClassId × ClassId × ClassId} {X : State → Prop} {oc : Nat} {cc : ByteArray} {maxL : Nat} {ret : Option FieldType} {K : mmK} {L : mmL} {S : mmS} {M : mmM}
theorem mm_s_const {Qs : State → Prop} {pc nx : Nat} {v : mmV} (hv : mm_vin v) (hrow : ∀ (H : Heap) (locs : List Loc) (ls : Array Slot) (rest : List Value), W p l e R s m args below meth c H locs 0 0 Qs (F0 m nx ls (mm_val ad v :: rest)) → W p l e R s m args below meth c H locs 0 0 Qs (F0 m pc ls rest)) (hK : ∀ L S M, K L S M → mm_W p l e R s m args below meth c Qs D ad G maxL nx L S M) (h : K L (v :: S) M) : mm_W p l e R s m args below meth c Qs D ad G maxL pc L S M := by
  intro H locs ls hL hS hM hP hSt
  exact hrow H locs ls _ (hK _ _ _ h H locs ls hL (List.forall_mem_cons.mpr ⟨hv, hS⟩) hM hP hSt)
set_option maxHeartbeats 4000000 in
set_option maxRecDepth 100000 in
theorem mm_blk (C : mm_Cx p s m args meth c D ad G X oc cc maxL ret) {T : List (Nat × mmT)} (hT : ∀ q ∈ T, mm_snd l D ad G X q.1 q.2) {Q : mmP} : ∀ (ops : List mmO), mm_chk cc oc maxL ret R.frames R.locals ops = true → ∀ (L : mmL) (S : mmS) (M : mmM), mm_wp T (mm_W p l e R s m args below meth c (MQ below (mm_Qc D ad G Q) args s 0 0 (mm_A ad)) D ad G maxL) Q ops L S M → mm_W p l e R s m args below meth c (MQ below (mm_Qc D ad G Q) args s 0 0 (mm_A ad)) D ad G maxL (mm_hd ops) L S M := by
  intro ops
  induction ops with
  | nil => intro _ L S M h; exact h.elim
  | cons q r ih =>
    obtain ⟨pc, i, x, y⟩ := q
    intro hc L S M h
    show mm_W p l e R s m args below meth c _ D ad G maxL pc L S M
    generalize hQs : MQ below (mm_Qc D ad G Q) args s 0 0 (mm_A ad) = Qs at *
    by_cases hnop : i = .nop
    · subst hnop; exact h
    have hlocks : meth.locks = false := C.2.2.2.2.1
    simp only [mm_chk, Bool.or_eq_true, decide_eq_true_eq, hnop, false_or, Bool.and_eq_true] at hc
    obtain ⟨hc, hr⟩ := hc
    cases hdec : decode cc pc with
    | error z => rw [hdec] at hc; cases hc
    | ok d =>
    rw [hdec] at hc
    simp only [Bool.and_eq_true, Bool.or_eq_true, decide_eq_true_eq] at hc
    obtain ⟨⟨hexp, hnx⟩, hside⟩ := hc
    have hK : mm_term i = false → ∀ L S M, mm_wp T (mm_W p l e R s m args below meth c Qs D ad G maxL) Q r L S M → mm_W p l e R s m args below meth c Qs D ad G maxL (pc + d.2) L S M := by
      intro ht L S M h
      rw [ht] at hnx hr
      have h1 : mm_hd r = pc + d.2 := by simpa using hnx
      rw [← h1]
      exact ih (by simpa using hr) L S M h
    have hret : ∀ (rv : Option mmV), (∀ v, rv = some v → mm_vin v) → Q rv M → ∀ (H : Heap) (locs : List Loc), mm_mem M → va_P D vwCl (mm_ws ad G M) H → va_S (mm_A ad) s.heap H locs → ∀ t : State, t.heap = H → s.WarmedH t.vm → mm_Qc D ad G Q args s (.returned (rv.map (mm_val ad))) t := by
      intro rv hv hq H locs hm hp hs t ht _
      exact ⟨⟨rv, M, rfl, hq, hv, hm, by rw [ht]; exact hp⟩, hs.F ht⟩
    cases i <;> first | exact h.elim | skip
    case aaload =>
      have := mm_exp1 hexp rfl; subst this
      exact mm_s_aald C hdec (hK rfl) h
    case aload n =>
      rcases mm_exp_ld hexp with rfl | ⟨k, hk, rfl⟩
      · exact mm_s_lda C (Or.inl ⟨hdec, rfl⟩) (hK rfl) h
      · exact mm_s_lda C (Or.inr ⟨k, hk, hdec, rfl⟩) (hK rfl) h
    case areturn =>
      have := mm_exp1 hexp rfl; subst this
      have hr9 : ret = some (.array .int) := by simpa [mm_side] using hside
      intro H locs ls hL hS hM hP hSt
      rcases S with _ | ⟨v | v | v, _ | ⟨w, S⟩⟩ <;> first | exact h.elim | skip
      subst hQs
      exact W.aret C.1 C.2.1 (C.2.2.2.1.trans hr9) (Or.inr ⟨_, rfl⟩) (Or.inr ⟨_, rfl⟩) (hret (some (vr v)) (fun w hw => by cases hw; trivial) h H locs hM hP hSt) hSt.2.2 hdec
    case arraylength =>
      have := mm_exp1 hexp rfl; subst this
      exact mm_s_alen C hdec (hK rfl) h
    case astore n =>
      have hn : n < maxL := by simpa [mm_side] using hside
      rcases mm_exp_ld hexp with rfl | ⟨k, hk, rfl⟩
      · exact mm_s_sta C hn (Or.inl ⟨hdec, rfl⟩) (hK rfl) h
      · exact mm_s_sta C hn (Or.inr ⟨k, hk, hdec, rfl⟩) (hK rfl) h
    case baload =>
      have := mm_exp1 hexp rfl; subst this
      exact mm_s_bald C hdec (hK rfl) h
    case bastore =>
      have := mm_exp1 hexp rfl; subst this
      exact mm_s_bast C hdec (hK rfl) h
    case bipush z =>
      have hz : mm_R64 z ∧ (match d.1 with | .lconst _ => true | _ => mm_longs.contains (oc, x, z)) = true := by
        simp only [mm_side, Bool.and_eq_true, decide_eq_true_eq] at hside
        exact hside
      have hd : d = (.ldc2_w x, 3) ∨ (z = 0 ∧ d = (.lconst 0, 1)) ∨ (z = 1 ∧ d = (.lconst 1, 1)) := by
        simp only [mm_exp, List.any_eq_true, List.mem_append, List.mem_singleton, decide_eq_true_eq] at hexp
        obtain ⟨a, h1, rfl⟩ := hexp
        rcases h1 with h1 | h1
        · exact Or.inl h1
        · split at h1
          · exact Or.inr (Or.inl ⟨by assumption, by simpa using h1⟩)
          · split at h1
            · exact Or.inr (Or.inr ⟨by assumption, by simpa using h1⟩)
            · simp at h1
      refine mm_s_const (v := vl z) (nx := pc + d.2) hz.1 (fun H locs ls rest k => ?_) (hK rfl) h
      rcases hd with rfl | ⟨rfl, rfl⟩ | ⟨rfl, rfl⟩
      · exact lv_ldc2 C.1 C.2.1 C.2.2.2.2.2.1 (C.2.2.2.2.2.2.1 _ (mm_longs_ok (oc, x, z) (by simpa using hz.2))) hdec k
      · exact lv_lconst C.1 C.2.1 hdec rfl k
      · exact lv_lconst C.1 C.2.1 hdec rfl k
    case dup =>
      have := mm_exp1 hexp rfl; subst this
      intro H locs ls hL hS hM hP hSt
      rcases S with _ | ⟨v | v | v, S⟩ <;> first | exact h.elim | skip
      · exact lv_dup C.1 C.2.1 hdec rfl (hK rfl _ _ _ h H locs ls hL (List.forall_mem_cons.mpr ⟨(List.forall_mem_cons.mp hS).1, hS⟩) hM hP hSt)
      · exact lv_dup C.1 C.2.1 hdec rfl (hK rfl _ _ _ h H locs ls hL (List.forall_mem_cons.mpr ⟨(List.forall_mem_cons.mp hS).1, hS⟩) hM hP hSt)
    case dup2 =>
      have := mm_exp1 hexp rfl; subst this
      intro H locs ls hL hS hM hP hSt
      rcases S with _ | ⟨v | v | v, _ | ⟨w | w | w, S⟩⟩ <;> first | exact h.elim | skip
      · exact lv_dup2_11 C.1 C.2.1 hdec rfl rfl (hK rfl _ _ _ h H locs ls hL (List.forall_mem_cons.mpr ⟨(List.forall_mem_cons.mp hS).1, List.forall_mem_cons.mpr ⟨(List.forall_mem_cons.mp (List.forall_mem_cons.mp hS).2).1, hS⟩⟩) hM hP hSt)
      · exact lv_dup2_11 C.1 C.2.1 hdec rfl rfl (hK rfl _ _ _ h H locs ls hL (List.forall_mem_cons.mpr ⟨(List.forall_mem_cons.mp hS).1, List.forall_mem_cons.mpr ⟨(List.forall_mem_cons.mp (List.forall_mem_cons.mp hS).2).1, hS⟩⟩) hM hP hSt)
    case fadd =>
      have := mm_exp1 hexp rfl; subst this
      simp only [mm_side, Bool.and_eq_true, decide_eq_true_eq] at hside
      have hw := C.2.2.2.2.2.2.1
      refine mm_s_mm (fun a b H locs ls rest hls hrest ha hb => ⟨mm_maxR ha hb, fun k => ?_⟩) (hK rfl) h (mm_catsE ad)
      rw [← mm_maxE ha hb] at k
      exact va_mmax C.1 C.2.1 (C.2.2.1.trans hls.symm) C.2.2.2.2.2.1 (hw _ (mm_maxs_ok (oc, x) (by simpa using hside.1.1))) (hw _ mm_maxS) (hw _ mm_mathI) (hw _ mm_maxC) hside.1.2 (by omega) (Nat.zero_le _) (Nat.zero_le _) hdec k
    case fsub =>
      have := mm_exp1 hexp rfl; subst this
      simp only [mm_side, Bool.and_eq_true, decide_eq_true_eq] at hside
      have hw := C.2.2.2.2.2.2.1
      refine mm_s_mm (fun a b H locs ls rest hls hrest ha hb => ⟨mm_minR ha hb, fun k => ?_⟩) (hK rfl) h (mm_catsE ad)
      rw [← mm_minE ha hb] at k
      exact va_mmin C.1 C.2.1 (C.2.2.1.trans hls.symm) C.2.2.2.2.2.1 (hw _ (mm_mins_ok (oc, x) (by simpa using hside.1.1))) (hw _ mm_minS) (hw _ mm_mathI) (hw _ mm_minC) hside.1.2 (by omega) (Nat.zero_le _) (Nat.zero_le _) hdec k
    case fmul =>
      have := mm_exp1 hexp rfl; subst this
      simp only [mm_side, Bool.and_eq_true, decide_eq_true_eq] at hside
      exact mm_s_acpy C hside.1.2 hside.2 (mm_cpys_ok (oc, x) (by simpa using hside.1.1)) hdec (hK rfl) h
    case freturn =>
      have := mm_exp1 hexp rfl; subst this
      have hr9 : ret = some .boolean := by simpa [mm_side] using hside
      intro H locs ls hL hS hM hP hSt
      rcases S with _ | ⟨v | v | v, _ | ⟨w, S⟩⟩ <;> first | exact h.elim | skip
      subst hQs
      have hn : narrow .boolean (.int (Int32.ofInt v)) = .int (Int32.ofInt v) := by rcases h.1 with rfl | rfl <;> rfl
      exact W.zret C.1 C.2.1 (C.2.2.2.1.trans hr9) hn (hret (some (vi v)) (fun w hw => by cases hw; exact (List.forall_mem_cons.mp hS).1) h.2 H locs hM hP hSt) hSt.2.2 hdec
    case getfield n =>
      have := mm_exp1 hexp rfl; subst this
      simp only [mm_side, Bool.and_eq_true, Bool.or_eq_true, decide_eq_true_eq] at hside
      obtain ⟨⟨⟨h0, h1⟩, h2⟩, h3⟩ := hside
      have h' : mm_geti x (y.toNat : Int) (mm_wp T (mm_W p l e R s m args below meth c Qs D ad G maxL) Q r) L S M := by rw [Int.toNat_of_nonneg h0]; exact h
      rcases h3 with h3 | h3
      · exact mm_s_geti C h1 h2 (mm_flds_ok _ (by simpa using h3)) hdec (hK rfl) h'
      · exact mm_s_geti C h1 h2 (mm_flds_ok _ (by simpa using h3)) hdec (hK rfl) h'
    case getstatic n =>
      have := mm_exp1 hexp rfl; subst this
      simp only [mm_side, Bool.and_eq_true, decide_eq_true_eq, List.any_eq_true, Bool.or_eq_true] at hside
      obtain ⟨h1, k, -, h2, h3⟩ := hside
      rcases h3 with h3 | h3
      · exact mm_s_geta C h1 h2 (mm_flds_ok _ (by simpa using h3)) hdec (hK rfl) h
      · exact mm_s_geta C h1 h2 (mm_flds_ok _ (by simpa using h3)) hdec (hK rfl) h
    case goto off =>
      have := mm_exp1 hexp rfl; subst this
      intro H locs ls hL hS hM hP hSt
      exact lv_goto C.1 C.2.1 hdec (by omega) (h H locs ls hL hS hM hP hSt)
    case i2b =>
      have := mm_exp1 hexp rfl; subst this
      intro H locs ls hL hS hM hP hSt
      rcases S with _ | ⟨v | v | v, S⟩ <;> first | exact h.elim | skip
      exact lv_i2b C.1 C.2.1 hdec (v := Int32.ofInt (mm_i2b v)) (by rw [mm_i2b, mm_of]) (hK rfl _ _ _ h H locs ls hL (List.forall_mem_cons.mpr ⟨mm_i2bR v, (List.forall_mem_cons.mp hS).2⟩) hM hP hSt)
    case i2l =>
      have := mm_exp1 hexp rfl; subst this
      intro H locs ls hL hS hM hP hSt
      rcases S with _ | ⟨v | v | v, S⟩ <;> first | exact h.elim | skip
      have hv : mm_R v := (List.forall_mem_cons.mp hS).1
      exact lv_i2l C.1 C.2.1 hdec (mm_i2lE hv) (hK rfl _ _ _ h H locs ls hL (List.forall_mem_cons.mpr ⟨show mm_R64 v from ⟨by omega, by omega⟩, (List.forall_mem_cons.mp hS).2⟩) hM hP hSt)
    case iadd =>
      have := mm_exp1 hexp rfl; subst this
      exact mm_s_2i (fun a b H locs ls rest ha hb hP => ⟨hP, fun k => by rw [Int32.ofInt_add] at k; exact lv_iadd C.1 C.2.1 hdec k⟩) (hK rfl) h
    case iaload =>
      have := mm_exp1 hexp rfl; subst this
      exact mm_s_iald C hdec (hK rfl) h
    case iand =>
      have := mm_exp1 hexp rfl; subst this
      exact mm_s_2i (fun a b H locs ls rest ha hb hP => ⟨mm_Rof _, fun k => by rw [mm_of] at k; exact lv_iand C.1 C.2.1 hdec k⟩) (hK rfl) h
    case iastore =>
      have := mm_exp1 hexp rfl; subst this
      exact mm_s_iast C hdec (hK rfl) h
    case iconst z =>
      have hz : mm_R z ∧ (match d.1 with | .iconst _ => true | .bipush _ => decide (-128 ≤ z) && decide (z ≤ 127) | .sipush _ => decide (-32768 ≤ z) && decide (z ≤ 32767) | _ => mm_ints.contains (oc, x, z)) = true := by
        simp only [mm_side, Bool.and_eq_true] at hside
        exact ⟨mm_inRok hside.1, hside.2⟩
      have hd : d = (.iconst z, 1) ∨ d = (.bipush z, 2) ∨ d = (.sipush z, 3) ∨ d = (.ldc x, 2) ∨ d = (.ldc_w x, 3) := by
        simpa [mm_exp] using hexp
      refine mm_s_const (v := vi z) (nx := pc + d.2) hz.1 (fun H locs ls rest k => ?_) (hK rfl) h
      rcases hd with rfl | rfl | rfl | rfl | rfl
      · exact lv_iconst C.1 C.2.1 hdec rfl k
      · have h9 := hz.2
        simp only [Bool.and_eq_true, decide_eq_true_eq] at h9
        exact lv_bipush C.1 C.2.1 hdec (mm_bc h9.1 h9.2) k
      · have h9 := hz.2
        simp only [Bool.and_eq_true, decide_eq_true_eq] at h9
        exact lv_sipush C.1 C.2.1 hdec (mm_sc h9.1 h9.2) k
      · exact lv_ldc C.1 C.2.1 C.2.2.2.2.2.1 (C.2.2.2.2.2.2.1 _ (mm_ints_ok (oc, x, z) (by simpa using hz.2))) hdec k
      · exact lv_ldcw C.1 C.2.1 C.2.2.2.2.2.1 (C.2.2.2.2.2.2.1 _ (mm_ints_ok (oc, x, z) (by simpa using hz.2))) hdec k
    case idiv =>
      have := mm_exp1 hexp rfl; subst this
      exact mm_s_2i (fun a b H locs ls rest ha hb hP => ⟨mm_divR ha hP, fun k => by rw [← mm_div ha hb hP] at k; exact lv_idiv C.1 C.2.1 hdec (mm_ne0 hb hP) k⟩) (hK rfl) h
    case if_icmp cn off =>
      have := mm_exp1 hexp rfl; subst this
      exact mm_s_if2 C hdec (by omega) (fun L S M h => h) (hK rfl) h
    case ifCond cn off =>
      have := mm_exp1 hexp rfl; subst this
      exact mm_s_if1 C hdec (by omega) (fun L S M h => h) (hK rfl) h
    case iinc n z =>
      have := mm_exp1 hexp rfl; subst this
      simp only [mm_side, Bool.and_eq_true, decide_eq_true_eq] at hside
      exact mm_s_inc C hside.1 hdec (hK rfl) h
    case iload n =>
      rcases mm_exp_ld hexp with rfl | ⟨k, hk, rfl⟩
      · exact mm_s_ldi C (Or.inl ⟨hdec, rfl⟩) (hK rfl) h
      · exact mm_s_ldi C (Or.inr ⟨k, hk, hdec, rfl⟩) (hK rfl) h
    case imul =>
      have := mm_exp1 hexp rfl; subst this
      exact mm_s_2i (fun a b H locs ls rest ha hb hP => ⟨hP, fun k => by rw [Int32.ofInt_mul] at k; exact lv_imul C.1 C.2.1 hdec k⟩) (hK rfl) h
    case invokestatic n =>
      have := mm_exp1 hexp rfl; subst this
      simp only [mm_side, Bool.and_eq_true, Bool.or_eq_true, decide_eq_true_eq] at hside
      obtain ⟨h1, h2⟩ := hside
      split at h2
      · rename_i rc hrc
        simp only [Bool.and_eq_true, decide_eq_true_eq] at h2
        obtain ⟨⟨⟨g1, g2⟩, g3⟩, g4⟩ := h2
        rcases h1 with h1 | h1
        · exact mm_s_calls C hT hrc g1 (by omega) g3 g4 (mm_sites_ok _ (by simpa using h1)) hdec (hK rfl) h
        · exact mm_s_calls C hT hrc g1 (by omega) g3 g4 (mm_sites_ok _ (by simpa using h1)) hdec (hK rfl) h
      · cases h2
    case invokevirtual n =>
      have := mm_exp1 hexp rfl; subst this
      simp only [mm_side, Bool.and_eq_true, decide_eq_true_eq] at hside
      obtain ⟨⟨h1, h0⟩, h2⟩ := hside
      split at h2
      · rename_i rc hrc
        simp only [Bool.and_eq_true, decide_eq_true_eq, Bool.not_eq_true'] at h2
        obtain ⟨⟨⟨⟨g1, g2⟩, g3⟩, g4⟩, g5⟩ := h2
        exact mm_s_callv C hT h0 hrc g1 (by omega) g3 g4 g5 (mm_sites_ok _ (by simpa using h1)) hdec (hK rfl) h
      · cases h2
    case irem =>
      have := mm_exp1 hexp rfl; subst this
      exact mm_s_2i (fun a b H locs ls rest ha hb hP => ⟨mm_remR ha hb hP, fun k => by rw [← mm_rem ha hb hP] at k; exact lv_irem C.1 C.2.1 hdec (mm_ne0 hb hP) k⟩) (hK rfl) h
    case ireturn =>
      have := mm_exp1 hexp rfl; subst this
      have hr9 : ret = some .int := by simpa [mm_side] using hside
      intro H locs ls hL hS hM hP hSt
      rcases S with _ | ⟨v | v | v, _ | ⟨w, S⟩⟩ <;> first | exact h.elim | skip
      subst hQs
      exact W.iret C.1 C.2.1 (C.2.2.2.1.trans hr9) (hret (some (vi v)) (fun w hw => by cases hw; exact (List.forall_mem_cons.mp hS).1) h H locs hM hP hSt) hSt.2.2 hdec
    case ishr =>
      have := mm_exp1 hexp rfl; subst this
      exact mm_s_2i (fun a b H locs ls rest ha hb hP => ⟨mm_Rof _, fun k => by rw [mm_of] at k; exact lv_ishr C.1 C.2.1 hdec k⟩) (hK rfl) h
    case istore n =>
      have hn : n < maxL := by simpa [mm_side] using hside
      rcases mm_exp_ld hexp with rfl | ⟨k, hk, rfl⟩
      · exact mm_s_sti C hn (Or.inl ⟨hdec, rfl⟩) (hK rfl) h
      · exact mm_s_sti C hn (Or.inr ⟨k, hk, hdec, rfl⟩) (hK rfl) h
    case isub =>
      have := mm_exp1 hexp rfl; subst this
      exact mm_s_2i (fun a b H locs ls rest ha hb hP => ⟨hP, fun k => by rw [Int32.ofInt_sub] at k; exact lv_isub C.1 C.2.1 hdec k⟩) (hK rfl) h
    case fdiv =>
      have := mm_exp1 hexp rfl; subst this
      exact mm_s_2i (fun a b H locs ls rest ha hb hP => ⟨mm_Rof _, fun k => by rw [mm_of] at k; exact lv_imul C.1 C.2.1 hdec k⟩) (hK rfl) h
    case frem =>
      have := mm_exp1 hexp rfl; subst this
      exact mm_s_2i (fun a b H locs ls rest ha hb hP => ⟨mm_Rof _, fun k => by rw [mm_of] at k; exact lv_iadd C.1 C.2.1 hdec k⟩) (hK rfl) h
    case fneg =>
      have := mm_exp1 hexp rfl; subst this
      exact mm_s_2i (fun a b H locs ls rest ha hb hP => ⟨mm_Rof _, fun k => by rw [mm_of] at k; exact lv_isub C.1 C.2.1 hdec k⟩) (hK rfl) h
    case ixor =>
      have := mm_exp1 hexp rfl; subst this
      exact mm_s_2i (fun a b H locs ls rest ha hb hP => ⟨mm_Rof _, fun k => by rw [mm_of] at k; exact lv_ixor C.1 C.2.1 hdec k⟩) (hK rfl) h
    case l2i =>
      have := mm_exp1 hexp rfl; subst this
      intro H locs ls hL hS hM hP hSt
      rcases S with _ | ⟨v | v | v, S⟩ <;> first | exact h.elim | skip
      exact lv_l2i C.1 C.2.1 hdec (mm_l2iE h.1) (hK rfl _ _ _ h.2 H locs ls hL (List.forall_mem_cons.mpr ⟨h.1, (List.forall_mem_cons.mp hS).2⟩) hM hP hSt)
    case ladd =>
      have := mm_exp1 hexp rfl; subst this
      exact mm_s_2l (fun a b H locs ls rest ha hb hP => ⟨hP, fun k => by rw [Int64.ofInt_add] at k; exact lv_ladd C.1 C.2.1 hdec k⟩) (hK rfl) h
    case lcmp =>
      have := mm_exp1 hexp rfl; subst this
      intro H locs ls hL hS hM hP hSt
      rcases S with _ | ⟨b | b | b, _ | ⟨a | a | a, S⟩⟩ <;> first | exact h.elim | skip
      have hb : mm_R64 b := (List.forall_mem_cons.mp hS).1
      have ha : mm_R64 a := (List.forall_mem_cons.mp (List.forall_mem_cons.mp hS).2).1
      have k := hK rfl _ _ _ h H locs ls hL (List.forall_mem_cons.mpr ⟨mm_lcR a b, (List.forall_mem_cons.mp (List.forall_mem_cons.mp hS).2).2⟩) hM hP hSt
      have k' : W p l e R s m args below meth c H locs 0 0 Qs (F0 m (pc + 1) ls (.int (lg_cmp (Int64.ofInt a) (Int64.ofInt b)) :: S.map (mm_val ad))) := by rw [mm_lcE ha hb]; exact k
      exact W.lcmp C.1 C.2.1 hdec k'
    case ldc j =>
      have := mm_exp1 hexp rfl; subst this
      simp only [mm_side, Bool.and_eq_true, decide_eq_true_eq] at hside
      obtain ⟨hj, hoc⟩ := hside
      subst hoc
      have hsi : mm_sidx[j]? = some (mm_sidx.getD j (0, "")) := by
        rw [List.getD_eq_getElem?_getD, List.getElem?_eq_getElem (show j < mm_sidx.length from hj)]
        rfl
      have hZ := C.2.2.2.2.2.2.2.1.2.2.2.1 j _ hsi
      refine mm_s_const (v := vr (1000 + j)) (nx := pc + 2) trivial (fun H locs ls rest k => ?_) (hK rfl) h
      exact va_ldcS C.1 C.2.1 C.2.2.2.2.2.1 hZ hdec k
    case ldiv =>
      have := mm_exp1 hexp rfl; subst this
      exact mm_s_2l (fun a b H locs ls rest ha hb hP => ⟨mm_ldivR ha hP, fun k => by rw [← mm_ldiv ha hb hP] at k; exact lv_ldiv C.1 C.2.1 hdec (mm_lne0 hb hP) k⟩) (hK rfl) h
    case lload n =>
      rcases mm_exp_ld hexp with rfl | ⟨k, hk, rfl⟩
      · exact mm_s_ldl C (Or.inl ⟨hdec, rfl⟩) (hK rfl) h
      · exact mm_s_ldl C (Or.inr ⟨k, hk, hdec, rfl⟩) (hK rfl) h
    case lmul =>
      have := mm_exp1 hexp rfl; subst this
      exact mm_s_2l (fun a b H locs ls rest ha hb hP => ⟨hP, fun k => by rw [Int64.ofInt_mul] at k; exact lv_lmul C.1 C.2.1 hdec k⟩) (hK rfl) h
    case lookupswitch off ps =>
      have := mm_exp1 hexp rfl; subst this
      simp only [mm_side, Bool.and_eq_true, decide_eq_true_eq] at hside
      exact mm_s_sw C hdec hside.1 (fun b L S M h => h) h
    case lreturn =>
      have := mm_exp1 hexp rfl; subst this
      have hr9 : ret = some .long := by simpa [mm_side] using hside
      intro H locs ls hL hS hM hP hSt
      rcases S with _ | ⟨v | v | v, _ | ⟨w, S⟩⟩ <;> first | exact h.elim | skip
      subst hQs
      exact W.lret C.1 C.2.1 (C.2.2.2.1.trans hr9) (hret (some (vl v)) (fun w hw => by cases hw; exact (List.forall_mem_cons.mp hS).1) h H locs hM hP hSt) hSt.2.2 hdec
    case lstore n =>
      have hn : n + 1 < maxL := by simpa [mm_side] using hside
      rcases mm_exp_ld hexp with rfl | ⟨k, hk, rfl⟩
      · exact mm_s_stl C hn (Or.inl ⟨hdec, rfl⟩) (hK rfl) h
      · exact mm_s_stl C hn (Or.inr ⟨k, hk, hdec, rfl⟩) (hK rfl) h
    case lsub =>
      have := mm_exp1 hexp rfl; subst this
      exact mm_s_2l (fun a b H locs ls rest ha hb hP => ⟨hP, fun k => by rw [Int64.ofInt_sub] at k; exact lv_lsub C.1 C.2.1 hdec k⟩) (hK rfl) h
    case nop => exact absurd rfl hnop
    case pop =>
      have := mm_exp1 hexp rfl; subst this
      intro H locs ls hL hS hM hP hSt
      rcases S with _ | ⟨v | v | v, S⟩ <;> first | exact h.elim | skip
      · exact lv_pop C.1 C.2.1 hdec rfl (hK rfl _ _ _ h H locs ls hL (List.forall_mem_cons.mp hS).2 hM hP hSt)
      · exact lv_pop C.1 C.2.1 hdec rfl (hK rfl _ _ _ h H locs ls hL (List.forall_mem_cons.mp hS).2 hM hP hSt)
    case putfield n =>
      have := mm_exp1 hexp rfl; subst this
      simp only [mm_side, Bool.and_eq_true, Bool.or_eq_true, decide_eq_true_eq] at hside
      obtain ⟨⟨⟨h0, h1⟩, h2⟩, h3⟩ := hside
      have h' : mm_puti x (y.toNat : Int) (mm_wp T (mm_W p l e R s m args below meth c Qs D ad G maxL) Q r) L S M := by rw [Int.toNat_of_nonneg h0]; exact h
      rcases h3 with h3 | h3
      · exact mm_s_puti C h1 h2 (mm_flds_ok _ (by simpa using h3)) hdec (hK rfl) h'
      · exact mm_s_puti C h1 h2 (mm_flds_ok _ (by simpa using h3)) hdec (hK rfl) h'
    case return_ =>
      have := mm_exp1 hexp rfl; subst this
      have hr9 : ret = none := by simpa [mm_side] using hside
      intro H locs ls hL hS hM hP hSt
      rcases S with _ | ⟨v, S⟩ <;> first | exact h.elim | skip
      subst hQs
      exact W.vret C.1 C.2.1 (C.2.2.2.1.trans hr9) (hret none (fun w hw => by cases hw) h H locs hM hP hSt) hSt.2.2 hdec
end MMB
theorem mm_lk_in {B : List (Nat × List mmO)} {b : Nat} : mm_lk B b = [] ∨ (b, mm_lk B b) ∈ B := by
  induction B with
  | nil => exact Or.inl rfl
  | cons q r ih =>
    unfold mm_lk
    cases hb : Nat.beq q.1 b with
    | true =>
      have h1 : q.1 = b := Nat.eq_of_beq_eq_true hb
      right
      show (b, q.2) ∈ _
      rw [← h1]; exact List.mem_cons_self
    | false =>
      rcases ih with h | h
      · exact Or.inl h
      · exact Or.inr (List.mem_cons_of_mem _ h)
/-- A METHOD: blocks that are the code's, callees that do what T says, and mm_ok for every start: the method does what t says -/
theorem mm_sound {l : Launch} {D : va_G} {ad : Nat → Nat} {G : ClassId × ClassId × ClassId} {X : State → Prop} (hX : mm_XOk ad X) (hinj : ∀ i j, i < 77 → j < 77 → ad i = ad j → i = j) {x : Nat} {r : mmRec} (hr : mm_rlk mm_recs x = some r) {B : List (Nat × List mmO)} (hc : mm_chkB r B = true) {T : List (Nat × mmT)} (hT : ∀ q ∈ T, mm_snd l D ad G X q.1 q.2) {t : mmT}
    (h : ∀ as M Q, (∀ v ∈ as, mm_vin v) → mm_mem M → t as M Q → (mm_ent as).length ≤ r.2.2.1 ∧ mm_ok B T (mm_entry r.2.2.1 as) M Q) : mm_snd l D ad G X x t := by
  intro r' hr' as M Q has hM ht
  cases hr.symm.trans hr'
  obtain ⟨hlen, hok⟩ := h as M Q has hM ht
  have hrec := mm_recs_ok _ (mm_rlk_mem hr)
  refine Met.ofW (cc := r.2.1) (maxL := r.2.2.1) (ret := r.2.2.2.1) hrec.2.2.2.2.2.1 rfl ?_
  intro p e s m args below meth c s₁ B9 hml hv
  obtain ⟨rfl, hP, hE⟩ := hv
  have hts : ∀ w ∈ mm_rws r, w.before (as.map (mm_val ad)).toArray s = true := atoms_spec (ws := mm_rws r) B9.pre
  have hown : s.vm.findClass r.1.cls = some m.cls := findClass_of_methodNamed B9.named
  have C : mm_Cx p s m (as.map (mm_val ad)).toArray meth c D ad G X r.2.2.2.2.2.2.2.2 r.2.1 r.2.2.1 r.2.2.2.1 := ⟨B9.exec, B9.bytes, hml, B9.returns, B9.notSynchronized, by rw [← hrec.2.2.2.2.2.2]; exact hown, fun w hw => hts w (List.mem_cons_of_mem _ hw), hE, hX, hinj⟩
  rw [lg_entry_eq]
  refine hok (mm_W p l e (headSpec (mm_rws r) (mm_rm r)).room s m (as.map (mm_val ad)).toArray below meth c (MQ below (mm_Qc D ad G Q) (as.map (mm_val ad)).toArray s 0 0 (mm_A ad)) D ad G r.2.2.1) ?_ s.heap [] _ (mm_LR_entry hlen has) (fun v hv => by cases hv) hM hP va_S.rf
  intro b L S M h9
  rcases mm_lk_in (B := B) (b := b) with h1 | h1
  · rw [h1] at h9; exact h9.elim
  · have h2 := List.all_eq_true.mp hc _ h1
    simp only [Bool.and_eq_true, decide_eq_true_eq] at h2
    have h3 := mm_blk (R := (headSpec (mm_rws r) (mm_rm r)).room) C hT (mm_lk B b) h2.2 L S M h9
    rw [h2.1] at h3
    exact h3
