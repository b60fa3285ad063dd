/-! fields, arrays and calls of the small machine -/
theorem mm_len_R (o : Nat) : 0 ≤ mm_len o ∧ mm_len o ≤ 600 := by
  rcases Nat.lt_or_ge o 77 with h | h
  · have : ∀ o : Fin 77, 0 ≤ mm_len o.val ∧ mm_len o.val ≤ 600 := by decide +kernel
    exact this ⟨o, h⟩
  · have : mm_len o = 0 := by unfold mm_len; rw [List.getD_eq_getElem?_getD, List.getElem?_eq_none (by show 77 ≤ o; exact h)]; rfl
    omega
theorem mm_mem_up {M : mmM} {o : Nat} {i x : Int} (h : mm_mem M) (hx : mm_R x) : mm_mem (mm_up M o i x) := by
  intro o' i'
  unfold mm_up
  split
  · exact hx
  · exact h o' i'
theorem mm_mem_cpy {M : mmM} {a b : Nat} {sp dp n : Int} (h : mm_mem M) : mm_mem (mm_cpy M a sp b dp n) := by
  intro o' i'
  unfold mm_cpy
  split
  · exact h _ _
  · exact h o' i'
def mm_clsF (ci : Nat) (C : String) (T : u_T) (N : Nat) : Prop := (∀ w ∈ u_ws C T N, w ∈ mm_words) ∧ ∃ ty : Nat → FieldType, (∀ k, k < N → parseFieldDescriptor (T k).2.2.1 = some (ty k)) ∧ (∀ a, a < N → ∀ b, b < N → a ≠ b → (T a).2.1 ≠ (T b).2.1) ∧ ∀ k, k < N → (mm_ft ci)[k]? = some none → ty k = .int ∧ (T k).2.2.2 = false
theorem mm_clsOk {ci : Nat} {C : String} {T : u_T} {N : Nat} (h : vwCl[ci]? = some (C, T, N)) : mm_clsF ci C T N := by
  match ci, h with
  | 0, h => cases h; exact ⟨mc_0, tyX0, tyX0_ok, nmX0, by decide +kernel⟩
  | 1, h => cases h; exact ⟨mc_1, tyX1, tyX1_ok, nmX1, by decide +kernel⟩
  | 2, h => cases h; exact ⟨mc_2, tyX2, tyX2_ok, nmX2, by decide +kernel⟩
  | 3, h => cases h; exact ⟨mc_3, tyX3, tyX3_ok, nmX3, by decide +kernel⟩
  | 4, h => cases h; exact ⟨mc_4, tyX4, tyX4_ok, nmX4, by decide +kernel⟩
  | 5, h => cases h; exact ⟨mc_5, tyX5, tyX5_ok, nmX5, by decide +kernel⟩
  | 6, h => cases h; exact ⟨mc_6, tyX6, tyX6_ok, nmX6, by decide +kernel⟩
  | 7, h => cases h; exact ⟨mc_7, tyX7, tyX7_ok, nmX7, by decide +kernel⟩
  | 8, h => cases h; exact ⟨mc_8, tyX8, tyX8_ok, nmX8, by decide +kernel⟩
  | 9, h => cases h; exact ⟨mc_9, tyX9, tyX9_ok, nmX9, by decide +kernel⟩
  | 10, h => cases h; exact ⟨mc_10, tyX10, tyX10_ok, nmX10, by decide +kernel⟩
  | 11, h => cases h; exact ⟨mc_11, tyX11, tyX11_ok, nmX11, by decide +kernel⟩
  | k + 12, h => simp at h
theorem mm_catsE (ad : Nat → Nat) : ∀ S : mmS, ((S.map (mm_val ad)).map fun v => v.category).sum = mm_cats S
  | [] => rfl
  | v :: S => by
    simp only [List.map_cons, List.sum_cons, mm_catsE ad S, mm_val_cat]
    rfl
section MMM
variable {p : Program} {l : Launch} {e : Env} {R : Room} {s : State} {m : MethodId} {args : Array Value} {below : List Frame} {meth : Method} {c : Code} {Qs : State → Prop} {D : va_G} {ad : Nat → Nat} {G : ClassId × ClassId × ClassId} {X : State → Prop} {oc : Nat} {cc : ByteArray} {maxL : Nat} {ret : Option FieldType} {pc nx : Nat} {K : mmK} {L : mmL} {S : mmS} {M : mmM}
theorem mm_obj {o : Nat} (h : mm_cls o < 12) : (mm_ws ad G M)[o]? = some (ad o, .inr (mm_cls o, mm_fl ad M o)) := by
  rw [mm_ws_get (mm_lt77 (by omega)), mm_cell_o (by omega)]
theorem mm_s_get (C : mm_Cx p s m args meth c D ad G X oc cc maxL ret) {o k idx : Nat} {nest : Bool} {v : Value} {H : Heap} {locs : List Loc} {ls : Array Slot} {rest : List Value} (hci : mm_cls o < 12) (hfl : mm_fact (oc, idx, mm_cls o, k, nest)) (hv : (mm_fl ad M o)[k]? = some v) (hP : va_P D vwCl (mm_ws ad G M) H) (hd : decode cc pc = .ok (.getfield idx, 3)) (kk : W p l e R s m args below meth c H locs 0 0 Qs (F0 m (pc + 3) ls (v :: rest))) : W p l e R s m args below meth c H locs 0 0 Qs (F0 m pc ls (.ref (ad o) :: rest)) := by
  obtain ⟨Cn, T, N, hc, hkN, hT1, hl0, hl1⟩ := hfl
  obtain ⟨hin, ty, hty, hnm, hint⟩ := mm_clsOk hc
  have hE := C.2.2.2.2.2.2.2.1
  cases nest with
  | false => exact va_get C.1 C.2.1 C.2.2.2.2.2.2.1 hin C.2.2.2.2.2.1 hE.1 hP o (mm_obj hci) hc k hkN (C.2.2.2.2.2.2.1 _ (hl0 rfl)) (fun x hx => by rw [hT1] at hx; exact hx) hv hd kk
  | true => exact va_getN C.1 C.2.1 C.2.2.2.2.2.2.1 hin C.2.2.2.2.2.1 hE.1 hP o (mm_obj hci) hc k hkN (va_Nw.use rfl (hE.2.1 _ (hl1 rfl))) (fun x hx => by rw [hT1] at hx; exact hx) hv hd kk
theorem mm_s_geti (C : mm_Cx p s m args meth c D ad G X oc cc maxL ret) {ci k idx : Nat} {nest : Bool} (hci : ci < 12) (hft : (mm_ft ci)[k]? = some none) (hfl : mm_fact (oc, idx, ci, k, nest)) (hd : decode cc pc = .ok (.getfield idx, 3)) (hK : ∀ L S M, K L S M → mm_W p l e R s m args below meth c Qs D ad G maxL (pc + 3) L S M) (h : mm_geti ci k K L S M) : mm_W p l e R s m args below meth c Qs D ad G maxL pc L S M := by
  intro H locs ls hL hS hM hP hSt
  rcases S with _ | ⟨o | o | o, S⟩ <;> first | exact h.elim | skip
  obtain ⟨rfl, hk⟩ := h
  exact mm_s_get C hci hfl (mm_fl_get hft) hP hd (hK _ _ _ hk H locs ls hL (List.forall_mem_cons.mpr ⟨hM o k, (List.forall_mem_cons.mp hS).2⟩) hM hP hSt)
theorem mm_s_geta (C : mm_Cx p s m args meth c D ad G X oc cc maxL ret) {ci k idx d : Nat} {nest : Bool} (hci : ci < 12) (hft : (mm_ft ci)[k]? = some (some d)) (hfl : mm_fact (oc, idx, ci, k, nest)) (hd : decode cc pc = .ok (.getfield idx, 3)) (hK : ∀ L S M, K L S M → mm_W p l e R s m args below meth c Qs D ad G maxL (pc + 3) L S M) (h : mm_geta ci d K L S M) : mm_W p l e R s m args below meth c Qs D ad G maxL pc L S M := by
  intro H locs ls hL hS hM hP hSt
  rcases S with _ | ⟨o | o | o, S⟩ <;> first | exact h.elim | skip
  obtain ⟨rfl, hk⟩ := h
  exact mm_s_get C hci hfl (mm_fl_get hft) hP hd (hK _ _ _ hk H locs ls hL (List.forall_mem_cons.mpr ⟨trivial, (List.forall_mem_cons.mp hS).2⟩) hM hP hSt)
theorem mm_s_puti (C : mm_Cx p s m args meth c D ad G X oc cc maxL ret) {ci k idx : Nat} {nest : Bool} (hci : ci < 12) (hft : (mm_ft ci)[k]? = some none) (hfl : mm_fact (oc, idx, ci, k, nest)) (hd : decode cc pc = .ok (.putfield idx, 3)) (hK : ∀ L S M, K L S M → mm_W p l e R s m args below meth c Qs D ad G maxL (pc + 3) L S M) (h : mm_puti ci k K L S M) : mm_W p l e R s m args below meth c Qs D ad G maxL pc L S M := by
  intro H locs ls hL hS hM hP hSt
  rcases S with _ | ⟨x | x | x, _ | ⟨o | o | o, S⟩⟩ <;> first | exact h.elim | skip
  obtain ⟨rfl, hk⟩ := h
  obtain ⟨hx, hS⟩ := List.forall_mem_cons.mp hS
  obtain ⟨-, hS⟩ := List.forall_mem_cons.mp hS
  obtain ⟨Cn, T, N, hc, hkN, hT1, hl0, hl1⟩ := hfl
  obtain ⟨hin, ty, hty, hnm, hint⟩ := mm_clsOk hc
  obtain ⟨hti, hfin⟩ := hint k hkN hft
  have hE := C.2.2.2.2.2.2.2.1
  have hD : va_D (mm_A ad) (mm_ws ad G M) := mm_D C.2.2.2.2.2.2.2.2.2
  have kk : ∀ (H1 : Heap) (locs1 : List Loc), va_P D vwCl ((mm_ws ad G M).set o (ad o, .inr (mm_cls o, (mm_fl ad M o).set k (.int (Int32.ofInt x))))) H1 → va_D (mm_A ad) ((mm_ws ad G M).set o (ad o, .inr (mm_cls o, (mm_fl ad M o).set k (.int (Int32.ofInt x))))) → va_S (mm_A ad) s.heap H1 locs1 → W p l e R s m args below meth c H1 locs1 0 0 Qs (F0 m (pc + 3) ls (S.map (mm_val ad))) := by
    intro H1 locs1 hP1 _ hS1
    rw [mm_ws_set (M' := mm_up M o k x) mm_up_ne (by rw [mm_cell_o (by omega), mm_fl_set hft])] at hP1
    exact hK _ _ _ hk H1 locs1 ls hL hS (mm_mem_up hM hx) hP1 hS1
  have hl : k < (mm_fl ad M o).length := (List.getElem?_eq_some_iff.mp (mm_fl_get (ad := ad) (M := M) hft)).1
  cases nest with
  | false => exact va_put (ty := .int) C.1 C.2.1 C.2.2.2.2.2.2.1 hin ty hty hnm C.2.2.2.2.2.1 hE.1 hP hD hSt o (mm_obj hci) hc k hkN (C.2.2.2.2.2.2.1 _ (hl0 rfl)) (fun z hz => by rw [hT1] at hz; exact hz) hfin (by rw [← hti]; exact hty k hkN) rfl rfl hl hd kk
  | true => exact va_putN (ty := .int) C.1 C.2.1 C.2.2.2.2.2.2.1 hin ty hty hnm C.2.2.2.2.2.1 hE.1 hP hD hSt o (mm_obj hci) hc k hkN (va_Nw.use rfl (hE.2.1 _ (hl1 rfl))) (fun z hz => by rw [hT1] at hz; exact hz) hfin (by rw [← hti]; exact hty k hkN) rfl rfl hl hd kk
theorem mm_s_iald (C : mm_Cx p s m args meth c D ad G X oc cc maxL ret) (hd : decode cc pc = .ok (.iaload, 1)) (hK : ∀ L S M, K L S M → mm_W p l e R s m args below meth c Qs D ad G maxL (pc + 1) L S M) (h : mm_iald K L S M) : mm_W p l e R s m args below meth c Qs D ad G maxL pc L S M := by
  intro H locs ls hL hS hM hP hSt
  rcases S with _ | ⟨i | i | i, _ | ⟨a | a | a, S⟩⟩ <;> first | exact h.elim | skip
  obtain ⟨hc, ⟨h0, h1⟩, hk⟩ := h
  obtain ⟨hi, hS⟩ := List.forall_mem_cons.mp hS
  obtain ⟨-, hS⟩ := List.forall_mem_cons.mp hS
  refine va_iald C.1 C.2.1 C.2.2.2.2.2.2.2.1.1 hP a 0 (by rw [mm_ws_get (mm_lt77 (by omega)), mm_cell_i hc]) rfl (mm_vpin hi h0 h1) hd ?_
  rw [mm_clamp hi h0, Int.toNat_of_nonneg h0]
  exact hK _ _ _ hk H locs ls hL (List.forall_mem_cons.mpr ⟨hM a i, hS⟩) hM hP hSt
theorem mm_s_bald (C : mm_Cx p s m args meth c D ad G X oc cc maxL ret) (hd : decode cc pc = .ok (.baload, 1)) (hK : ∀ L S M, K L S M → mm_W p l e R s m args below meth c Qs D ad G maxL (pc + 1) L S M) (h : mm_bald K L S M) : mm_W p l e R s m args below meth c Qs D ad G maxL pc L S M := by
  intro H locs ls hL hS hM hP hSt
  rcases S with _ | ⟨i | i | i, _ | ⟨a | a | a, S⟩⟩ <;> first | exact h.elim | skip
  obtain ⟨hc, ⟨h0, h1⟩, hk⟩ := h
  obtain ⟨hi, hS⟩ := List.forall_mem_cons.mp hS
  obtain ⟨-, hS⟩ := List.forall_mem_cons.mp hS
  refine va_bald C.1 C.2.1 C.2.2.2.2.2.2.2.1.1 hP a 1 (by rw [mm_ws_get (mm_lt77 (by omega)), mm_cell_b hc]) rfl (mm_vpin hi h0 h1) hd ?_
  rw [mm_clamp hi h0, Int.toNat_of_nonneg h0]
  exact hK _ _ _ hk H locs ls hL (List.forall_mem_cons.mpr ⟨hM a i, hS⟩) hM hP hSt
theorem mm_s_aald (C : mm_Cx p s m args meth c D ad G X oc cc maxL ret) (hd : decode cc pc = .ok (.aaload, 1)) (hK : ∀ L S M, K L S M → mm_W p l e R s m args below meth c Qs D ad G maxL (pc + 1) L S M) (h : mm_aald K L S M) : mm_W p l e R s m args below meth c Qs D ad G maxL pc L S M := by
  intro H locs ls hL hS hM hP hSt
  rcases S with _ | ⟨i | i | i, _ | ⟨a | a | a, S⟩⟩ <;> first | exact h.elim | skip
  obtain ⟨hc, ⟨h0, h1⟩, hk⟩ := h
  obtain ⟨hi, hS⟩ := List.forall_mem_cons.mp hS
  obtain ⟨-, hS⟩ := List.forall_mem_cons.mp hS
  have hcell := hP a _ (by rw [mm_ws_get (mm_lt77 (by omega)), mm_cell_a hc])
  have hin := mm_vpin hi h0 h1
  have hlt : (Int32.ofInt i).toNatClampNeg < (mm_len a).toNat := Nat.not_le.mp fun q => hin (Or.inr q)
  refine W.aald (v := .ref (ad (a + 1 + i.toNat))) (ty := .array .int) C.1 C.2.1 hcell ((C.2.2.2.2.2.2.2.1.1.2 2 _ rfl).1 (mm_len a).toNat (fun j => va_rf (some (ad (a + 1 + j))))) rfl (fun q => by cases q) (by show ¬ (_ ∨ (arrV _ _ _).slots.size ≤ _); rw [arrV_size]; exact hin) (by show (arrV _ _ _).slots[_]? = _; rw [arrV_read _ _ hlt, mm_clamp hi h0]; rfl) rfl rfl hd ?_
  exact hK _ _ _ hk H locs ls hL (List.forall_mem_cons.mpr ⟨trivial, hS⟩) hM hP hSt
theorem mm_s_iast (C : mm_Cx p s m args meth c D ad G X oc cc maxL ret) (hd : decode cc pc = .ok (.iastore, 1)) (hK : ∀ L S M, K L S M → mm_W p l e R s m args below meth c Qs D ad G maxL (pc + 1) L S M) (h : mm_iast K L S M) : mm_W p l e R s m args below meth c Qs D ad G maxL pc L S M := by
  intro H locs ls hL hS hM hP hSt
  rcases S with _ | ⟨x | x | x, _ | ⟨i | i | i, _ | ⟨a | a | a, S⟩⟩⟩ <;> first | exact h.elim | skip
  obtain ⟨hc, ⟨h0, h1⟩, hk⟩ := h
  obtain ⟨hx, hS⟩ := List.forall_mem_cons.mp hS
  obtain ⟨hi, hS⟩ := List.forall_mem_cons.mp hS
  obtain ⟨-, hS⟩ := List.forall_mem_cons.mp hS
  refine va_iast C.1 C.2.1 C.2.2.2.2.2.2.2.1.1 hP (mm_D C.2.2.2.2.2.2.2.2.2) hSt a 0 (by rw [mm_ws_get (mm_lt77 (by omega)), mm_cell_i hc]) rfl (mm_vpin hi h0 h1) hd (fun H1 locs1 hP1 _ hS1 => ?_)
  rw [mm_clamp hi h0, mm_ws_set (M' := mm_up M a i x) mm_up_ne (by rw [mm_cell_i hc, mm_up_fn h0])] at hP1
  exact hK _ _ _ hk H1 locs1 ls hL hS (mm_mem_up hM hx) hP1 hS1
theorem mm_i2bR (x : Int) : mm_R (mm_i2b x) := mm_Rof _
theorem mm_s_bast (C : mm_Cx p s m args meth c D ad G X oc cc maxL ret) (hd : decode cc pc = .ok (.bastore, 1)) (hK : ∀ L S M, K L S M → mm_W p l e R s m args below meth c Qs D ad G maxL (pc + 1) L S M) (h : mm_bast K L S M) : mm_W p l e R s m args below meth c Qs D ad G maxL pc L S M := by
  intro H locs ls hL hS hM hP hSt
  rcases S with _ | ⟨x | x | x, _ | ⟨i | i | i, _ | ⟨a | a | a, S⟩⟩⟩ <;> first | exact h.elim | skip
  obtain ⟨hc, ⟨h0, h1⟩, hk⟩ := h
  obtain ⟨hx, hS⟩ := List.forall_mem_cons.mp hS
  obtain ⟨hi, hS⟩ := List.forall_mem_cons.mp hS
  obtain ⟨-, hS⟩ := List.forall_mem_cons.mp hS
  refine va_bast C.1 C.2.1 C.2.2.2.2.2.2.2.1.1 hP (mm_D C.2.2.2.2.2.2.2.2.2) hSt a 1 (by rw [mm_ws_get (mm_lt77 (by omega)), mm_cell_b hc]) rfl (mm_vpin hi h0 h1) hd (fun H1 locs1 hP1 _ hS1 => ?_)
  rw [mm_clamp hi h0, mm_ws_set (M' := mm_up M a i (mm_i2b x)) mm_up_ne (by rw [mm_cell_b hc, mm_up_fn h0, vp_nar_byte, mm_i2b, mm_of])] at hP1
  exact hK _ _ _ hk H1 locs1 ls hL hS (mm_mem_up hM (mm_i2bR x)) hP1 hS1
theorem mm_s_alen (C : mm_Cx p s m args meth c D ad G X oc cc maxL ret) (hd : decode cc pc = .ok (.arraylength, 1)) (hK : ∀ L S M, K L S M → mm_W p l e R s m args below meth c Qs D ad G maxL (pc + 1) L S M) (h : mm_alen K L S M) : mm_W p l e R s m args below meth c Qs D ad G maxL pc L S M := by
  intro H locs ls hL hS hM hP hSt
  rcases S with _ | ⟨a | a | a, S⟩ <;> first | exact h.elim | skip
  obtain ⟨hc, hk⟩ := h
  obtain ⟨-, hS⟩ := List.forall_mem_cons.mp hS
  have hl := mm_len_R a
  have hv : Int32.ofNat (mm_len a).toNat = Int32.ofInt (mm_len a) := by
    apply Int32.toInt_inj.mp
    rw [mm_ti ⟨by omega, by omega⟩]
    show (nI (mm_len a).toNat).toInt = _
    rw [nI_toInt (by omega)]
    omega
  have kk := hK _ _ _ hk H locs ls hL (List.forall_mem_cons.mpr ⟨show mm_R (mm_len a) from ⟨by omega, by omega⟩, hS⟩) hM hP hSt
  rcases hc with hc | hc
  · exact va_alen C.1 C.2.1 C.2.2.2.2.2.2.2.1.1 hP a 0 (by rw [mm_ws_get (mm_lt77 (by omega)), mm_cell_i hc]) (ty := .int) rfl hv hd kk
  · exact va_alen C.1 C.2.1 C.2.2.2.2.2.2.2.1.1 hP a 1 (by rw [mm_ws_get (mm_lt77 (by omega)), mm_cell_b hc]) (ty := .byte) rfl hv hd kk
theorem mm_nn {x : Int} (h : mm_R x) (h0 : 0 ≤ x) : ¬ Int32.ofInt x < 0 := fun q => by
  have h9 : mm_R 0 := ⟨by decide, by decide⟩
  have := (mm_lt h h9).mp q
  omega
theorem mm_s_acpy (C : mm_Cx p s m args meth c D ad G X oc cc maxL ret) {idx : Nat} (hfr : 1 ≤ R.frames) (hlo : 26 ≤ R.locals) (hl : Cond.methodLink (mm_own oc) idx arraycopyName ∈ mm_words) (hd : decode cc pc = .ok (.invokestatic idx, 3)) (hK : ∀ L S M, K L S M → mm_W p l e R s m args below meth c Qs D ad G maxL (pc + 3) L S M) (h : mm_acpy K L S M) : mm_W p l e R s m args below meth c Qs D ad G maxL pc L S M := by
  intro H locs ls hL hS hM hP hSt
  rcases S with _ | ⟨n | n | n, _ | ⟨dp | dp | dp, _ | ⟨b | b | b, _ | ⟨sp | sp | sp, _ | ⟨a | a | a, S⟩⟩⟩⟩⟩ <;> first | exact h.elim | skip
  obtain ⟨⟨ha, hb, hab, hn0, hs0, hs1, hd0, hd1, hcat⟩, hk⟩ := h
  obtain ⟨hn, hS⟩ := List.forall_mem_cons.mp hS
  obtain ⟨hdp, hS⟩ := List.forall_mem_cons.mp hS
  obtain ⟨-, hS⟩ := List.forall_mem_cons.mp hS
  obtain ⟨hsp, hS⟩ := List.forall_mem_cons.mp hS
  obtain ⟨-, hS⟩ := List.forall_mem_cons.mp hS
  have hw := C.2.2.2.2.2.2.1
  refine va_copyi (ty := .int) C.1 C.2.1 (C.2.2.1.trans hL.1.1.symm) C.2.2.2.2.2.1 (hw _ hl) (hw _ mm_cpyN) (hw _ mm_cpyS) (hw _ mm_cpyI) C.2.2.2.2.2.2.2.1.1 hP (mm_D C.2.2.2.2.2.2.2.2.2) hSt a b 0 0 (by rw [mm_ws_get (mm_lt77 (by omega)), mm_cell_i ha]) (by rw [mm_ws_get (mm_lt77 (by omega)), mm_cell_i hb]) rfl rfl rfl (mm_nn hsp hs0) (mm_nn hdp hd0) (mm_nn hn hn0) (by rw [mm_clamp hsp hs0, mm_clamp hn hn0]; omega) (by rw [mm_clamp hdp hd0, mm_clamp hn hn0]; omega) (fun _ _ => rfl) hfr ?_ hd (fun H1 locs1 hP1 _ hS1 => ?_)
  · rw [mm_catsE]
    show _ + (nativeFrameWords "java/lang/System" "arraycopy" 5 + 11) ≤ _
    have : nativeFrameWords "java/lang/System" "arraycopy" 5 = 7 := by decide +kernel
    omega
  · rw [mm_clamp hsp hs0, mm_clamp hdp hd0, mm_clamp hn hn0, mm_ws_set (M' := mm_cpy M a sp b dp n) (fun o' ho i => if_neg (fun q => ho q.1)) (by
      rw [mm_cell_i hb]
      congr 4
      funext j
      unfold va_cpy mm_cpy
      by_cases hj : dp.toNat ≤ j ∧ j < dp.toNat + n.toNat
      · rw [if_pos ⟨rfl, by omega, by omega⟩, if_pos hj]
        congr 2
        omega
      · rw [if_neg (by omega), if_neg hj])] at hP1
    exact hK _ _ _ hk H1 locs1 ls hL hS (mm_mem_cpy hM) hP1 hS1
end MMM
