/-! calls of the small machine, and a method's soundness -/
theorem mm_pop_use {K : List mmV → mmS → Prop} : ∀ (n : Nat) (acc : List mmV) (S : mmS), mm_pop K n acc S → ∃ (vs : List mmV) (rest : mmS), vs.length = n ∧ S = vs ++ rest ∧ K (vs.reverse ++ acc) rest
  | 0, acc, S, h => ⟨[], S, rfl, rfl, h⟩
  | n + 1, acc, [], h => h.elim
  | n + 1, acc, v :: S, h => by
    obtain ⟨vs, rest, h1, h2, h3⟩ := mm_pop_use n (v :: acc) S h
    exact ⟨v :: vs, rest, by simp [h1], by simp [h2], by simpa using h3⟩
theorem mm_find_use {T : List (Nat × mmT)} {x : Nat} {as : List mmV} {M : mmM} {Q : mmP} : mm_find T x as M Q → ∃ t, (x, t) ∈ T ∧ t as M Q := by
  induction T with
  | nil => intro h; exact h.elim
  | cons q r ih =>
    intro h
    unfold mm_find at h
    split at h
    · rename_i h1
      exact ⟨q.2, by rw [← h1]; exact List.mem_cons_self, h⟩
    · obtain ⟨t, h1, h2⟩ := ih h
      exact ⟨t, List.mem_cons_of_mem _ h1, h2⟩
theorem mm_good {w : Cond} (h : w ∈ mm_words) : w ∈ mm_words ∧ ((w.onTables && w.keeps) = true ∨ ∃ ty, w = .arrayClass ty) := ⟨h, good_of_word (List.mem_filter.mp h).2⟩
theorem mm_goodR {r : mmRec} (h : mm_recOk r) : GoodIn mm_words (mm_rws r) := fun w hw => by
  rcases List.mem_cons.mp hw with rfl | h1
  · exact mm_good h.1
  · exact mm_good h1
theorem mm_rlk_mem {r : mmRec} {x : Nat} : ∀ {l : List (Nat × mmRec)}, mm_rlk l x = some r → (x, r) ∈ l
  | [], h => by cases h
  | q :: t, h => by
    unfold mm_rlk at h
    cases hb : Nat.beq q.1 x with
    | true =>
      rw [hb] at h
      have h1 : q.1 = x := Nat.eq_of_beq_eq_true hb
      have h2 : q.2 = r := Option.some.inj h
      rw [← h1, ← h2]; exact List.mem_cons_self
    | false => rw [hb] at h; exact List.mem_cons_of_mem _ (mm_rlk_mem h)
section MMC
variable {p : Program} {l : Launch} {e : Env} {R : Room} {s : State} {m : MethodId} {args : Array Value} {below : List Frame} {meth : Method} {c : Code} {Qs : State → Prop} {D : va_G} {ad : Nat → Nat} {G : ClassId × ClassId × ClassId} {X : State → Prop} {oc : Nat} {cc : ByteArray} {maxL : Nat} {ret : Option FieldType} {pc nx : Nat} {K : mmK} {L : mmL} {S : mmS} {M : mmM}
theorem mm_run {H : Heap} {locs : List Loc} {ls : Array Slot} {st0 rest : List Value} {a : Array Value} {Q : mmP} (hr : va_Run p l e R s m args below meth c H locs 0 0 0 0 (F0 m pc ls st0) rest (mm_Qc D ad G Q a) (mm_A ad)) (hS : va_S (mm_A ad) s.heap H locs)
    (kk : ∀ (r : Option mmV) (M : mmM) (H1 : Heap) (locs1 : List Loc), Q r M → (∀ v, r = some v → mm_vin v) → mm_mem M → va_P D vwCl (mm_ws ad G M) H1 → va_S (mm_A ad) s.heap H1 locs1 → W p l e R s m args below meth c H1 locs1 0 0 Qs (F0 m (pc + 3) ls ((r.map (mm_val ad)).toList ++ rest))) : W p l e R s m args below meth c H locs 0 0 Qs (F0 m pc ls st0) := by
  intro T hT X
  obtain ⟨v, st₀, t, T', L, h0, X', hL, e1, e2, ⟨⟨r, M', hv, hq, hvr, hm, hp⟩, hz, hk⟩, st⟩ := hr T hT X
  cases hv
  rw [h0] at hz hk
  obtain ⟨t2, a1, b1⟩ := kk r M' T'.heap (locs ++ L) hq hvr hm (by rw [e1]; exact hp)
    ⟨Nat.le_trans hS.1 (by rw [e1]; exact hz), fun q h1 h2 => by rw [e1, hk q (Nat.lt_of_lt_of_le h1 hS.1) h2]; exact hS.2.1 q h1 h2, fun q hq => by
      rcases List.mem_append.mp hq with h | h
      · exact hS.2.2 q h
      · exact hL q h⟩ T' rfl X'
  exact ⟨t2, st t2 a1, b1⟩
theorem mm_blind {as : List mmV} (hX : mm_XOk ad X) : FrameBlind (mm_Pc D ad G X as M) := fun a U g mk q => by
  obtain ⟨h1, h2, h3⟩ := q
  exact ⟨h1, h2, h3.calling hX g mk a⟩
theorem mm_push_val (ad : Nat → Nat) (r : Option mmV) (S : mmS) : (mm_push r S).map (mm_val ad) = (r.map (mm_val ad)).toList ++ S.map (mm_val ad) := by
  cases r <;> rfl
theorem mm_push_vin {r : Option mmV} {S : mmS} (h : ∀ v, r = some v → mm_vin v) (hS : ∀ v ∈ S, mm_vin v) : ∀ v ∈ mm_push r S, mm_vin v := by
  cases r with
  | none => exact hS
  | some v => exact List.forall_mem_cons.mpr ⟨h v rfl, hS⟩
/-- what a call's side check gives -/
theorem mm_s_calls (C : mm_Cx p s m args meth c D ad G X oc cc maxL ret) {T : List (Nat × mmT)} (hT : ∀ q ∈ T, mm_snd l D ad G X q.1 q.2) {idx x n : Nat} {nest : Bool} {r : mmRec} (hr : mm_rlk mm_recs x = some r) (hst : r.2.2.2.2.1 = true) (hn : n = r.2.2.2.2.2.1) (hfr : r.2.2.2.2.2.2.1 + 1 ≤ R.frames) (hlo : 8 + (r.2.2.1 + 11) + r.2.2.2.2.2.2.2.1 ≤ R.locals) (hsi : mm_site (oc, idx, x, nest)) (hd : decode cc pc = .ok (.invokestatic idx, 3)) (hK : ∀ L S M, K L S M → mm_W p l e R s m args below meth c Qs D ad G maxL (pc + 3) L S M) (h : mm_call T x n K L S M) : mm_W p l e R s m args below meth c Qs D ad G maxL pc L S M := by
  intro H locs ls hL hS hM hP hSt
  obtain ⟨vs, rest, h1, h2, h3, h4⟩ := mm_pop_use n [] S h
  subst h2
  rw [List.append_nil] at h4
  obtain ⟨t, h5, h6⟩ := mm_find_use h4
  have hvs : ∀ v ∈ vs.reverse, mm_vin v := fun v hv => hS v (List.mem_append_left _ (List.mem_reverse.mp hv))
  have hre : ∀ v ∈ rest, mm_vin v := fun v hv => hS v (List.mem_append_right _ hv)
  have hmet := hT _ h5 r hr vs.reverse M _ hvs hM h6
  have hok := mm_recs_ok _ (mm_rlk_mem hr)
  obtain ⟨r', hr', hl0, hl1⟩ := hsi
  cases hr.symm.trans hr'
  have hw := C.2.2.2.2.2.2.1
  have hE := C.2.2.2.2.2.2.2.1
  have hX := C.2.2.2.2.2.2.2.2.1
  have hpre : PreS s H (mm_Pc D ad G X vs.reverse M) (vs.reverse.map (mm_val ad)) := ⟨mm_blind hX, fun U hU hW => ⟨rfl, by rw [hU]; exact hP, hE.to hX hW (fun q h7 h8 => by rw [hU]; exact hSt.2.1 q h7 h8)⟩⟩
  have hstack : (vs ++ rest).map (mm_val ad) = (vs.reverse.map (mm_val ad)).reverse ++ rest.map (mm_val ad) := by
    rw [List.map_append, List.map_reverse, List.reverse_reverse]
  have hlen : (vs.reverse.map (mm_val ad)).length = r.2.2.2.2.2.1 := by rw [List.length_map, List.length_reverse, h1, hn]
  have hroom : 0 + 0 ≤ R.cells ∧ 0 + 0 ≤ R.slots := ⟨Nat.zero_le _, Nat.zero_le _⟩
  have kk : ∀ (rv : Option mmV) (M' : mmM) (H1 : Heap) (locs1 : List Loc), K L (mm_push rv rest) M' → (∀ v, rv = some v → mm_vin v) → mm_mem M' → va_P D vwCl (mm_ws ad G M') H1 → va_S (mm_A ad) s.heap H1 locs1 → W p l e R s m args below meth c H1 locs1 0 0 Qs (F0 m (pc + 3) ls ((rv.map (mm_val ad)).toList ++ rest.map (mm_val ad))) := by
    intro rv M' H1 locs1 hk hv hm hp hs
    rw [← mm_push_val]
    exact hK _ _ _ hk H1 locs1 ls hL (mm_push_vin hv hre) hm hp hs
  cases nest with
  | false =>
    exact mm_run (va_runS (n := r.2.2.2.2.2.1) ⟨C.1, C.2.1, C.2.2.1, C.2.2.2.2.2.1, hw⟩ hmet ⟨callB_of _ hw (mm_goodR hok) rfl rfl rfl (hw _ hok.2.2.2.1) (hw _ (hl0 rfl)) hok.2.2.2.2.1 ⟨hfr, hlo⟩, hw _ (hok.2.1 hst)⟩ hpre rfl hlen hL.1.1 hstack (lv_room (by rw [mm_catsE]; exact h3)) hd hroom) hSt kk
  | true =>
    exact mm_run (va_runSN (n := r.2.2.2.2.2.1) (host := RX10) ⟨C.1, C.2.1, C.2.2.1, C.2.2.2.2.2.1, hw⟩ hmet ⟨va_cnB _ hw (mm_goodR hok) rfl rfl rfl (hE.2.2.1 _ (hl1 rfl)) (hw _ hok.2.2.2.1) hok.2.2.2.2.1 ⟨hfr, hlo⟩, hw _ (hok.2.1 hst), trivial⟩ hpre rfl hlen hL.1.1 hstack (lv_room (by rw [mm_catsE]; exact h3)) hd hroom) hSt kk
theorem mm_own_cl {ci : Nat} {C : String} {T : u_T} {N : Nat} (h : vwCl[ci]? = some (C, T, N)) : mm_own ci = C := by
  match ci, h with
  | 0, h => cases h; rfl
  | 1, h => cases h; rfl
  | 2, h => cases h; rfl
  | 3, h => cases h; rfl
  | 4, h => cases h; rfl
  | 5, h => cases h; rfl
  | 6, h => cases h; rfl
  | 7, h => cases h; rfl
  | 8, h => cases h; rfl
  | 9, h => cases h; rfl
  | 10, h => cases h; rfl
  | 11, h => cases h; rfl
  | k + 12, h => simp at h
theorem mm_vwCl {ci : Nat} (h : ci < 12) : ∃ C T N, vwCl[ci]? = some (C, T, N) := ⟨_, _, _, List.getElem?_eq_getElem (show ci < vwCl.length from h)⟩
theorem mm_s_callv (C : mm_Cx p s m args meth c D ad G X oc cc maxL ret) {T : List (Nat × mmT)} (hT : ∀ q ∈ T, mm_snd l D ad G X q.1 q.2) {idx x n : Nat} {r : mmRec} (hci : x / 100 < 12) (hr : mm_rlk mm_recs x = some r) (hst : r.2.2.2.2.1 = false) (hn : n = r.2.2.2.2.2.1 + 1) (hfr : r.2.2.2.2.2.2.1 + 1 ≤ R.frames) (hlo : 8 + (r.2.2.1 + 11) + r.2.2.2.2.2.2.2.1 ≤ R.locals) (hoc : r.2.2.2.2.2.2.2.2 = x / 100) (hsi : mm_site (oc, idx, x, false)) (hd : decode cc pc = .ok (.invokevirtual idx, 3)) (hK : ∀ L S M, K L S M → mm_W p l e R s m args below meth c Qs D ad G maxL (pc + 3) L S M) (h : mm_callv T x n K L S M) : mm_W p l e R s m args below meth c Qs D ad G maxL pc L S M := by
  intro H locs ls hL hS hM hP hSt
  obtain ⟨vs, rest, h1, h2, h9, h3, h4⟩ := mm_pop_use n [] S h
  subst h2
  rw [List.append_nil] at h4 h9
  obtain ⟨t, h5, h6⟩ := mm_find_use h4
  have hvs : ∀ v ∈ vs.reverse, mm_vin v := fun v hv => hS v (List.mem_append_left _ (List.mem_reverse.mp hv))
  have hre : ∀ v ∈ rest, mm_vin v := fun v hv => hS v (List.mem_append_right _ hv)
  have hmet := hT _ h5 r hr vs.reverse M _ hvs hM h6
  have hok := mm_recs_ok _ (mm_rlk_mem hr)
  obtain ⟨r', hr', hl0, hl1⟩ := hsi
  cases hr.symm.trans hr'
  have hw := C.2.2.2.2.2.2.1
  have hE := C.2.2.2.2.2.2.2.1
  have hX := C.2.2.2.2.2.2.2.2.1
  generalize hrv : vs.reverse = as at h9 hmet hvs
  have hvs2 : vs = as.reverse := by rw [← hrv, List.reverse_reverse]
  subst hvs2
  rcases as with _ | ⟨o | o | o, as⟩ <;> first | exact h9.elim | skip
  have hco : mm_cls o = x / 100 := h9
  obtain ⟨Cn, Tn, N, hc⟩ := mm_vwCl (ci := mm_cls o) (by omega)
  have hcn : r.1.cls = Cn := by rw [hok.2.2.2.2.2.2, hoc, ← hco]; exact mm_own_cl hc
  have hrec := va_recv (a := ad o) (q0 := o) hE.1 hP hc (mm_obj (by omega))
  have hpre : PreV s H Cn (ad o) (mm_Pc D ad G X (vr o :: as) M) (as.map (mm_val ad)) := ⟨mm_blind hX, hrec, fun U hU hW => ⟨rfl, by rw [hU]; exact hP, hE.to hX hW (fun q h7 h8 => by rw [hU]; exact hSt.2.1 q h7 h8)⟩⟩
  have hstack : ((vr o :: as).reverse ++ rest).map (mm_val ad) = (as.map (mm_val ad)).reverse ++ .ref (ad o) :: rest.map (mm_val ad) := by
    simp [mm_val]
  have hlen : (as.map (mm_val ad)).length = r.2.2.2.2.2.1 := by
    simp only [List.length_reverse, List.length_cons] at h1
    rw [List.length_map]; omega
  have hroom : 0 + 0 ≤ R.cells ∧ 0 + 0 ≤ R.slots := ⟨Nat.zero_le _, Nat.zero_le _⟩
  have kk : ∀ (rv : Option mmV) (M' : mmM) (H1 : Heap) (locs1 : List Loc), K L (mm_push rv rest) M' → (∀ v, rv = some v → mm_vin v) → mm_mem M' → va_P D vwCl (mm_ws ad G M') H1 → va_S (mm_A ad) s.heap H1 locs1 → W p l e R s m args below meth c H1 locs1 0 0 Qs (F0 m (pc + 3) ls ((rv.map (mm_val ad)).toList ++ rest.map (mm_val ad))) := by
    intro rv M' H1 locs1 hk hv hm hp hs
    rw [← mm_push_val]
    exact hK _ _ _ hk H1 locs1 ls hL (mm_push_vin hv hre) hm hp hs
  have hG : GoodIn mm_words (wsV (mm_own oc) idx Cn r.1 (mm_rws r)) := by
    intro w hw
    unfold wsV at hw
    rcases List.mem_append.mp hw with h7 | h7
    · simp only [List.mem_cons, List.not_mem_nil, or_false] at h7
      rcases h7 with rfl | rfl | rfl | rfl
      · exact mm_good (hl0 rfl)
      · exact mm_good (hok.2.2.1 hst).1
      · rw [← hcn]; exact mm_good (hok.2.2.1 hst).2
      · rw [← hcn]; exact mm_good hok.2.2.2.1
    · exact mm_goodR hok w h7
  rw [hstack]
  exact mm_run (va_runV (n := r.2.2.2.2.2.1) ⟨C.1, C.2.1, C.2.2.1, C.2.2.2.2.2.1, hw⟩ hmet (cwV _ hw hG rfl rfl rfl ⟨hcn, hok.2.2.2.2.1⟩ ⟨hfr, hlo⟩) hpre rfl hlen hL.1.1 rfl (lv_room (by rw [mm_catsE]; exact h3)) hd hroom) hSt kk
end MMC
