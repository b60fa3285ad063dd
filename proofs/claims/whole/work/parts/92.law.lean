/-! the law's body: rows of its own -/
def ll_at (pc : Nat) (a : Instr × Nat) : Bool := match decode code pc with
  | .ok d => decide (d = a)
  | .error _ => false
theorem ll_at_spec {pc : Nat} {a : Instr × Nat} (h : ll_at pc a = true) : decode code pc = .ok a := by
  unfold ll_at at h
  split at h
  · rename_i d hd
    rw [hd, of_decide_eq_true h]
  · cases h
abbrev ll_A (s : State) : Nat → Prop := fun q => s.heap.size ≤ q
def ll_Cx (p : Program) (l : Launch) (s : State) (m : MethodId) (meth : Method) (c : Code) (b L : Nat) (xs : Nat → Int32) (D : va_G) (ad adV : Nat → Nat) (sa : Nat) (G : ClassId × ClassId × ClassId) (cJ : ClassId) (ao : Nat) : Prop :=
  p.tables.exec = Jvm.exec ∧ c.code = code ∧ c.maxLocals = 8 ∧ s.vm.findClass RL = some m.cls ∧ (∀ w ∈ mm_words, w.before #[Value.ref b] s = true) ∧ va_X b L xs s s.heap ∧ b < s.heap.size ∧ mm_E D ad G (xX ad adV sa) s ∧ (∀ o, o < 77 → s.heap.size ≤ ad o) ∧ s.heap.size ≤ ao ∧ ¬ mm_A ad ao ∧ (∀ i j, i < 77 → j < 77 → ad i = ad j → i = j) ∧ va_K D vwCl [(cJ, .long)] s ∧ L ≤ 3072 ∧ mm_snd l D ad G (xX ad adV sa) 313 t_Rd_isWord ∧ l.stackTraces = false
def ll_lv (b : Nat) (ad : Nat → Nat) (ao i : Nat) : List (Nat × Value) := [(0, .ref b), (1, .ref (ad 0)), (2, .ref (ad 62)), (3, .ref ao), (4, .int (nI i))]
section LL
variable {p : Program} {l : Launch} {e : Env} {s : State} {m : MethodId} {below : List Frame} {meth : Method} {c : Code} {Q : State → Prop} {b L : Nat} {xs : Nat → Int32} {D : va_G} {ad adV : Nat → Nat} {sa : Nat} {G : ClassId × ClassId × ClassId} {cJ : ClassId} {ao i : Nat} {cells slots pc : Nat} {st : List Value} {M : mmM}
def ll_G (p : Program) (l : Launch) (e : Env) (s : State) (m : MethodId) (below : List Frame) (meth : Method) (c : Code) (Q : State → Prop) (b : Nat) (D : va_G) (ad : Nat → Nat) (G : ClassId × ClassId × ClassId) (cJ : ClassId) (ao i cells slots pc : Nat) (st : List Value) (M : mmM) : Prop := ∀ (H : Heap) (locs : List Loc) (ls : Array Slot) (f : Nat → Int64), lv_has ls 8 (ll_lv b ad ao i) → mm_mem M → va_P D vwCl (mm_ws ad G M) H → va_P D vwCl [(ao, .inl (cJ, 1, .inr (.inl f)))] H → va_S (ll_A s) s.heap H locs → W p l e room_1 s m #[Value.ref b] below meth c H locs cells slots Q (F0 m pc ls st)
theorem ll_inA (C : ll_Cx p l s m meth c b L xs D ad adV sa G cJ ao) : ∀ q, mm_A ad q → ll_A s q := by
  rintro q ⟨o, ho, rfl⟩
  exact C.2.2.2.2.2.2.2.2.1 o ho
theorem ll_x (C : ll_Cx p l s m meth c b L xs D ad adV sa G cJ ao) (hd : ll_at pc (.aload_n 1, 1) = true) (k : ll_G p l e s m below meth c Q b D ad G cJ ao i cells slots (pc + 1) (.ref (ad 0) :: st) M) : ll_G p l e s m below meth c Q b D ad G cJ ao i cells slots pc st M := fun H locs ls f hl hM hP hO hS => lv_aload_n C.1 C.2.1 (ll_at_spec hd) rfl (lv_at hl 1 rfl) (k H locs ls f hl hM hP hO hS)
theorem ll_m (C : ll_Cx p l s m meth c b L xs D ad adV sa G cJ ao) (hd : ll_at pc (.aload_n 2, 1) = true) (k : ll_G p l e s m below meth c Q b D ad G cJ ao i cells slots (pc + 1) (.ref (ad 62) :: st) M) : ll_G p l e s m below meth c Q b D ad G cJ ao i cells slots pc st M := fun H locs ls f hl hM hP hO hS => lv_aload_n C.1 C.2.1 (ll_at_spec hd) rfl (lv_at hl 2 rfl) (k H locs ls f hl hM hP hO hS)
def ll_ck1 (pc k : Nat) : Bool := ll_at pc (.aload_n 0, 1) && ll_at (pc + 1) (.iload 4, 2) && ll_at (pc + 3) (.iconst (k : Int), 1) && ll_at (pc + 4) (.iadd, 1) && ll_at (pc + 5) (.iaload, 1) && decide (k < 6)
theorem ll_add {i k : Nat} (hk : k < 6) : nI i + Int32.ofInt (k : Int) = nI (i + k) := by
  rw [(show ∀ k : Nat, k < 6 → Int32.ofInt (k : Int) = nI k by decide +kernel) k hk]
  show Int32.ofNat i + Int32.ofNat k = Int32.ofNat (i + k)
  rw [Int32.ofNat_add]
theorem ll_arg (C : ll_Cx p l s m meth c b L xs D ad adV sa G cJ ao) (hi : i + 6 ≤ L) {k : Nat} (hd : ll_ck1 pc k = true) (kk : ll_G p l e s m below meth c Q b D ad G cJ ao i cells slots (pc + 6) (.int (xs (i + k)) :: st) M) : ll_G p l e s m below meth c Q b D ad G cJ ao i cells slots pc st M := fun H locs ls f hl hM hP hO hS => by
  simp only [ll_ck1, Bool.and_eq_true, decide_eq_true_eq] at hd
  obtain ⟨⟨⟨⟨⟨d0, d1⟩, d3⟩, d4⟩, d5⟩, hk⟩ := hd
  have hL : L ≤ 3072 := C.2.2.2.2.2.2.2.2.2.2.2.2.2.1
  refine lv_aload_n C.1 C.2.1 (ll_at_spec d0) rfl (lv_at hl 0 rfl) ?_
  refine lv_iload C.1 C.2.1 (ll_at_spec d1) (lv_at hl 4 rfl) ?_
  refine lv_iconst C.1 C.2.1 (ll_at_spec d3) rfl ?_
  refine lv_iadd C.1 C.2.1 (ll_at_spec d4) ?_
  rw [ll_add hk]
  refine va_sld C.1 C.2.1 C.2.2.2.2.2.1 C.2.2.2.2.2.2.1 (Nat.not_le.mpr C.2.2.2.2.2.2.1) hS (vp_in_nI (by omega) (by omega)) (ll_at_spec d5) ?_
  rw [nI_clamp (by omega)]
  exact kk H locs ls f hl hM hP hO hS
def ll_ckA : Nat → Nat → Nat → Bool
  | _, _, 0 => true
  | pc, k, n + 1 => ll_ck1 pc k && ll_ckA (pc + 6) (k + 1) n
theorem ll_args (C : ll_Cx p l s m meth c b L xs D ad adV sa G cJ ao) (hi : i + 6 ≤ L) (n : Nat) : ∀ (k pc : Nat) (st : List Value), ll_ckA pc k n = true → ll_G p l e s m below meth c Q b D ad G cJ ao i cells slots (pc + 6 * n) (((List.range' k n).map (fun j => Value.int (xs (i + j)))).reverse ++ st) M → ll_G p l e s m below meth c Q b D ad G cJ ao i cells slots pc st M := by
  induction n with
  | zero =>
    intro k pc st _ h
    rw [Nat.mul_zero, Nat.add_zero, List.range'_zero, List.map_nil, List.reverse_nil, List.nil_append] at h
    exact h
  | succ n ih =>
    intro k pc st hd h
    simp only [ll_ckA, Bool.and_eq_true] at hd
    refine ll_arg C hi hd.1 (ih (k + 1) (pc + 6) _ hd.2 ?_)
    rw [List.range'_succ, List.map_cons, List.reverse_cons, List.append_assoc] at h
    rw [show pc + 6 + 6 * n = pc + 6 * (n + 1) by omega]
    exact h
theorem ll_run {H : Heap} {locs : List Loc} {ls : Array Slot} {st0 rest : List Value} {a : Array Value} {q : mmP} {A : Nat → Prop} {R : Room} {args : Array Value} (hr : va_Run p l e R s m args below meth c H locs cells slots 0 0 (F0 m pc ls st0) rest (mm_Qc D ad G q a) (mm_A ad)) (hS : va_S A s.heap H locs) (hAA : ∀ x, mm_A ad x → A x)
    (kk : ∀ (r : Option mmV) (M : mmM) (H1 : Heap) (locs1 : List Loc), q r M → (∀ v, r = some v → mm_vin v) → mm_mem M → va_P D vwCl (mm_ws ad G M) H1 → (∀ x : Nat, x < H.size → ¬ mm_A ad x → H1[x]? = H[x]?) → va_S A s.heap H1 locs1 → W p l e R s m args below meth c H1 locs1 cells slots Q (F0 m (pc + 3) ls ((r.map (mm_val ad)).toList ++ rest))) : W p l e R s m args below meth c H locs cells slots Q (F0 m pc ls st0) := by
  intro T hT X
  obtain ⟨v, st₀, t, T', L, h0, X', hL, e1, e2, ⟨⟨r, M', hv, hq, hvr, hm, hp⟩, hz, hk⟩, st⟩ := hr T hT X
  cases hv
  rw [h0] at hz hk
  obtain ⟨t2, a1, b1⟩ := kk r M' T'.heap (locs ++ L) hq hvr hm (by rw [e1]; exact hp) (fun x h1 h2 => by rw [e1]; exact hk x h1 h2)
    ⟨Nat.le_trans hS.1 (by rw [e1]; exact hz), fun q h1 h2 => by rw [e1, hk q (Nat.lt_of_lt_of_le h1 hS.1) (fun h => h2 (hAA q h))]; exact hS.2.1 q h1 h2, fun q hq => by
      rcases List.mem_append.mp hq with h | h
      · exact hS.2.2 q h
      · exact hAA _ (hL q h)⟩ T' rfl X'
  exact ⟨t2, st t2 a1, b1⟩
def ll_side (idx : Nat) (r : mmRec) (ci n : Nat) : Prop := mm_recOk r ∧ Cond.methodLink RL idx r.1 ∈ mm_words ∧ r.2.2.2.2.1 = false ∧ r.2.2.2.2.2.1 = n ∧ r.2.2.2.2.2.2.1 + 1 ≤ room_1.frames ∧ 8 + (r.2.2.1 + 11) + r.2.2.2.2.2.2.2.1 ≤ room_1.locals ∧ r.2.2.2.2.2.2.2.2 = ci
theorem ll_call (C : ll_Cx p l s m meth c b L xs D ad adV sa G cJ ao) {idx x n o ci : Nat} {r : mmRec} {t : mmT} (hr : mm_rlk mm_recs x = some r) (hs : mm_snd l D ad G (xX ad adV sa) x t) (hsd : ll_side idx r ci n) (hco : mm_cls o = ci) (hci : ci < 12) {as : List mmV} {q : mmP} (has : ∀ v ∈ as, mm_vin v) (hn : as.length = n) (ht : t (vr o :: as) M q) (hst : (st.map fun v => v.category).sum ≤ 8) (hcs : cells ≤ room_1.cells ∧ slots ≤ room_1.slots) (hd : ll_at pc (.invokevirtual idx, 3) = true)
    (kk : ∀ (r' : Option mmV) (M' : mmM), q r' M' → (∀ v, r' = some v → mm_vin v) → ll_G p l e s m below meth c Q b D ad G cJ ao i cells slots (pc + 3) ((r'.map (mm_val ad)).toList ++ st) M') : ll_G p l e s m below meth c Q b D ad G cJ ao i cells slots pc ((as.map (mm_val ad)).reverse ++ .ref (ad o) :: st) M := fun H locs ls f hl hM hP hO hS => by
  obtain ⟨hok, hlk, hns, hna, hfr, hlo, hcl⟩ := hsd
  have hX := xX_ok ad adV sa
  have hE := C.2.2.2.2.2.2.2.1
  have hts := C.2.2.2.2.1
  have hmet := hs r hr (vr o :: as) M q (List.forall_mem_cons.mpr ⟨trivial, has⟩) hM ht
  obtain ⟨Cn, Tn, N, hc⟩ := mm_vwCl (ci := mm_cls o) (by omega)
  have hcn : r.1.cls = Cn := by rw [hok.2.2.2.2.2.2, hcl, ← hco]; exact mm_own_cl hc
  have hrec := va_recv (a := ad o) (q0 := o) hE.1 hP hc (mm_obj (by omega))
  have hG : GoodIn mm_words (wsV RL idx Cn r.1 (mm_rws r)) := by
    intro w hw
    unfold wsV at hw
    rcases List.mem_append.mp hw with h7 | h7
    · simp only [List.mem_cons, List.not_mem_nil, or_false] at h7
      rcases h7 with rfl | rfl | rfl | rfl
      · exact mm_good hlk
      · exact mm_good (hok.2.2.1 hns).1
      · rw [← hcn]; exact mm_good (hok.2.2.1 hns).2
      · rw [← hcn]; exact mm_good hok.2.2.2.1
    · exact mm_goodR hok w h7
  refine ll_run (rest := st) (va_runV (As := as.map (mm_val ad)) (b := ad o) (n := r.2.2.2.2.2.1) ⟨C.1, C.2.1, C.2.2.1, C.2.2.2.1, hts⟩ hmet (cwV _ hts hG rfl rfl rfl ⟨hcn, hok.2.2.2.2.1⟩ ⟨hfr, hlo⟩) ⟨mm_blind hX, hrec, fun U hU hW => ⟨rfl, by rw [hU]; exact hP, hE.to hX hW (fun q h7 h8 => by rw [hU]; exact hS.2.1 q h7 (Nat.not_le.mpr h7))⟩⟩ rfl (by rw [List.length_map, hn, hna]) hl.1 rfl (lv_room hst) (ll_at_spec hd) hcs) hS (ll_inA C) (fun r' M' H1 locs1 hq hv hm hP1 hk hS1 => ?_)
  exact kk r' M' hq hv H1 locs1 ls f hl hm hP1 (hO.kept (fun k x hx => by
    have hk0 : k < 1 := (List.getElem?_eq_some_iff.mp hx).1
    have hx2 := hx
    rw [show k = 0 by omega] at hx2
    cases hx2
    exact hk _ (hO k _ hx).lt C.2.2.2.2.2.2.2.2.2.2.1)) hS1
def ll_as (xs : Nat → Int32) (i n : Nat) : List mmV := (List.range' 1 n).map (fun j => vi (xs (i + j)).toInt)
theorem ll_as_val (ad : Nat → Nat) (xs : Nat → Int32) (i n : Nat) : (ll_as xs i n).map (mm_val ad) = (List.range' 1 n).map (fun j => Value.int (xs (i + j))) := by
  unfold ll_as
  rw [List.map_map]
  apply List.map_congr_left
  intro j _
  show Value.int (Int32.ofInt (xs (i + j)).toInt) = _
  rw [mm_of]
theorem ll_as_vin (xs : Nat → Int32) (i n : Nat) : ∀ v ∈ ll_as xs i n, mm_vin v := by
  intro v hv
  obtain ⟨j, -, rfl⟩ := List.mem_map.mp hv
  exact mm_Rof _
def ll_ckP (pc n iP iM : Nat) : Bool := ll_at pc (.aload_n 1, 1) && ll_ckA (pc + 1) 1 n && ll_at (pc + 1 + 6 * n) (.invokevirtual iP, 3) && ll_at (pc + 1 + 6 * n + 3) (.aload_n 2, 1) && ll_ckA (pc + 1 + 6 * n + 3 + 1) 1 n && ll_at (pc + 1 + 6 * n + 3 + 1 + 6 * n) (.invokevirtual iM, 3)
/-- a case: the class's answer, the reference's, and what follows with both -/
theorem ll_case (C : ll_Cx p l s m meth c b L xs D ad adV sa G cJ ao) (hi : i + 6 ≤ L) {n iP iM xP xM : Nat} {rP rM : mmRec} {tP tM : mmT} (hck : ll_ckP pc n iP iM = true) (hrP : mm_rlk mm_recs xP = some rP) (hrM : mm_rlk mm_recs xM = some rM) (sP : mm_snd l D ad G (xX ad adV sa) xP tP) (sM : mm_snd l D ad G (xX ad adV sa) xM tM) (sdP : ll_side iP rP 10 n) (sdM : ll_side iM rM 11 n) (hcs : cells ≤ room_1.cells ∧ slots ≤ room_1.slots) {mk : Int → mmV} (hmk : ∀ z, mk z = vi z ∨ mk z = vl z) {qz : mmM → Prop} (tie : tP (vr 0 :: ll_as xs i n) M (fun r M1 => ∃ z, r = some (mk z) ∧ tM (vr 62 :: ll_as xs i n) M1 (fun r' M2 => r' = some (mk z) ∧ qz M2)))
    (k : ∀ z M', qz M' → mm_vin (mk z) → ll_G p l e s m below meth c Q b D ad G cJ ao i cells slots (pc + 1 + 6 * n + 3 + 1 + 6 * n + 3) [mm_val ad (mk z), mm_val ad (mk z)] M') : ll_G p l e s m below meth c Q b D ad G cJ ao i cells slots pc [] M := by
  simp only [ll_ckP, Bool.and_eq_true] at hck
  obtain ⟨⟨⟨⟨⟨h1, h2⟩, h3⟩, h4⟩, h5⟩, h6⟩ := hck
  have hlen : (ll_as xs i n).length = n := by simp [ll_as]
  refine ll_x C h1 (ll_args C hi n 1 _ _ h2 ?_)
  rw [← ll_as_val ad]
  refine ll_call C (o := 0) hrP sP sdP rfl (by decide) (ll_as_vin xs i n) hlen tie (Nat.le_of_ble_eq_true rfl) hcs h3 ?_
  rintro r' M1 ⟨z, rfl, hz⟩ hv
  refine ll_m C h4 (ll_args C hi n 1 _ _ h5 ?_)
  rw [← ll_as_val ad]
  refine ll_call C (o := 62) hrM sM sdM rfl (by decide) (ll_as_vin xs i n) hlen hz ?_ hcs h6 ?_
  · rcases hmk z with h | h <;> rw [h] <;> exact Nat.le_of_ble_eq_true rfl
  · rintro r2 M2 ⟨rfl, hq⟩ hv2
    exact k z M2 hq (hv _ rfl)
end LL
