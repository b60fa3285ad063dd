/-! constructors: rows for straight code that makes objects; the world is this object and what was made -/
theorem mk_nA {D : va_G} {cl : List vw_C} {A0 : Nat → Prop} {wr wc : va_W} {H : Heap} (hP : va_P D cl (wr ++ wc) H) (hD : va_D A0 (wr ++ wc)) {k : Nat} {q : Nat × va_E} (hk : wr[k]? = some q) : q.1 < H.size ∧ ¬ va_A wc H.size q.1 := by
  have hkl := (List.getElem?_eq_some_iff.mp hk).1
  have h1 : (wr ++ wc)[k]? = some q := by rw [List.getElem?_append_left hkl]; exact hk
  have h3 := (hP k q h1).lt
  refine ⟨h3, ?_⟩
  rintro (⟨j, e, hj⟩ | h)
  · have h2 : (wr ++ wc)[wr.length + j]? = some (q.1, e) := by
      rw [List.getElem?_append_right (by omega), Nat.add_sub_cancel_left]; exact hj
    have := hD.1 k (wr.length + j) q (q.1, e) h1 h2 rfl
    omega
  · omega
theorem mk_join {D : va_G} {cl : List vw_C} {A0 : Nat → Prop} {wr wc w1 : va_W} {H H1 : Heap} (hP : va_P D cl (wr ++ wc) H) (hD : va_D A0 (wr ++ wc)) (hk : ∀ q : Nat, q < H.size → ¬ va_A wc H.size q → H1[q]? = H[q]?) (hF : ∀ q, va_A wc H.size q → A0 q) (hP1 : va_P D cl w1 H1) (hD1 : va_D (va_A wc H.size) w1) : va_P D cl (wr ++ w1) H1 ∧ va_D A0 (wr ++ w1) := by
  have hin : ∀ (k : Nat) (q : Nat × va_E), wr[k]? = some q → (wr ++ wc)[k]? = some q := fun k q h => by
    rw [List.getElem?_append_left (List.getElem?_eq_some_iff.mp h).1]; exact h
  have hsplit : ∀ (k : Nat) (q : Nat × va_E), (wr ++ w1)[k]? = some q → (k < wr.length ∧ wr[k]? = some q) ∨ (wr.length ≤ k ∧ w1[k - wr.length]? = some q) := fun k q h => by
    by_cases hl : k < wr.length
    · rw [List.getElem?_append_left hl] at h; exact Or.inl ⟨hl, h⟩
    · rw [List.getElem?_append_right (by omega)] at h; exact Or.inr ⟨by omega, h⟩
  refine ⟨va_P.app (fun k q h => ?_) hP1, fun i j p q hi hj hpq => ?_, fun k q h => ?_⟩
  · have := mk_nA hP hD h
    exact (hP k q (hin k q h)).kept (hk q.1 this.1 this.2)
  · rcases hsplit i p hi with ⟨h1, h2⟩ | ⟨h1, h2⟩ <;> rcases hsplit j q hj with ⟨h3, h4⟩ | ⟨h3, h4⟩
    · exact hD.1 i j p q (hin i p h2) (hin j q h4) hpq
    · exact absurd (by rw [hpq]; exact hD1.2 _ _ h4) (mk_nA hP hD h2).2
    · exact absurd (by rw [← hpq]; exact hD1.2 _ _ h2) (mk_nA hP hD h4).2
    · have := hD1.1 _ _ p q h2 h4 hpq
      omega
  · rcases hsplit k q h with ⟨h1, h2⟩ | ⟨h1, h2⟩
    · exact hD.2 k q (hin k q h2)
    · exact hF _ (hD1.2 _ _ h2)
def mk_E (D : va_G) (G : ClassId × ClassId × ClassId) (U : State) : Prop := va_K D vwCl (mm_tys G) U ∧ (∀ q ∈ mk_nestM, va_Nw (.methodLinkNest q.1 q.2.1 q.2.2 RX10) U) ∧ (∀ q ∈ mm_nestF, va_Nw (.fieldLinkNest q.1 q.2.1 q.2.2.1 q.2.2.2.1 q.2.2.2.2 RX10) U) ∧ ∀ a : Array Value, (Cond.arrayOver (.array .int)).before a U = true
theorem mk_E.warm {D : va_G} {G : ClassId × ClassId × ClassId} {s U : State} (h : mk_E D G s) (hW : s.WarmedH U.vm) : mk_E D G U := ⟨va_K.moved hW.alike h.1, fun q hq => va_Nw.warmM hW (h.2.1 q hq), fun q hq => va_Nw.warmF hW (h.2.2.1 q hq), fun a => Jvm.Stand.arrayOver_alikeB hW.alike (h.2.2.2 a)⟩
theorem mk_E.calling {D : va_G} {G : ClassId × ClassId × ClassId} {U : State} (h : mk_E D G U) (g : JFrame) (mk : MethodId) (a : Array Value) : mk_E D G (U.calling g mk a) := ⟨va_K.moved (u := U) (U := U.calling g mk a) (Vm.Alike.refl U.vm) h.1, fun q hq => va_Nw.same (u := U) rfl rfl (h.2.1 q hq), fun q hq => va_Nw.same (u := U) rfl rfl (h.2.2.1 q hq), fun b => Jvm.Stand.arrayOver_alikeB (s := U) (U := U.calling g mk a) (Vm.Alike.refl U.vm) (h.2.2.2 b)⟩
/-- the constructor y makes of the new object at h0 the world cw h0 u -/
def mk_ctor (l : Launch) (D : va_G) (G : ClassId × ClassId × ClassId) (y : MethodName) (cc : ByteArray) (fr lo mc ms : Nat) (ci : Nat) (fs0 : List Value) (cw : Nat → List Nat → va_W) : Prop := ∀ h0 sz : Nat, Met l y (Cond.code y cc 1 none :: mm_words) { frames := fr, cells := mc, slots := ms, locals := lo } (va_Pc [.ref h0] (fun U => U.heap.size = sz ∧ va_P D vwCl [(h0, .inr (ci, fs0))] U.heap ∧ mk_E D G U)) (va_Qv (fun _ : List Nat => True) (fun u t => va_P D vwCl (cw h0 u) t.heap ∧ va_D (va_A [(h0, .inr (ci, fs0))] sz) (cw h0 u)) (va_A [(h0, .inr (ci, fs0))] sz)) mc ms (va_A [(h0, .inr (ci, fs0))] sz)
section MKC
variable {p : Program} {l : Launch} {e : Env} {R : Room} {s : State} {m : MethodId} {args : Array Value} {below : List Frame} {meth : Method} {c : Code} {Q : State → Prop} {D : va_G} {G : ClassId × ClassId × ClassId} {A : Nat → Prop} {ls : Array Slot} {oc : Nat} {cc : ByteArray} {h0 ci : Nat} {pc : Nat} {st fs : List Value} {wr : va_W} {cells slots : Nat}
def mk_W (p : Program) (l : Launch) (e : Env) (R : Room) (s : State) (m : MethodId) (args : Array Value) (below : List Frame) (meth : Method) (c : Code) (Q : State → Prop) (D : va_G) (A : Nat → Prop) (ls : Array Slot) (h0 ci : Nat) (pc : Nat) (st fs : List Value) (wr : va_W) (cells slots : Nat) : Prop := ∀ (H : Heap) (locs : List Loc), va_P D vwCl ((h0, .inr (ci, fs)) :: wr) H → va_D A ((h0, .inr (ci, fs)) :: wr) → va_S A s.heap H locs → W p l e R s m args below meth c H locs cells slots Q (F0 m pc ls st)
def mk_Cx (p : Program) (s : State) (m : MethodId) (args : Array Value) (meth : Method) (c : Code) (D : va_G) (G : ClassId × ClassId × ClassId) (A : Nat → Prop) (oc : Nat) (cc : ByteArray) (h0 : Nat) (ls : Array Slot) : Prop := p.tables.exec = Jvm.exec ∧ c.code = cc ∧ c.maxLocals = 1 ∧ meth.sig.returnType = none ∧ s.vm.findClass (mm_own oc) = some m.cls ∧ (∀ w ∈ mm_words, w.before args s = true) ∧ mk_E D G s ∧ (∀ q, s.heap.size ≤ q → A q) ∧ meth.name = "<init>" ∧ lv_has ls 1 [(0, .ref h0)]
theorem mk_this (C : mk_Cx p s m args meth c D G A oc cc h0 ls) (hd : decode cc pc = .ok (.aload_n 0, 1)) (k : mk_W p l e R s m args below meth c Q D A ls h0 ci (pc + 1) (.ref h0 :: st) fs wr cells slots) : mk_W p l e R s m args below meth c Q D A ls h0 ci pc st fs wr cells slots := fun H locs hP hD hS => lv_aload_n C.1 C.2.1 hd rfl (lv_at C.2.2.2.2.2.2.2.2.2 0 rfl) (k H locs hP hD hS)
theorem mk_bi (C : mk_Cx p s m args meth c D G A oc cc h0 ls) {n : Int} {v : Int32} (hd : decode cc pc = .ok (.bipush n, 2)) (hv : (Int8.ofInt n).toInt32 = v) (k : mk_W p l e R s m args below meth c Q D A ls h0 ci (pc + 2) (.int v :: st) fs wr cells slots) : mk_W p l e R s m args below meth c Q D A ls h0 ci pc st fs wr cells slots := fun H locs hP hD hS => lv_bipush C.1 C.2.1 hd hv (k H locs hP hD hS)
theorem mk_si (C : mk_Cx p s m args meth c D G A oc cc h0 ls) {n : Int} {v : Int32} (hd : decode cc pc = .ok (.sipush n, 3)) (hv : (Int16.ofInt n).toInt32 = v) (k : mk_W p l e R s m args below meth c Q D A ls h0 ci (pc + 3) (.int v :: st) fs wr cells slots) : mk_W p l e R s m args below meth c Q D A ls h0 ci pc st fs wr cells slots := fun H locs hP hD hS => lv_sipush C.1 C.2.1 hd hv (k H locs hP hD hS)
theorem mk_ic (C : mk_Cx p s m args meth c D G A oc cc h0 ls) {n : Int} {v : Int32} (hd : decode cc pc = .ok (.iconst n, 1)) (hv : Int32.ofInt n = v) (k : mk_W p l e R s m args below meth c Q D A ls h0 ci (pc + 1) (.int v :: st) fs wr cells slots) : mk_W p l e R s m args below meth c Q D A ls h0 ci pc st fs wr cells slots := fun H locs hP hD hS => lv_iconst C.1 C.2.1 hd hv (k H locs hP hD hS)
theorem mk_obj0 (C : mk_Cx p s m args meth c D G A oc cc h0 ls) {index : Nat} (hl : Cond.methodLink (mm_own oc) index objectInit ∈ mm_words) (hi : Cond.instanceMethod objectInit ∈ mm_words) (hc : Cond.code objectInit ⟨#[0xb1]⟩ 1 none ∈ mm_words) (hd : decode cc pc = .ok (.invokespecial index, 3)) (h1 : 1 ≤ R.frames) (h2 : 12 ≤ R.locals) (k : mk_W p l e R s m args below meth c Q D A ls h0 ci (pc + 3) [] fs wr cells slots) : mk_W p l e R s m args below meth c Q D A ls h0 ci pc [.ref h0] fs wr cells slots := fun H locs hP hD hS => by
  have hts := C.2.2.2.2.2.1
  refine W.objInit C.1 C.2.1 C.2.2.2.2.1 (hts _ hl) (hts _ hi) (hts _ hc) rfl (by rw [C.2.2.1]; exact C.2.2.2.2.2.2.2.2.2.1) rfl hd h1 h2 ?_
  exact W.eq (g2 := F0 m (pc + 3) ls []) rfl (k H locs hP hD hS)
theorem mk_clI (C : mk_Cx p s m args meth c D G A oc cc h0 ls) {cA : ClassId} (h : va_RA s cA .int) : cA = G.1 := by
  have h1 : va_RA s G.1 .int := (C.2.2.2.2.2.2.1.1.2 0 (G.1, .int) rfl).2
  exact Option.some.inj (Eq.trans (Eq.symm h) h1)
theorem mk_clB (C : mk_Cx p s m args meth c D G A oc cc h0 ls) {cA : ClassId} (h : va_RA s cA .byte) : cA = G.2.1 := by
  have h1 : va_RA s G.2.1 .byte := (C.2.2.2.2.2.2.1.1.2 1 (G.2.1, .byte) rfl).2
  exact Option.some.inj (Eq.trans (Eq.symm h) h1)
theorem mk_newi (C : mk_Cx p s m args meth c D G A oc cc h0 ls) {n : Int32} {N : Nat} (hw : Cond.arrayClass .int ∈ mm_words) (hn : ¬ n < 0) (hN : n.toNatClampNeg = N) (hb : N * componentBytes .int ≤ 536870912) (hd : decode cc pc = .ok (.newarray .int, 2)) (hc : cells + 1 ≤ R.cells) (hs : slots + N ≤ R.slots) (k : ∀ q : Nat, mk_W p l e R s m args below meth c Q D A ls h0 ci (pc + 2) (.ref q :: st) fs (wr ++ [(q, .inl (G.1, N, .inl (fun _ => 0)))]) (cells + 1) (slots + N)) : mk_W p l e R s m args below meth c Q D A ls h0 ci pc (.int n :: st) fs wr cells slots := fun H locs hP hD hS => by
  refine va_newa (atype := .int) (a0 := (N, .inl (fun _ => 0))) C.1 C.2.1 (C.2.2.2.2.2.1 _ hw) rfl C.2.2.2.2.2.2.1.1 hP hD hS C.2.2.2.2.2.2.2.1 (fun cA => rfl) hn hN hb hc hs hd (fun q cA H1 hK1 hP1 hD1 hS1 => ?_)
  have hcl := mk_clI C ((hK1.2 3 (cA, .int) rfl).2)
  subst hcl
  exact k q H1 locs hP1 hD1 hS1
theorem mk_newb (C : mk_Cx p s m args meth c D G A oc cc h0 ls) {n : Int32} {N : Nat} (hw : Cond.arrayClass .byte ∈ mm_words) (hn : ¬ n < 0) (hN : n.toNatClampNeg = N) (hb : N * componentBytes .byte ≤ 536870912) (hd : decode cc pc = .ok (.newarray .byte, 2)) (hc : cells + 1 ≤ R.cells) (hs : slots + N ≤ R.slots) (k : ∀ q : Nat, mk_W p l e R s m args below meth c Q D A ls h0 ci (pc + 2) (.ref q :: st) fs (wr ++ [(q, .inl (G.2.1, N, .inl (fun _ => 0)))]) (cells + 1) (slots + N)) : mk_W p l e R s m args below meth c Q D A ls h0 ci pc (.int n :: st) fs wr cells slots := fun H locs hP hD hS => by
  refine va_newa (atype := .byte) (a0 := (N, .inl (fun _ => 0))) C.1 C.2.1 (C.2.2.2.2.2.1 _ hw) rfl C.2.2.2.2.2.2.1.1 hP hD hS C.2.2.2.2.2.2.2.1 (fun cA => rfl) hn hN hb hc hs hd (fun q cA H1 hK1 hP1 hD1 hS1 => ?_)
  have hcl := mk_clB C ((hK1.2 3 (cA, .byte) rfl).2)
  subst hcl
  exact k q H1 locs hP1 hD1 hS1
/-- a field of this object -/
theorem mk_put (C : mk_Cx p s m args meth c D G A oc cc h0 ls) {Cn : String} {T : u_T} {N : Nat} (hcl : vwCl[ci]? = some (Cn, T, N)) (hoc : mm_own oc = Cn) {index k : Nat} {ty : FieldType} {v : Value} {fs' : List Value} (hk : k < N) (hT : (T k).1 = Cn) (hlink : Cond.fieldLink Cn index Cn (T k).2.1 (T k).2.2.1 ∈ mm_words) (hd0 : parseFieldDescriptor (T k).2.2.1 = some ty) (hn : narrow ty v = v) (hfit : fits ty v = true) (hl : k < fs.length) (hfs : fs.set k v = fs') (hd : decode cc pc = .ok (.putfield index, 3)) (kk : mk_W p l e R s m args below meth c Q D A ls h0 ci (pc + 3) st fs' wr cells slots) : mk_W p l e R s m args below meth c Q D A ls h0 ci pc (v :: .ref h0 :: st) fs wr cells slots := fun H locs hP hD hS => by
  obtain ⟨hin, ty0, hty, hnm, -⟩ := mm_clsOk hcl
  subst hfs
  have hown : s.vm.findClass Cn = some m.cls := by rw [← hoc]; exact C.2.2.2.2.1
  have hts := C.2.2.2.2.2.1
  cases hf : (T k).2.2.2 with
  | false => exact va_put C.1 C.2.1 hts hin ty0 hty hnm hown C.2.2.2.2.2.2.1.1 hP hD hS 0 rfl hcl k hk (hts _ hlink) (fun x hx => by rw [hT] at hx; exact hx) hf hd0 hn hfit hl hd (fun H1 locs1 a b d => kk H1 locs1 a b d)
  | true => exact va_putF C.1 C.2.1 hts hin ty0 hty hnm hown C.2.2.2.2.2.2.1.1 hP hD hS 0 rfl hcl k hk (hts _ hlink) (fun x hx => by rw [hT] at hx; exact hx) hf C.2.2.2.2.2.2.2.2.1 hT hd0 hn hfit hl hd (fun H1 locs1 a b d => kk H1 locs1 a b d)
/-- new; dup; the constructor -/
theorem mk_make (C : mk_Cx p s m args meth c D G A oc cc h0 ls) {y : MethodName} {cc' : ByteArray} {fr lo mc ms cj N i1 i2 : Nat} {Cn : String} {T : u_T} {fs0 : List Value} {cw : Nat → List Nat → va_W} (hM : mk_ctor l D G y cc' fr lo mc ms cj fs0 cw) (hcl : vwCl[cj]? = some (Cn, T, N)) (ty : Nat → FieldType) (hty : ∀ k, k < N → parseFieldDescriptor (T k).2.2.1 = some (ty k)) (hfs : ∀ j, j < N → defaultValue (ty j) = vp_V fs0 j) (hl1 : Cond.classLink (mm_own oc) i1 Cn ∈ mm_words) (hin : Cond.instantiable Cn N ∈ mm_words) (hini : Cond.initialized Cn ∈ mm_words) (hl2 : (mm_own oc, i2, y) ∈ mk_nestM) (hy1 : Cond.instanceMethod y ∈ mm_words) (hy2 : Cond.code y cc' 1 none ∈ mm_words) (hyn : y.name = "<init>" ∧ y.cls = Cn) (hyd : y.cls ≠ "java/lang/invoke/MethodHandle" ∧ y.cls ≠ "java/lang/invoke/VarHandle" ∧ (parseMethodDescriptor y.desc).map (fun d => d.parameters.length) = some 0)
    (hd1 : decode cc pc = .ok (.new i1, 3)) (hd2 : decode cc (pc + 3) = .ok (.dup, 1)) (hd3 : decode cc (pc + 4) = .ok (.invokespecial i2, 3)) (hst : (st.map fun v => v.category).sum ≤ 7) (hr1 : fr + 1 ≤ R.frames) (hr2 : 8 + (1 + 11) + lo ≤ R.locals) (hc : cells + 1 + mc ≤ R.cells) (hs : slots + N + ms ≤ R.slots)
    (k : ∀ (q : Nat) (u : List Nat), mk_W p l e R s m args below meth c Q D A ls h0 ci (pc + 7) (.ref q :: st) fs (wr ++ cw q u) (cells + 1 + mc) (slots + N + ms)) : mk_W p l e R s m args below meth c Q D A ls h0 ci pc st fs wr cells slots := fun H locs hP hD hS => by
  obtain ⟨hin0, -, -, -, -⟩ := mm_clsOk hcl
  have hts := C.2.2.2.2.2.1
  have hE := C.2.2.2.2.2.2.1
  refine va_new C.1 C.2.1 hts hin0 ty hty C.2.2.2.2.1 (hts _ hl1) (hts _ hin) (hts _ hini) hE.1 hP hD hS C.2.2.2.2.2.2.2.1 hcl hfs (by omega) (by omega) hd1 (fun q H hP hD hS => ?_)
  refine lv_dup C.1 C.2.1 hd2 rfl ?_
  have hFc : ∀ x, va_A [(q, .inr (cj, fs0))] H.size x → A x := by
    rintro x (⟨j, e9, hj⟩ | h)
    · have hz : j < 1 := (List.getElem?_eq_some_iff.mp hj).1
      rw [show j = 0 by omega] at hj
      have h2 := hD.2 (((h0, .inr (ci, fs)) :: wr).length + 0) (q, .inr (cj, fs0)) (by rw [List.getElem?_append_right (by omega), Nat.add_sub_cancel_left]; rfl)
      cases hj
      exact h2
    · exact C.2.2.2.2.2.2.2.1 x (Nat.le_trans hS.1 h)
  have hPc : va_P D vwCl [(q, .inr (cj, fs0))] H := fun j x hj => hP (((h0, .inr (ci, fs)) :: wr).length + j) x (by rw [List.getElem?_append_right (by omega), Nat.add_sub_cancel_left]; exact hj)
  have hG : GoodIn mm_words (Cond.code y cc' 1 none :: mm_words) := fun w hw => by
    rcases List.mem_cons.mp hw with rfl | h1
    · exact mm_good hy2
    · exact mm_good h1
  refine va_callv (va_runIN (As := []) (rest := .ref q :: st) (host := RX10) ⟨C.1, C.2.1, C.2.2.1, C.2.2.2.2.1, hts⟩ (hM q H.size) ⟨va_cnB 0 hts hG rfl rfl rfl (hE.2.1 _ hl2) (by rw [hyn.2]; exact hts _ hini) hyd ⟨hr1, hr2⟩, hyn.1, hts _ hy1⟩ ⟨fun a U g mk q9 => ?_, fun U hU hW => ⟨rfl, by rw [hU], by rw [hU]; exact hPc, hE.warm hW⟩⟩ rfl rfl C.2.2.2.2.2.2.2.2.2.1 rfl (lv_room ?_) hd3 ⟨hc, hs⟩) hS (fun x _ h => hFc x h) hFc (fun u t H1 locs1 ht hvm _ hB hz1 hk1 hS1 => ?_)
  · obtain ⟨a1, a2, a3, a4⟩ := q9
    exact ⟨a1, a2, a3, a4.calling g mk a⟩
  · simp only [List.map_cons, List.sum_cons]
    have : (Value.ref q).category = 1 := rfl
    omega
  · rw [ht] at hB
    obtain ⟨hP2, hD2⟩ := mk_join hP hD hk1 hFc hB.1 hB.2
    exact k q u H1 locs1 hP2 hD2 hS1
end MKC
theorem mk_start {l : Launch} {D : va_G} {G : ClassId × ClassId × ClassId} {y : MethodName} {cc : ByteArray} {fr lo mc ms : Nat} {ci oc : Nat} {fs0 : List Value} {cw : Nat → List Nat → va_W} (hpl : plainName y.cls = true) (hoc : y.cls = mm_own oc) (hyn : y.name = "<init>")
    (k : ∀ (p : Program) (e : Env) (s : State) (m : MethodId) (args : Array Value) (below : List Frame) (meth : Method) (c : Code) (A : Nat → Prop) (ls : Array Slot) (h0 : Nat) (Q : State → Prop), mk_Cx p s m args meth c D G A oc cc h0 ls → (∀ (pc : Nat) (u : List Nat) (fs : List Value) (wr : va_W) (cells slots : Nat), decode cc pc = .ok (.return_, 1) → (h0, .inr (ci, fs)) :: wr = cw h0 u → cells ≤ mc → slots ≤ ms → mk_W p l e { frames := fr, cells := mc, slots := ms, locals := lo } s m args below meth c Q D A ls h0 ci pc [] fs wr cells slots) → mk_W p l e { frames := fr, cells := mc, slots := ms, locals := lo } s m args below meth c Q D A ls h0 ci 0 [] fs0 [] 0 0) : mk_ctor l D G y cc fr lo mc ms ci fs0 cw := by
  intro h0 sz
  refine Met.ofW (cc := cc) (maxL := 1) (ret := none) hpl rfl ?_
  intro p e s m args below meth c s₁ B hml hv
  obtain ⟨rfl, hsz, hP, hE⟩ := hv
  have hts : ∀ w ∈ (Cond.code y cc 1 none :: mm_words), w.before ([Value.ref h0].toArray) s = true := atoms_spec (ws := Cond.code y cc 1 none :: mm_words) B.pre
  have hown : s.vm.findClass y.cls = some m.cls := findClass_of_methodNamed B.named
  have hin : meth.name = "<init>" := (name_of_methodNamed B.named B.method).1.trans hyn
  subst hsz
  have hl := lv_entry ([.ref h0]) (n := 1) (Nat.le_of_ble_eq_true rfl)
  rw [lg_entry_eq]
  generalize (lg_sl ([.ref h0]) ++ List.replicate (1 - (lg_sl ([.ref h0])).length) Slot.unset).toArray = ls at hl ⊢
  have hl : lv_has ls 1 [(0, .ref h0)] := hl
  have hD0 : va_D (va_A [(h0, .inr (ci, fs0))] s.heap.size) [(h0, .inr (ci, fs0))] := ⟨fun i j p q hi hj _ => by
    have h1 : i < 1 := (List.getElem?_eq_some_iff.mp hi).1
    have h2 : j < 1 := (List.getElem?_eq_some_iff.mp hj).1
    omega, fun j q hj => Or.inl ⟨j, q.2, hj⟩⟩
  refine k p e s m _ below meth c (va_A [(h0, .inr (ci, fs0))] s.heap.size) ls h0 _ ⟨B.exec, B.bytes, hml, B.returns, by rw [← hoc]; exact hown, fun w hw => hts w (List.mem_cons_of_mem _ hw), hE, fun q h => Or.inr h, hin, hl⟩ ?_ s.heap [] hP hD0 va_S.rf
  intro pc u fs wr cells slots hd hcw h1 h2 H locs hP hD hS
  refine W.widen (k := mc) (n := ms) h1 h2 ?_
  exact W.vret B.exec B.bytes B.returns (fun t ht hW => ⟨⟨u, rfl, trivial, by rw [ht, ← hcw]; exact hP, by rw [← hcw]; exact hD⟩, hS.F ht⟩) hS.2.2 hd
