/-! the JDK's length() and charAt() over the twelve texts -/
def js_byt : List (List Int32) := [[114, 111, 119], [115, 101, 116], [97, 115, 107], [97, 116], [115, 117, 109], [117, 110, 108, 105, 107, 101], [111, 102, 116, 101, 110], [119, 104, 105, 99, 104], [112, 111, 119, 101, 114], [109, 105, 115, 115, 105, 110, 103], [112, 97, 114, 116, 115], [112, 97, 105, 114, 115]]
def js_len : List Nat := [3, 3, 3, 2, 3, 6, 5, 5, 5, 7, 5, 5]
def js_X (A : Nat → Prop) (adK adV : Nat → Nat) (U : State) : Prop := va_Z RJ0 "COMPACT_STRINGS" "Z" (.int 1) A U U.heap ∧ va_Zq RJ3 "SIOOBE_FORMATTER" "Ljava/util/function/BiFunction;" A U U.heap ∧ vk_S 12 js_len js_byt adK adV A U U.heap
theorem js_X.narrow {A B : Nat → Prop} {adK adV : Nat → Nat} {U : State} (h : js_X A adK adV U) (hAB : ∀ q, B q → A q) : js_X B adK adV U := ⟨h.1.narrow hAB, h.2.1.narrow hAB, h.2.2.narrow hAB⟩
theorem js_X.same {A : Nat → Prop} {adK adV : Nat → Nat} {u U : State} (hv : u.vm.Alike U.vm) (hh : ∀ q : Nat, q < u.heap.size → ¬ A q → U.heap[q]? = u.heap[q]?) (h : js_X A adK adV u) : js_X A adK adV U := ⟨va_Z.moved hv (h.1.kept hh), va_Zq.moved hv (h.2.1.kept hh), vk_S.moved hv (h.2.2.kept hh)⟩
abbrev js_no : Nat → Prop := fun _ => False
theorem js_all : ∀ i, i < 12 → js_len.getD i 0 = (js_byt.getD i []).length ∧ js_len.getD i 0 < 100 ∧ ∀ k, k < js_len.getD i 0 → (((js_byt.getD i []).getD k 0 &&& 255).toUInt32 % 65536).toInt32 = (js_byt.getD i []).getD k 0 ∧ narrow .char (.int ((js_byt.getD i []).getD k 0)) = .int ((js_byt.getD i []).getD k 0) := by decide +kernel
def js_met (l : Launch) (adK adV : Nat → Nat) (y : MethodName) (cc : ByteArray) (maxL : Nat) (ret : Option FieldType) (fr lo : Nat) (av : List Value) (r : Int32) : Prop := Met l y (Cond.code y cc maxL ret :: mm_words) { frames := fr, cells := 0, slots := 0, locals := lo } (va_Pc av (fun U => js_X js_no adK adV U)) (va_Qi (fun r' (_ : Unit) => r' = r) (fun _ _ => True) js_no) 0 0 js_no
def js_metV (l : Launch) (adK adV : Nat → Nat) (y : MethodName) (cc : ByteArray) (maxL : Nat) (ret : Option FieldType) (fr lo : Nat) (av : List Value) : Prop := Met l y (Cond.code y cc maxL ret :: mm_words) { frames := fr, cells := 0, slots := 0, locals := lo } (va_Pc av (fun U => js_X js_no adK adV U)) (va_Qv (fun (_ : Unit) => True) (fun _ _ => True) js_no) 0 0 js_no
def js_Cx (p : Program) (s : State) (m : MethodId) (args : Array Value) (meth : Method) (c : Code) (adK adV : Nat → Nat) (own : String) (cc : ByteArray) (maxL : Nat) (ret : Option FieldType) : Prop := p.tables.exec = Jvm.exec ∧ c.code = cc ∧ c.maxLocals = maxL ∧ meth.sig.returnType = ret ∧ meth.locks = false ∧ s.vm.findClass own = some m.cls ∧ (∀ w ∈ mm_words, w.before args s = true) ∧ js_X js_no adK adV s
theorem js_start {l : Launch} {adK adV : Nat → Nat} {y : MethodName} {cc : ByteArray} {maxL : Nat} {ret : Option FieldType} {fr lo : Nat} {av : List Value} {Qc : Array Value → State → Outcome → State → Prop} (hpl : plainName y.cls = true) (hlen : (lg_sl av).length ≤ maxL)
    (k : ∀ (p : Program) (e : Env) (s : State) (m : MethodId) (below : List Frame) (meth : Method) (c : Code) (ls : Array Slot), js_Cx p s m av.toArray meth c adK adV y.cls cc maxL ret → lv_has ls maxL (lv_args 0 av) → W p l e { frames := fr, cells := 0, slots := 0, locals := lo } s m av.toArray below meth c s.heap [] 0 0 (MQ below Qc av.toArray s 0 0 js_no) (F0 m 0 ls [])) : Met l y (Cond.code y cc maxL ret :: mm_words) { frames := fr, cells := 0, slots := 0, locals := lo } (va_Pc av (fun U => js_X js_no adK adV U)) Qc 0 0 js_no := by
  refine Met.ofW (cc := cc) (maxL := maxL) (ret := ret) hpl rfl ?_
  intro p e s m args below meth c s₁ B hml hv
  obtain ⟨rfl, hX⟩ := hv
  have hts : ∀ w ∈ (Cond.code y cc maxL ret :: mm_words), w.before av.toArray s = true := atoms_spec (ws := Cond.code y cc maxL ret :: mm_words) B.pre
  have hl := lv_entry av (n := maxL) hlen
  rw [lg_entry_eq]
  generalize (lg_sl av ++ List.replicate (maxL - (lg_sl av).length) Slot.unset).toArray = ls at hl ⊢
  exact k p e s m below meth c ls ⟨B.exec, B.bytes, hml, B.returns, B.notSynchronized, findClass_of_methodNamed B.named, fun w hw => hts w (List.mem_cons_of_mem _ hw), hX⟩ hl
section JSC
variable {p : Program} {l : Launch} {e : Env} {R : Room} {s : State} {m : MethodId} {args : Array Value} {below : List Frame} {meth : Method} {c : Code} {Q : State → Prop} {A : Nat → Prop} {ls : Array Slot} {cc : ByteArray} {pc : Nat} {adK adV : Nat → Nat} {own : String} {maxL : Nat} {ret : Option FieldType} {H : Heap} {locs : List Loc} {cells slots : Nat}
theorem js_blind {av : List Value} : FrameBlind (va_Pc av (fun U => js_X js_no adK adV U)) := fun a U g mk q => ⟨q.1, js_X.same (u := U) (U := U.calling g mk a) (Vm.Alike.refl U.vm) (fun _ _ _ => rfl) q.2⟩
theorem js_good {y : MethodName} {cc' : ByteArray} {maxL' : Nat} {ret' : Option FieldType} (h : Cond.code y cc' maxL' ret' ∈ mm_words) : GoodIn mm_words (Cond.code y cc' maxL' ret' :: mm_words) := fun w hw => by
  rcases List.mem_cons.mp hw with rfl | h1
  · exact mm_good h
  · exact mm_good h1
/-- a call of a method of a text -/
theorem js_callV (hx : p.tables.exec = Jvm.exec) (hb : c.code = cc) (hml : c.maxLocals = maxL) (hown : s.vm.findClass own = some m.cls) (hts : ∀ w ∈ mm_words, w.before args s = true) (hX : js_X A adK adV s) (hS : va_S A s.heap H locs) (hsz : ls.size = maxL) {y : MethodName} {cc' : ByteArray} {maxL' : Nat} {ret' : Option FieldType} {fr lo n index j : Nat} {As rest : List Value} {r : Int32} (hj : j < 12) (hM : js_met l adK adV y cc' maxL' ret' fr lo (.ref (adK j) :: As) r) (hyc : y.cls = RJ0) (hc : Cond.code y cc' maxL' ret' ∈ mm_words) (hl : Cond.methodLink own index y ∈ mm_words) (hi : Cond.instanceMethod y ∈ mm_words) (hv : Cond.selects RJ0 y y ∈ mm_words) (hd : (parseMethodDescriptor y.desc).map (fun d => d.parameters.length) = some n) (hn : As.length = n) (hr1 : fr + 1 ≤ R.frames) (hr2 : 8 + (maxL' + 11) + lo ≤ R.locals) (hst : (rest.map fun v => v.category).sum ≤ 8) (hcs : cells ≤ R.cells ∧ slots ≤ R.slots) (hdg : decode cc pc = .ok (.invokevirtual index, 3))
    (kk : ∀ (H1 : Heap) (locs1 : List Loc), (∀ q : Nat, q < H.size → H1[q]? = H[q]?) → va_S A s.heap H1 locs1 → W p l e R s m args below meth c H1 locs1 cells slots Q (F0 m (pc + 3) ls (.int r :: rest))) : W p l e R s m args below meth c H locs cells slots Q (F0 m pc ls (As.reverse ++ .ref (adK j) :: rest)) := by
  have hG : GoodIn mm_words (wsV own index RJ0 y (Cond.code y cc' maxL' ret' :: mm_words)) := by
    intro w hw
    unfold wsV at hw
    rcases List.mem_append.mp hw with h7 | h7
    · simp only [List.mem_cons, List.not_mem_nil, or_false] at h7
      rcases h7 with rfl | rfl | rfl | rfl
      · exact mm_good hl
      · exact mm_good hi
      · exact mm_good hv
      · exact mm_good jn_RJ0
    · exact js_good hc w h7
  refine va_calli (va_runV (n := n) ⟨hx, hb, hml, hown, hts⟩ hM (cwV n hts hG rfl rfl rfl ⟨hyc, by rw [hyc]; decide +kernel, by rw [hyc]; decide +kernel, hd⟩ ⟨hr1, hr2⟩) ⟨js_blind, vk_recv hX.2.2 hj hS, fun U hU hW => ⟨rfl, (js_X.same hW.alike (fun q h1 h2 => by rw [hU]; exact hS.2.1 q h1 h2) hX).narrow (fun _ h => h.elim)⟩⟩ rfl hn hsz rfl (lv_room hst) hdg hcs) hS (fun q _ h => h.elim) (fun q h => h.elim) (fun r' u t H1 locs1 ht hvm hr hB hz hk hS1 => ?_)
  subst hr
  exact kk H1 locs1 (fun q hq => hk q hq (fun h => h)) hS1
theorem js_callS (hx : p.tables.exec = Jvm.exec) (hb : c.code = cc) (hml : c.maxLocals = maxL) (hown : s.vm.findClass own = some m.cls) (hts : ∀ w ∈ mm_words, w.before args s = true) (hX : js_X js_no adK adV s) (hS : va_S js_no s.heap H locs) (hsz : ls.size = maxL) {y : MethodName} {cc' : ByteArray} {maxL' : Nat} {ret' : Option FieldType} {fr lo n index : Nat} {As rest : List Value} {r : Int32} (hM : js_met l adK adV y cc' maxL' ret' fr lo As r) (hc : Cond.code y cc' maxL' ret' ∈ mm_words) (hl : Cond.methodLink own index y ∈ mm_words) (hi : Cond.static y ∈ mm_words) (hv : Cond.initialized y.cls ∈ mm_words) (hd : y.cls ≠ "java/lang/invoke/MethodHandle" ∧ y.cls ≠ "java/lang/invoke/VarHandle" ∧ (parseMethodDescriptor y.desc).map (fun d => d.parameters.length) = some n) (hn : As.length = n) (hr1 : fr + 1 ≤ R.frames) (hr2 : 8 + (maxL' + 11) + lo ≤ R.locals) (hst : (rest.map fun v => v.category).sum ≤ 8) (hcs : cells ≤ R.cells ∧ slots ≤ R.slots) (hdg : decode cc pc = .ok (.invokestatic index, 3))
    (kk : ∀ (H1 : Heap) (locs1 : List Loc), va_S js_no s.heap H1 locs1 → W p l e R s m args below meth c H1 locs1 cells slots Q (F0 m (pc + 3) ls (.int r :: rest))) : W p l e R s m args below meth c H locs cells slots Q (F0 m pc ls (As.reverse ++ rest)) := by
  refine va_calli (va_runS (n := n) ⟨hx, hb, hml, hown, hts⟩ hM ⟨callB_of n hts (js_good hc) rfl rfl rfl (hts _ hv) (hts _ hl) hd ⟨hr1, hr2⟩, hts _ hi⟩ ⟨js_blind, fun U hU hW => ⟨rfl, js_X.same hW.alike (fun q h1 h2 => by rw [hU]; exact hS.2.1 q h1 h2) hX⟩⟩ rfl hn hsz rfl (lv_room hst) hdg hcs) hS (fun q _ h => h.elim) (fun q h => h.elim) (fun r' u t H1 locs1 ht hvm hr hB hz hk hS1 => ?_)
  subst hr
  exact kk H1 locs1 hS1
theorem js_callSV (hx : p.tables.exec = Jvm.exec) (hb : c.code = cc) (hml : c.maxLocals = maxL) (hown : s.vm.findClass own = some m.cls) (hts : ∀ w ∈ mm_words, w.before args s = true) (hX : js_X js_no adK adV s) (hS : va_S js_no s.heap H locs) (hsz : ls.size = maxL) {y : MethodName} {cc' : ByteArray} {maxL' : Nat} {ret' : Option FieldType} {fr lo n index : Nat} {As rest : List Value} (hM : js_metV l adK adV y cc' maxL' ret' fr lo As) (hc : Cond.code y cc' maxL' ret' ∈ mm_words) (hl : Cond.methodLink own index y ∈ mm_words) (hi : Cond.static y ∈ mm_words) (hv : Cond.initialized y.cls ∈ mm_words) (hd : y.cls ≠ "java/lang/invoke/MethodHandle" ∧ y.cls ≠ "java/lang/invoke/VarHandle" ∧ (parseMethodDescriptor y.desc).map (fun d => d.parameters.length) = some n) (hn : As.length = n) (hr1 : fr + 1 ≤ R.frames) (hr2 : 8 + (maxL' + 11) + lo ≤ R.locals) (hst : (rest.map fun v => v.category).sum ≤ 8) (hcs : cells ≤ R.cells ∧ slots ≤ R.slots) (hdg : decode cc pc = .ok (.invokestatic index, 3))
    (kk : ∀ (H1 : Heap) (locs1 : List Loc), va_S js_no s.heap H1 locs1 → W p l e R s m args below meth c H1 locs1 cells slots Q (F0 m (pc + 3) ls rest)) : W p l e R s m args below meth c H locs cells slots Q (F0 m pc ls (As.reverse ++ rest)) := by
  refine va_callv (va_runS (n := n) ⟨hx, hb, hml, hown, hts⟩ hM ⟨callB_of n hts (js_good hc) rfl rfl rfl (hts _ hv) (hts _ hl) hd ⟨hr1, hr2⟩, hts _ hi⟩ ⟨js_blind, fun U hU hW => ⟨rfl, js_X.same hW.alike (fun q h1 h2 => by rw [hU]; exact hS.2.1 q h1 h2) hX⟩⟩ rfl hn hsz rfl (lv_room hst) hdg hcs) hS (fun q _ h => h.elim) (fun q h => h.elim) (fun u t H1 locs1 ht hvm hr hB hz hk hS1 => ?_)
  exact kk H1 locs1 hS1
theorem js_ret {r : Int32} {ty : FieldType} (C : js_Cx p s m args meth c adK adV own cc maxL (some ty)) (hn : narrow ty (.int r) = .int r) (hS : va_S js_no s.heap H locs) (hd : decode cc pc = .ok (.ireturn, 1)) : W p l e R s m args below meth c H locs 0 0 (MQ below (va_Qi (fun r' (_ : Unit) => r' = r) (fun _ _ => True) js_no) args s 0 0 js_no) (F0 m pc ls [.int r]) := by
  have hlocks := C.2.2.2.2.1
  exact W.zret C.1 C.2.1 C.2.2.2.1 hn (fun t ht hW => ⟨⟨r, (), rfl, rfl, trivial⟩, hS.F ht⟩) hS.2.2 hd
end JSC
theorem jm_cod (l : Launch) (adK adV : Nat → Nat) {j : Nat} (hj : j < 12) : js_met l adK adV yJ0_coder_7d493 cJ0_coder_7d493 1 (some .byte) 0 0 [.ref (adK j)] 0 := by
  refine js_start (by decide +kernel) (Nat.le_of_ble_eq_true rfl) (fun p e s m below meth c ls C hl => ?_)
  have hl : lv_has ls 1 [(0, .ref (adK j))] := hl
  have hX := C.2.2.2.2.2.2.2
  have hts := C.2.2.2.2.2.2.1
  have hS : va_S js_no s.heap s.heap [] := va_S.rf
  refine va_gets C.1 C.2.1 hX.1 hS C.2.2.2.2.2.1 (hts _ jf_cs) (fun _ h => h) (show decode cJ0_coder_7d493 0 = .ok (.getstatic 38, 3) by decide +kernel) ?_
  refine lv_if_eq (tgt := 13) C.1 C.2.1 (show decode cJ0_coder_7d493 3 = .ok (.ifCond .eq 10, 3) by decide +kernel) (by decide) (fun h => absurd h (by decide)) (fun _ => ?_)
  refine lv_aload_n C.1 C.2.1 (show decode cJ0_coder_7d493 6 = .ok (.aload_n 0, 1) by decide +kernel) rfl (lv_at hl 0 rfl) ?_
  refine vk_getf C.1 C.2.1 (hX.2.2.1 j hj).2.1 hS C.2.2.2.2.2.1 (hts _ jf_co) (fun _ h => h) (show decode cJ0_coder_7d493 7 = .ok (.getfield 15, 3) by decide +kernel) ?_
  refine lv_goto (tgt := 14) C.1 C.2.1 (show decode cJ0_coder_7d493 10 = .ok (.goto 4, 3) by decide +kernel) (by decide) ?_
  exact js_ret C rfl hS (by decide +kernel)
theorem jm_lat (l : Launch) (adK adV : Nat → Nat) {j : Nat} (hj : j < 12) : js_met l adK adV yJ0_isLatin1_aae02 cJ0_isLatin1_aae02 1 (some .boolean) 0 0 [.ref (adK j)] 1 := by
  refine js_start (by decide +kernel) (Nat.le_of_ble_eq_true rfl) (fun p e s m below meth c ls C hl => ?_)
  have hl : lv_has ls 1 [(0, .ref (adK j))] := hl
  have hX := C.2.2.2.2.2.2.2
  have hts := C.2.2.2.2.2.2.1
  have hS : va_S js_no s.heap s.heap [] := va_S.rf
  refine va_gets C.1 C.2.1 hX.1 hS C.2.2.2.2.2.1 (hts _ jf_cs) (fun _ h => h) (show decode cJ0_isLatin1_aae02 0 = .ok (.getstatic 38, 3) by decide +kernel) ?_
  refine lv_if_eq (tgt := 17) C.1 C.2.1 (show decode cJ0_isLatin1_aae02 3 = .ok (.ifCond .eq 14, 3) by decide +kernel) (by decide) (fun h => absurd h (by decide)) (fun _ => ?_)
  refine lv_aload_n C.1 C.2.1 (show decode cJ0_isLatin1_aae02 6 = .ok (.aload_n 0, 1) by decide +kernel) rfl (lv_at hl 0 rfl) ?_
  refine vk_getf C.1 C.2.1 (hX.2.2.1 j hj).2.1 hS C.2.2.2.2.2.1 (hts _ jf_co) (fun _ h => h) (show decode cJ0_isLatin1_aae02 7 = .ok (.getfield 15, 3) by decide +kernel) ?_
  refine lv_if_ne (tgt := 17) C.1 C.2.1 (show decode cJ0_isLatin1_aae02 10 = .ok (.ifCond .ne 7, 3) by decide +kernel) (by decide) (fun h => absurd rfl h) (fun _ => ?_)
  refine lv_iconst (v := 1) C.1 C.2.1 (show decode cJ0_isLatin1_aae02 13 = .ok (.iconst 1, 1) by decide +kernel) (by decide) ?_
  refine lv_goto (tgt := 18) C.1 C.2.1 (show decode cJ0_isLatin1_aae02 14 = .ok (.goto 4, 3) by decide +kernel) (by decide) ?_
  exact js_ret C rfl hS (by decide +kernel)
theorem jm_len (l : Launch) (adK adV : Nat → Nat) {j : Nat} (hj : j < 12) : js_met l adK adV yJ0_length_8abf5 cJ0_length_8abf5 1 (some .int) 1 20 [.ref (adK j)] (Int32.ofNat (js_len.getD j 0)) := by
  refine js_start (by decide +kernel) (Nat.le_of_ble_eq_true rfl) (fun p e s m below meth c ls C hl => ?_)
  have hl : lv_has ls 1 [(0, .ref (adK j))] := hl
  have hX := C.2.2.2.2.2.2.2
  have hts := C.2.2.2.2.2.2.1
  have hS : va_S js_no s.heap s.heap [] := va_S.rf
  refine lv_aload_n C.1 C.2.1 (show decode cJ0_length_8abf5 0 = .ok (.aload_n 0, 1) by decide +kernel) rfl (lv_at hl 0 rfl) ?_
  refine vk_getf C.1 C.2.1 (hX.2.2.1 j hj).2.2.1 hS C.2.2.2.2.2.1 (hts _ jf_va) (fun _ h => h) (show decode cJ0_length_8abf5 1 = .ok (.getfield 9, 3) by decide +kernel) ?_
  refine va_tlen C.1 C.2.1 (hX.2.2.1 j hj).2.2.2 hS rfl (show decode cJ0_length_8abf5 4 = .ok (.arraylength, 1) by decide +kernel) ?_
  refine lv_aload_n C.1 C.2.1 (show decode cJ0_length_8abf5 5 = .ok (.aload_n 0, 1) by decide +kernel) rfl (lv_at hl 0 rfl) ?_
  refine js_callV (As := []) C.1 C.2.1 C.2.2.1 C.2.2.2.2.2.1 hts hX hS hl.1 hj (jm_cod l adK adV hj) rfl jc_cod jl_lencod ji_cod jv_cod (by decide +kernel) rfl (Nat.le_of_ble_eq_true rfl) (Nat.le_of_ble_eq_true rfl) (Nat.le_of_ble_eq_true rfl) ⟨Nat.le_refl _, Nat.le_refl _⟩ (show decode cJ0_length_8abf5 6 = .ok (.invokevirtual 335, 3) by decide +kernel) (fun H1 locs1 _ hS => ?_)
  refine lv_ishr C.1 C.2.1 (show decode cJ0_length_8abf5 9 = .ok (.ishr, 1) by decide +kernel) ?_
  rw [show Int32.ofNat (js_len.getD j 0) >>> ((0 : Int32) &&& 31) = Int32.ofNat (js_len.getD j 0) from (show ∀ i, i < 12 → Int32.ofNat (js_len.getD i 0) >>> ((0 : Int32) &&& 31) = Int32.ofNat (js_len.getD i 0) by decide +kernel) j hj]
  exact js_ret C rfl hS (by decide +kernel)
theorem jm_pre (l : Launch) (adK adV : Nat → Nat) {v : Value} {i n : Int32} (h0 : ¬ i < 0) (h1 : i < n) (hv : (lg_sl [.int i, .int n, v]).length ≤ 3) : js_met l adK adV yJ3_checkIndex_8e157 cJ3_checkIndex_8e157 3 (some .int) 0 0 [.int i, .int n, v] i := by
  refine js_start (by decide +kernel) hv (fun p e s m below meth c ls C hl => ?_)
  have hl : lv_has ls 3 [(0, .int i), (1, .int n), (2, v)] := hl
  have hS : va_S js_no s.heap s.heap [] := va_S.rf
  refine lv_iload_n C.1 C.2.1 (show decode cJ3_checkIndex_8e157 0 = .ok (.iload_n 0, 1) by decide +kernel) rfl (lv_at hl 0 rfl) ?_
  refine lv_if_lt (tgt := 9) C.1 C.2.1 (show decode cJ3_checkIndex_8e157 1 = .ok (.ifCond .lt 8, 3) by decide +kernel) (by decide) (fun h => absurd h h0) (fun _ => ?_)
  refine lv_iload_n C.1 C.2.1 (show decode cJ3_checkIndex_8e157 4 = .ok (.iload_n 0, 1) by decide +kernel) rfl (lv_at hl 0 rfl) ?_
  refine lv_iload_n C.1 C.2.1 (show decode cJ3_checkIndex_8e157 5 = .ok (.iload_n 1, 1) by decide +kernel) rfl (lv_at hl 1 rfl) ?_
  refine lv_icmp_lt (tgt := 16) C.1 C.2.1 (show decode cJ3_checkIndex_8e157 6 = .ok (.if_icmp .lt 10, 3) by decide +kernel) (by decide) (fun _ => ?_) (fun h => absurd h1 h)
  refine lv_iload_n C.1 C.2.1 (show decode cJ3_checkIndex_8e157 16 = .ok (.iload_n 0, 1) by decide +kernel) rfl (lv_at hl 0 rfl) ?_
  exact js_ret C rfl hS (by decide +kernel)
theorem jm_chk (l : Launch) (adK adV : Nat → Nat) {i n : Int32} (h0 : ¬ i < 0) (h1 : i < n) : js_metV l adK adV yJ0_checkIndex_df160 cJ0_checkIndex_df160 2 none 1 22 [.int i, .int n] := by
  refine js_start (by decide +kernel) (Nat.le_of_ble_eq_true rfl) (fun p e s m below meth c ls C hl => ?_)
  have hl : lv_has ls 2 [(0, .int i), (1, .int n)] := hl
  have hX := C.2.2.2.2.2.2.2
  have hts := C.2.2.2.2.2.2.1
  have hS : va_S js_no s.heap s.heap [] := va_S.rf
  refine lv_iload_n C.1 C.2.1 (show decode cJ0_checkIndex_df160 0 = .ok (.iload_n 0, 1) by decide +kernel) rfl (lv_at hl 0 rfl) ?_
  refine lv_iload_n C.1 C.2.1 (show decode cJ0_checkIndex_df160 1 = .ok (.iload_n 1, 1) by decide +kernel) rfl (lv_at hl 1 rfl) ?_
  have key : ∀ v : Value, va_Z RJ3 "SIOOBE_FORMATTER" "Ljava/util/function/BiFunction;" v js_no s s.heap → (lg_sl [.int i, .int n, v]).length ≤ 3 → W p l e { frames := 1, cells := 0, slots := 0, locals := 22 } s m ([.int i, .int n] : List Value).toArray below meth c s.heap [] 0 0 (MQ below (va_Qv (fun (_ : Unit) => True) (fun _ _ => True) js_no) ([.int i, .int n] : List Value).toArray s 0 0 js_no) (F0 m 2 ls [.int n, .int i]) := by
    intro v hZ hv
    refine va_gets C.1 C.2.1 hZ hS C.2.2.2.2.2.1 (hts _ jf_si) (fun _ h => h) (show decode cJ0_checkIndex_df160 2 = .ok (.getstatic 1053, 3) by decide +kernel) ?_
    refine js_callS (n := 3) (As := [.int i, .int n, v]) (rest := []) C.1 C.2.1 C.2.2.1 C.2.2.2.2.2.1 hts hX hS hl.1 (jm_pre l adK adV h0 h1 hv) jc_pre jl_chkpre js_pre jn_RJ3 ⟨by decide +kernel, by decide +kernel, by decide +kernel⟩ rfl (Nat.le_of_ble_eq_true rfl) (Nat.le_of_ble_eq_true rfl) (Nat.le_of_ble_eq_true rfl) ⟨Nat.le_refl _, Nat.le_refl _⟩ (show decode cJ0_checkIndex_df160 5 = .ok (.invokestatic 1059, 3) by decide +kernel) (fun H1 locs1 hS => ?_)
    refine lv_pop C.1 C.2.1 (show decode cJ0_checkIndex_df160 8 = .ok (.pop, 1) by decide +kernel) rfl ?_
    have hlocks := C.2.2.2.2.1
    exact W.vret C.1 C.2.1 C.2.2.2.1 (fun t ht hW => ⟨⟨(), rfl, trivial, trivial⟩, hS.F ht⟩) hS.2.2 (show decode cJ0_checkIndex_df160 9 = .ok (.return_, 1) by decide +kernel)
  rcases hX.2.1 with h | ⟨t, h⟩
  · exact key _ h (Nat.le_of_ble_eq_true rfl)
  · exact key _ h (Nat.le_of_ble_eq_true rfl)
theorem jm_l1 (l : Launch) (adK adV : Nat → Nat) {j k : Nat} (hj : j < 12) (hk : k < js_len.getD j 0) : js_met l adK adV yJ1_charAt_3b067 cJ1_charAt_3b067 2 (some .char) 2 43 [.ref (adV j), .int (nI k)] ((js_byt.getD j []).getD k 0) := by
  obtain ⟨hL1, hL2, hL3⟩ := js_all j hj
  obtain ⟨hc1, hc2⟩ := hL3 k hk
  refine js_start (by decide +kernel) (Nat.le_of_ble_eq_true rfl) (fun p e s m below meth c ls C hl => ?_)
  have hl : lv_has ls 2 [(0, .ref (adV j)), (1, .int (nI k))] := hl
  have hX := C.2.2.2.2.2.2.2
  have hts := C.2.2.2.2.2.2.1
  have hS : va_S js_no s.heap s.heap [] := va_S.rf
  have hT := (hX.2.2.1 j hj).2.2.2
  refine lv_iload_n C.1 C.2.1 (show decode cJ1_charAt_3b067 0 = .ok (.iload_n 1, 1) by decide +kernel) rfl (lv_at hl 1 rfl) ?_
  refine lv_aload_n C.1 C.2.1 (show decode cJ1_charAt_3b067 1 = .ok (.aload_n 0, 1) by decide +kernel) rfl (lv_at hl 0 rfl) ?_
  refine va_tlen (v := nI (js_len.getD j 0)) C.1 C.2.1 hT hS rfl (show decode cJ1_charAt_3b067 2 = .ok (.arraylength, 1) by decide +kernel) ?_
  refine js_callSV (n := 2) (As := [.int (nI k), .int (nI (js_len.getD j 0))]) (rest := []) C.1 C.2.1 C.2.2.1 C.2.2.2.2.2.1 hts hX hS hl.1 (jm_chk l adK adV (nI_pos (by omega)) (nI_lt hk (by omega))) jc_chk jl_l1chk js_chk jn_RJ0 ⟨by decide +kernel, by decide +kernel, by decide +kernel⟩ rfl (Nat.le_of_ble_eq_true rfl) (Nat.le_of_ble_eq_true rfl) (Nat.le_of_ble_eq_true rfl) ⟨Nat.le_refl _, Nat.le_refl _⟩ (show decode cJ1_charAt_3b067 3 = .ok (.invokestatic 9, 3) by decide +kernel) (fun H1 locs1 hS => ?_)
  refine lv_aload_n C.1 C.2.1 (show decode cJ1_charAt_3b067 6 = .ok (.aload_n 0, 1) by decide +kernel) rfl (lv_at hl 0 rfl) ?_
  refine lv_iload_n C.1 C.2.1 (show decode cJ1_charAt_3b067 7 = .ok (.iload_n 1, 1) by decide +kernel) rfl (lv_at hl 1 rfl) ?_
  refine va_tb (v := .int ((js_byt.getD j []).getD k 0)) C.1 C.2.1 hT hS (vp_in_nI hk (by omega)) (by rw [nI_clamp (by omega)]) (show decode cJ1_charAt_3b067 8 = .ok (.baload, 1) by decide +kernel) ?_
  refine lv_sipush (v := 255) C.1 C.2.1 (show decode cJ1_charAt_3b067 9 = .ok (.sipush 255, 3) by decide +kernel) (by decide +kernel) ?_
  refine lv_iand C.1 C.2.1 (show decode cJ1_charAt_3b067 12 = .ok (.iand, 1) by decide +kernel) ?_
  refine lv_i2c C.1 C.2.1 (show decode cJ1_charAt_3b067 13 = .ok (.i2c, 1) by decide +kernel) hc1 ?_
  exact js_ret C hc2 hS (by decide +kernel)
theorem jm_cha (l : Launch) (adK adV : Nat → Nat) {j k : Nat} (hj : j < 12) (hk : k < js_len.getD j 0) : js_met l adK adV yJ0_charAt_5068e cJ0_charAt_5068e 2 (some .char) 3 64 [.ref (adK j), .int (nI k)] ((js_byt.getD j []).getD k 0) := by
  obtain ⟨hL1, hL2, hL3⟩ := js_all j hj
  obtain ⟨hc1, hc2⟩ := hL3 k hk
  refine js_start (by decide +kernel) (Nat.le_of_ble_eq_true rfl) (fun p e s m below meth c ls C hl => ?_)
  have hl : lv_has ls 2 [(0, .ref (adK j)), (1, .int (nI k))] := hl
  have hX := C.2.2.2.2.2.2.2
  have hts := C.2.2.2.2.2.2.1
  have hS : va_S js_no s.heap s.heap [] := va_S.rf
  refine lv_aload_n C.1 C.2.1 (show decode cJ0_charAt_5068e 0 = .ok (.aload_n 0, 1) by decide +kernel) rfl (lv_at hl 0 rfl) ?_
  refine js_callV (As := []) (rest := []) C.1 C.2.1 C.2.2.1 C.2.2.2.2.2.1 hts hX hS hl.1 hj (jm_lat l adK adV hj) rfl jc_lat jl_chalat ji_lat jv_lat (by decide +kernel) rfl (Nat.le_of_ble_eq_true rfl) (Nat.le_of_ble_eq_true rfl) (Nat.le_of_ble_eq_true rfl) ⟨Nat.le_refl _, Nat.le_refl _⟩ (show decode cJ0_charAt_5068e 1 = .ok (.invokevirtual 492, 3) by decide +kernel) (fun H1 locs1 _ hS => ?_)
  refine lv_if_eq (tgt := 16) C.1 C.2.1 (show decode cJ0_charAt_5068e 4 = .ok (.ifCond .eq 12, 3) by decide +kernel) (by decide) (fun h => absurd h (by decide)) (fun _ => ?_)
  refine lv_aload_n C.1 C.2.1 (show decode cJ0_charAt_5068e 7 = .ok (.aload_n 0, 1) by decide +kernel) rfl (lv_at hl 0 rfl) ?_
  refine vk_getf C.1 C.2.1 (hX.2.2.1 j hj).2.2.1 hS C.2.2.2.2.2.1 (hts _ jf_va) (fun _ h => h) (show decode cJ0_charAt_5068e 8 = .ok (.getfield 9, 3) by decide +kernel) ?_
  refine lv_iload_n C.1 C.2.1 (show decode cJ0_charAt_5068e 11 = .ok (.iload_n 1, 1) by decide +kernel) rfl (lv_at hl 1 rfl) ?_
  refine js_callS (n := 2) (As := [.ref (adV j), .int (nI k)]) (rest := []) C.1 C.2.1 C.2.2.1 C.2.2.2.2.2.1 hts hX hS hl.1 (jm_l1 l adK adV hj hk) jc_l1 jl_chal1 js_l1 jn_RJ1 ⟨by decide +kernel, by decide +kernel, by decide +kernel⟩ rfl (Nat.le_of_ble_eq_true rfl) (Nat.le_of_ble_eq_true rfl) (Nat.le_of_ble_eq_true rfl) ⟨Nat.le_refl _, Nat.le_refl _⟩ (show decode cJ0_charAt_5068e 12 = .ok (.invokestatic 495, 3) by decide +kernel) (fun H1 locs1 hS => ?_)
  exact js_ret C hc2 hS (by decide +kernel)
