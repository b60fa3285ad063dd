/-! a method's blocks, held against the code, and what holds of them by mm_wp holds of the machine -/
def mm_tys (G : ClassId × ClassId × ClassId) : List (ClassId × FieldType) := [(G.1, .int), (G.2.1, .byte), (G.2.2, .array .int)]
def mm_sidx : List (Nat × String) := [(66, "row"), (74, "set"), (79, "ask"), (123, "at"), (129, "sum"), (131, "unlike"), (133, "often"), (135, "which"), (137, "powe\x72"), (139, "missing"), (141, "parts"), (143, "pairs")]
/-- what holds of the tables and of the texts, all along -/
def mm_E (D : va_G) (ad : Nat → Nat) (G : ClassId × ClassId × ClassId) (X : State → Prop) (U : State) : Prop := va_K D vwCl (mm_tys G) U ∧ (∀ q ∈ mm_nestF, va_Nw (.fieldLinkNest q.1 q.2.1 q.2.2.1 q.2.2.2.1 q.2.2.2.2 RX10) U) ∧ (∀ q ∈ mm_nestM, va_Nw (.methodLinkNest q.1 q.2.1 q.2.2 RX10) U) ∧ (∀ (j : Nat) (q : Nat × String), mm_sidx[j]? = some q → vk_R RX3 q.1 q.2 (ad (1000 + j)) U) ∧ X U
/-- a word on the state that stays: over a call, and while nothing outside the cells changes -/
def mm_XOk (ad : Nat → Nat) (X : State → Prop) : Prop := (∀ s U : State, s.WarmedH U.vm → (∀ q : Nat, q < s.heap.size → ¬ mm_A ad q → U.heap[q]? = s.heap[q]?) → X s → X U) ∧ ∀ u U : State, U.vm = u.vm → U.heap = u.heap → X u → X U
theorem mm_E.to {D : va_G} {ad : Nat → Nat} {G : ClassId × ClassId × ClassId} {X : State → Prop} (hX : mm_XOk ad X) {s U : State} (h : mm_E D ad G X s) (hW : s.WarmedH U.vm) (hh : ∀ q : Nat, q < s.heap.size → ¬ mm_A ad q → U.heap[q]? = s.heap[q]?) : mm_E D ad G X U :=
  ⟨va_K.moved hW.alike h.1, fun q hq => va_Nw.warmF hW (h.2.1 q hq), fun q hq => va_Nw.warmM hW (h.2.2.1 q hq), fun j q hq => vk_R.warm hW (h.2.2.2.1 j q hq), hX.1 s U hW hh h.2.2.2.2⟩
theorem mm_E.calling {D : va_G} {ad : Nat → Nat} {G : ClassId × ClassId × ClassId} {X : State → Prop} (hX : mm_XOk ad X) {U : State} (h : mm_E D ad G X U) (g : JFrame) (mk : MethodId) (a : Array Value) : mm_E D ad G X (U.calling g mk a) :=
  ⟨va_K.moved (u := U) (U := U.calling g mk a) (Vm.Alike.refl U.vm) h.1, fun q hq => va_Nw.same (u := U) rfl rfl (h.2.1 q hq), fun q hq => va_Nw.same (u := U) rfl rfl (h.2.2.1 q hq), fun j q hq => vk_R.same (u := U) rfl (h.2.2.2.1 j q hq), hX.2 U (U.calling g mk a) rfl rfl h.2.2.2.2⟩
def mm_Qc (D : va_G) (ad : Nat → Nat) (G : ClassId × ClassId × ClassId) (Q : mmP) : Array Value → State → Outcome → State → Prop := fun _ st o t => (∃ (r : Option mmV) (M : mmM), o = .returned (r.map (mm_val ad)) ∧ Q r M ∧ (∀ v, r = some v → mm_vin v) ∧ mm_mem M ∧ va_P D vwCl (mm_ws ad G M) t.heap) ∧ va_F (mm_A ad) st t
def mm_Pc (D : va_G) (ad : Nat → Nat) (G : ClassId × ClassId × ClassId) (X : State → Prop) (as : List mmV) (M : mmM) : Array Value → State → Prop := va_Pc (as.map (mm_val ad)) (fun U => va_P D vwCl (mm_ws ad G M) U.heap ∧ mm_E D ad G X U)
def mm_rm (r : mmRec) : Room := { frames := r.2.2.2.2.2.2.1, cells := 0, slots := 0, locals := r.2.2.2.2.2.2.2.1 }
def mm_rws (r : mmRec) : List Cond := Cond.code r.1 r.2.1 r.2.2.1 r.2.2.2.1 :: mm_words
def mm_met (l : Launch) (D : va_G) (ad : Nat → Nat) (G : ClassId × ClassId × ClassId) (X : State → Prop) (r : mmRec) (as : List mmV) (M : mmM) (Q : mmP) : Prop := Met l r.1 (mm_rws r) (mm_rm r) (mm_Pc D ad G X as M) (mm_Qc D ad G Q) 0 0 (mm_A ad)
/-- the method x does what t says -/
def mm_snd (l : Launch) (D : va_G) (ad : Nat → Nat) (G : ClassId × ClassId × ClassId) (X : State → Prop) (x : Nat) (t : mmT) : Prop := ∀ r, mm_rlk mm_recs x = some r → ∀ as M Q, (∀ v ∈ as, mm_vin v) → mm_mem M → t as M Q → mm_met l D ad G X r as M Q
/-- the ways in which an instruction may be written -/
def mm_exp (pc : Nat) (i : Instr) (x : Nat) : List (Instr × Nat) := match i with
  | .iload n => (.iload n, 2) :: (if h : n < 4 then [(.iload_n ⟨n, h⟩, 1)] else [])
  | .lload n => (.lload n, 2) :: (if h : n < 4 then [(.lload_n ⟨n, h⟩, 1)] else [])
  | .aload n => (.aload n, 2) :: (if h : n < 4 then [(.aload_n ⟨n, h⟩, 1)] else [])
  | .istore n => (.istore n, 2) :: (if h : n < 4 then [(.istore_n ⟨n, h⟩, 1)] else [])
  | .lstore n => (.lstore n, 2) :: (if h : n < 4 then [(.lstore_n ⟨n, h⟩, 1)] else [])
  | .astore n => (.astore n, 2) :: (if h : n < 4 then [(.astore_n ⟨n, h⟩, 1)] else [])
  | .iinc n d => [(.iinc n d, 3)]
  | .iconst z => [(.iconst z, 1), (.bipush z, 2), (.sipush z, 3), (.ldc x, 2), (.ldc_w x, 3)]
  | .bipush z => [(.ldc2_w x, 3)] ++ (if z = 0 then [(.lconst 0, 1)] else if z = 1 then [(.lconst 1, 1)] else [])
  | .ldc j => [(.ldc ((mm_sidx.getD j (0, "")).1), 2)]
  | .if_icmp c _ => [(.if_icmp c ((x : Int) - pc), 3)]
  | .ifCond c _ => [(.ifCond c ((x : Int) - pc), 3)]
  | .goto _ => [(.goto ((x : Int) - pc), 3)]
  | .lookupswitch _ ps => [(.tableswitch ((x : Int) - pc) ((ps.toList.headD (0, 0)).1) ((ps.toList.headD (0, 0)).1 + ps.toList.length - 1) ((ps.toList.map (fun q => q.2 - (pc : Int))).toArray), 1 + (3 - pc % 4) + 12 + 4 * ps.toList.length)]
  | .getfield n => [(.getfield n, 3)]
  | .getstatic n => [(.getfield n, 3)]
  | .putfield n => [(.putfield n, 3)]
  | .invokevirtual n => [(.invokevirtual n, 3)]
  | .invokestatic n => [(.invokestatic n, 3)]
  | .fadd => [(.invokestatic x, 3)]
  | .fsub => [(.invokestatic x, 3)]
  | .fmul => [(.invokestatic x, 3)]
  | .freturn => [(.ireturn, 1)]
  | .fdiv => [(.imul, 1)]
  | .frem => [(.iadd, 1)]
  | .fneg => [(.isub, 1)]
  | i => [(i, 1)]
def mm_term (i : Instr) : Bool := match i with
  | .goto _ | .nop | .lookupswitch _ _ | .ireturn | .freturn | .lreturn | .areturn | .return_ => true
  | _ => false
def mm_hd (ops : List mmO) : Nat := match ops with
  | [] => 0
  | q :: _ => q.1
def mm_inR (z : Int) : Bool := decide (-2147483648 ≤ z) && decide (z ≤ 2147483647)
/-- the switch's cases are the numbers from the first on -/
def mm_seq (lo : Int) (ps : List (Int × Int)) : Bool := match ps with
  | [] => true
  | q :: r => decide (q.1 = lo) && decide (0 ≤ q.2) && mm_seq (lo + 1) r
def mm_side (oc maxL : Nat) (ret : Option FieldType) (fr lo : Nat) (d : Instr × Nat) (i : Instr) (x : Nat) (y : Int) : Bool := match i with
  | .istore n => decide (n < maxL)
  | .astore n => decide (n < maxL)
  | .lstore n => decide (n + 1 < maxL)
  | .iinc n e => decide (n < maxL) && mm_inR e
  | .iconst z => mm_inR z && (match d.1 with
    | .iconst _ => true
    | .bipush _ => decide (-128 ≤ z) && decide (z ≤ 127)
    | .sipush _ => decide (-32768 ≤ z) && decide (z ≤ 32767)
    | _ => mm_ints.contains (oc, x, z))
  | .bipush z => (decide (-9223372036854775808 ≤ z) && decide (z ≤ 9223372036854775807)) && (match d.1 with
    | .lconst _ => true
    | _ => mm_longs.contains (oc, x, z))
  | .ldc j => decide (j < 12) && decide (oc = 3)
  | .lookupswitch _ ps => mm_seq ((ps.toList.headD (0, 0)).1) ps.toList && decide (0 < ps.toList.length)
  | .getfield n => decide (0 ≤ y) && decide (x < 12) && decide ((mm_ft x)[y.toNat]? = some none) && (mm_flds.contains (oc, n, x, y.toNat, false) || mm_flds.contains (oc, n, x, y.toNat, true))
  | .putfield n => decide (0 ≤ y) && decide (x < 12) && decide ((mm_ft x)[y.toNat]? = some none) && (mm_flds.contains (oc, n, x, y.toNat, false) || mm_flds.contains (oc, n, x, y.toNat, true))
  | .getstatic n => decide (x < 12) && (List.range (mm_ft x).length).any (fun k => decide ((mm_ft x)[k]? = some (some y.toNat)) && (mm_flds.contains (oc, n, x, k, false) || mm_flds.contains (oc, n, x, k, true)))
  | .invokevirtual n => mm_sites.contains (oc, n, x, false) && decide (x / 100 < 12) && (match mm_rlk mm_recs x with
    | some r => !r.2.2.2.2.1 && decide (y = r.2.2.2.2.2.1 + 1) && decide (r.2.2.2.2.2.2.1 + 1 ≤ fr) && decide (8 + (r.2.2.1 + 11) + r.2.2.2.2.2.2.2.1 ≤ lo) && decide (r.2.2.2.2.2.2.2.2 = x / 100)
    | none => false)
  | .invokestatic n => (mm_sites.contains (oc, n, x, false) || mm_sites.contains (oc, n, x, true)) && (match mm_rlk mm_recs x with
    | some r => r.2.2.2.2.1 && decide (y = r.2.2.2.2.2.1) && decide (r.2.2.2.2.2.2.1 + 1 ≤ fr) && decide (8 + (r.2.2.1 + 11) + r.2.2.2.2.2.2.2.1 ≤ lo)
    | none => false)
  | .fadd => mm_maxs.contains (oc, x) && decide (1 ≤ fr) && decide (21 ≤ lo)
  | .fsub => mm_mins.contains (oc, x) && decide (1 ≤ fr) && decide (21 ≤ lo)
  | .fmul => mm_cpys.contains (oc, x) && decide (1 ≤ fr) && decide (26 ≤ lo)
  | .ireturn => decide (ret = some .int)
  | .freturn => decide (ret = some .boolean)
  | .lreturn => decide (ret = some .long)
  | .areturn => decide (ret = some (.array .int))
  | .return_ => decide (ret = none)
  | _ => true
def mm_chk (cc : ByteArray) (oc maxL : Nat) (ret : Option FieldType) (fr lo : Nat) : List mmO → Bool
  | [] => true
  | (pc, i, x, y) :: r => decide (i = .nop) || ((match decode cc pc with
    | .ok d => (mm_exp pc i x).any (fun a => decide (d = a)) && (mm_term i || decide (mm_hd r = pc + d.2)) && mm_side oc maxL ret fr lo d i x y
    | .error _ => false) && (mm_term i || mm_chk cc oc maxL ret fr lo r))
def mm_chkB (r : mmRec) (B : List (Nat × List mmO)) : Bool := B.all (fun q => decide (mm_hd q.2 = q.1) && mm_chk r.2.1 r.2.2.2.2.2.2.2.2 r.2.2.1 r.2.2.2.1 r.2.2.2.2.2.2.1 r.2.2.2.2.2.2.2.1 q.2)
theorem mm_ck_ints {e : Nat × Nat × Int} (h : mm_ints.contains e = true) : Cond.constant (mm_own e.1) e.2.1 (Int32.ofInt e.2.2) ∈ mm_words := mm_ints_ok e (by simpa using h)
