/-! THE SMALL MACHINE: a method's blocks as lists of resolved instructions, numbers as Int, objects by number; mm_wp: what must hold ahead of a block so that its end has what is asked. -/
abbrev mmV : Type := Int ⊕ (Int ⊕ Nat)
abbrev mmM : Type := Nat → Int → Int
abbrev mmL : Type := List (Option mmV)
abbrev mmS : Type := List mmV
abbrev mmP : Type := Option mmV → mmM → Prop
abbrev mmT : Type := List mmV → mmM → mmP → Prop
abbrev mmO : Type := Nat × Instr × Nat × Int
abbrev mmK : Type := mmL → mmS → mmM → Prop
abbrev mmJ : Type := Nat → mmL → mmS → mmM → Prop
abbrev vi (x : Int) : mmV := Sum.inl x
abbrev vl (x : Int) : mmV := Sum.inr (Sum.inl x)
abbrev vr (o : Nat) : mmV := Sum.inr (Sum.inr o)
abbrev mm_R (x : Int) : Prop := -2147483648 ≤ x ∧ x ≤ 2147483647
abbrev mm_R64 (x : Int) : Prop := -9223372036854775808 ≤ x ∧ x ≤ 9223372036854775807
/-- memory with one place changed -/
def mm_up (M : mmM) (o : Nat) (i v : Int) : mmM := fun o' i' => if o' = o ∧ i' = i then v else M o' i'
def mm_cpy (M : mmM) (a : Nat) (sp : Int) (b : Nat) (dp n : Int) : mmM := fun o i => if o = b ∧ dp ≤ i ∧ i < dp + n then M a (sp + (i - dp)) else M o i
def mm_wmul (x y : Int) : Int := (Int32.ofInt x * Int32.ofInt y).toInt
def mm_wadd (x y : Int) : Int := (Int32.ofInt x + Int32.ofInt y).toInt
def mm_wsub (x y : Int) : Int := (Int32.ofInt x - Int32.ofInt y).toInt
def mm_and (x y : Int) : Int := (Int32.ofInt x &&& Int32.ofInt y).toInt
def mm_xor (x y : Int) : Int := (Int32.ofInt x ^^^ Int32.ofInt y).toInt
def mm_shr (x y : Int) : Int := (Int32.ofInt x >>> (Int32.ofInt y &&& 31)).toInt
def mm_i2b (x : Int) : Int := ((Int32.ofInt x).toInt8.toInt32).toInt
def mm_lc (x y : Int) : Int := if x < y then -1 else if x = y then 0 else 1
def mm_cmp (c : Jvm.ClassFile.Cond) (x y : Int) : Prop := match c with
  | .eq => x = y
  | .ne => ¬ x = y
  | .lt => x < y
  | .ge => y ≤ x
  | .gt => y < x
  | .le => x ≤ y

def mm_kill (a : Option mmV) : Option mmV := match a with
  | some (.inr (.inl _)) => none
  | a => a
def mm_set1 : mmL → Nat → mmV → mmL
  | [], _, _ => []
  | _ :: t, 0, v => some v :: t
  | a :: t, 1, v => mm_kill a :: mm_set1 t 0 v
  | a :: t, n + 2, v => a :: mm_set1 t (n + 1) v
def mm_set2 : mmL → Nat → mmV → mmL
  | [], _, _ => []
  | [a], _, _ => [a]
  | _ :: _ :: t, 0, v => some v :: none :: t
  | a :: t, 1, v => mm_kill a :: mm_set2 t 0 v
  | a :: t, n + 2, v => a :: mm_set2 t (n + 1) v
def mm_pop (K : List mmV → mmS → Prop) : Nat → List mmV → mmS → Prop
  | 0, acc, S => K acc S
  | _ + 1, _, [] => False
  | n + 1, acc, v :: S => mm_pop K n (v :: acc) S
def mm_cat (v : mmV) : Nat := match v with
  | .inr (.inl _) => 2
  | _ => 1
def mm_cats (S : mmS) : Nat := match S with
  | [] => 0
  | v :: r => mm_cat v + mm_cats r
def mm_find (T : List (Nat × mmT)) (x : Nat) : mmT := match T with
  | [] => fun _ _ _ => False
  | q :: r => if q.1 = x then q.2 else mm_find r x
def mm_push (r : Option mmV) (S : mmS) : mmS := match r with
  | none => S
  | some v => v :: S
def mm_sw (J : Int → Prop) (z d : Int) (ps : List (Int × Int)) : Prop := match ps with
  | [] => J d
  | q :: r => (z = q.1 → J q.2) ∧ (¬ z = q.1 → mm_sw J z d r)
def mm_lda (n : Nat) (K : mmK) : mmK := fun L S M => match L[n]? with
  | some (some (.inr (.inr o))) => K L (vr o :: S) M
  | _ => False
def mm_ldi (n : Nat) (K : mmK) : mmK := fun L S M => match L[n]? with
  | some (some (.inl o)) => K L (vi o :: S) M
  | _ => False
def mm_ldl (n : Nat) (K : mmK) : mmK := fun L S M => match L[n]? with
  | some (some (.inr (.inl o))) => K L (vl o :: S) M
  | _ => False
def mm_sti (n : Nat) (K : mmK) : mmK := fun L S M => match S with
  | .inl x :: S => K (mm_set1 L n (vi x)) S M
  | _ => False
def mm_sta (n : Nat) (K : mmK) : mmK := fun L S M => match S with
  | .inr (.inr x) :: S => K (mm_set1 L n (vr x)) S M
  | _ => False
def mm_stl (n : Nat) (K : mmK) : mmK := fun L S M => match S with
  | .inr (.inl x) :: S => K (mm_set2 L n (vl x)) S M
  | _ => False
def mm_inc (n : Nat) (d : Int) (K : mmK) : mmK := fun L S M => match L[n]? with
  | some (some (.inl x)) => mm_R (x + d) ∧ K (mm_set1 L n (vi (x + d))) S M
  | _ => False
def mm_2i (P : Int → Int → Prop) (f : Int → Int → Int) (K : mmK) : mmK := fun L S M => match S with
  | .inl y :: .inl x :: S => P x y ∧ K L (vi (f x y) :: S) M
  | _ => False
def mm_mm (f : Int → Int → Int) (K : mmK) : mmK := fun L S M => match S with
  | .inl y :: .inl x :: S => mm_cats S ≤ 8 ∧ K L (vi (f x y) :: S) M
  | _ => False
def mm_2l (P : Int → Int → Prop) (f : Int → Int → Int) (K : mmK) : mmK := fun L S M => match S with
  | .inr (.inl y) :: .inr (.inl x) :: S => P x y ∧ K L (vl (f x y) :: S) M
  | _ => False
def mm_lcmp (K : mmK) : mmK := fun L S M => match S with
  | .inr (.inl y) :: .inr (.inl x) :: S => K L (vi (mm_lc x y) :: S) M
  | _ => False
def mm_i2l (K : mmK) : mmK := fun L S M => match S with
  | .inl x :: S => K L (vl x :: S) M
  | _ => False
def mm_l2i (K : mmK) : mmK := fun L S M => match S with
  | .inr (.inl x) :: S => mm_R x ∧ K L (vi x :: S) M
  | _ => False
def mm_cast8 (K : mmK) : mmK := fun L S M => match S with
  | .inl x :: S => K L (vi (mm_i2b x) :: S) M
  | _ => False
def mm_if2 (c : Jvm.ClassFile.Cond) (J K : mmK) : mmK := fun L S M => match S with
  | .inl y :: .inl x :: S => (mm_cmp c x y → J L S M) ∧ (¬ mm_cmp c x y → K L S M)
  | _ => False
def mm_if1 (c : Jvm.ClassFile.Cond) (J K : mmK) : mmK := fun L S M => match S with
  | .inl x :: S => (mm_cmp c x 0 → J L S M) ∧ (¬ mm_cmp c x 0 → K L S M)
  | _ => False
def mm_swi (J : mmJ) (d : Nat) (ps : List (Int × Int)) : mmK := fun L S M => match S with
  | .inl z :: S => mm_sw (fun t => J t.toNat L S M) z d ps
  | _ => False
def mm_pop1 (K : mmK) : mmK := fun L S M => match S with
  | .inl _ :: S => K L S M
  | .inr (.inr _) :: S => K L S M
  | _ => False
def mm_dup (K : mmK) : mmK := fun L S M => match S with
  | .inl x :: S => K L (vi x :: vi x :: S) M
  | .inr (.inr x) :: S => K L (vr x :: vr x :: S) M
  | _ => False
def mm_dup2 (K : mmK) : mmK := fun L S M => match S with
  | .inl x :: .inr (.inr o) :: S => K L (vi x :: vr o :: vi x :: vr o :: S) M
  | .inl x :: .inl o :: S => K L (vi x :: vi o :: vi x :: vi o :: S) M
  | _ => False

/-- the static shape: an object's class (arrays: 100 int, 101 byte, 102 of int arrays) and an array's length; the planner's object is 0, the reference's 62 -/
def mm_tab : List (Nat × Int) := [(10, 0), (3, 0), (101, 600), (4, 0), (100, 60), (100, 32), (100, 32), (100, 60), (2, 0), (100, 25), (100, 25), (100, 25), (100, 25), (4, 0), (100, 60), (100, 32), (100, 32), (100, 60), (2, 0), (100, 25), (100, 25), (100, 25), (100, 25), (7, 0), (100, 64), (100, 8), (1, 0), (5, 0), (100, 25), (9, 0), (100, 6), (6, 0), (100, 25), (100, 25), (102, 5), (100, 26), (100, 26), (100, 26), (100, 26), (100, 26), (9, 0), (100, 6), (8, 0), (5, 0), (100, 25), (9, 0), (100, 6), (0, 0), (100, 12), (102, 12), (100, 4), (100, 4), (100, 4), (100, 4), (100, 4), (100, 4), (100, 4), (100, 4), (100, 4), (100, 4), (100, 4), (100, 4), (11, 0), (101, 600), (100, 60), (100, 32), (100, 32), (100, 100), (100, 60), (100, 32), (100, 32), (100, 96), (100, 60), (100, 64), (100, 8), (100, 25), (100, 125)]
def mm_cls (o : Nat) : Nat := (mm_tab.getD o (999, 0)).1
def mm_len (o : Nat) : Int := (mm_tab.getD o (999, 0)).2
def mm_geti (ci : Nat) (k : Int) (K : mmK) : mmK := fun L S M => match S with
  | .inr (.inr o) :: S => mm_cls o = ci ∧ K L (vi (M o k) :: S) M
  | _ => False
def mm_geta (ci : Nat) (d : Nat) (K : mmK) : mmK := fun L S M => match S with
  | .inr (.inr o) :: S => mm_cls o = ci ∧ K L (vr (o + d) :: S) M
  | _ => False
def mm_puti (ci : Nat) (k : Int) (K : mmK) : mmK := fun L S M => match S with
  | .inl x :: .inr (.inr o) :: S => mm_cls o = ci ∧ K L S (mm_up M o k x)
  | _ => False
def mm_iald (K : mmK) : mmK := fun L S M => match S with
  | .inl i :: .inr (.inr a) :: S => mm_cls a = 100 ∧ (0 ≤ i ∧ i < mm_len a) ∧ K L (vi (M a i) :: S) M
  | _ => False
def mm_bald (K : mmK) : mmK := fun L S M => match S with
  | .inl i :: .inr (.inr a) :: S => mm_cls a = 101 ∧ (0 ≤ i ∧ i < mm_len a) ∧ K L (vi (M a i) :: S) M
  | _ => False
def mm_aald (K : mmK) : mmK := fun L S M => match S with
  | .inl i :: .inr (.inr a) :: S => mm_cls a = 102 ∧ (0 ≤ i ∧ i < mm_len a) ∧ K L (vr (a + 1 + i.toNat) :: S) M
  | _ => False
def mm_iast (K : mmK) : mmK := fun L S M => match S with
  | .inl x :: .inl i :: .inr (.inr a) :: S => mm_cls a = 100 ∧ (0 ≤ i ∧ i < mm_len a) ∧ K L S (mm_up M a i x)
  | _ => False
def mm_bast (K : mmK) : mmK := fun L S M => match S with
  | .inl x :: .inl i :: .inr (.inr a) :: S => mm_cls a = 101 ∧ (0 ≤ i ∧ i < mm_len a) ∧ K L S (mm_up M a i (mm_i2b x))
  | _ => False
def mm_alen (K : mmK) : mmK := fun L S M => match S with
  | .inr (.inr a) :: S => (mm_cls a = 100 ∨ mm_cls a = 101) ∧ K L (vi (mm_len a) :: S) M
  | _ => False
def mm_acpy (K : mmK) : mmK := fun L S M => match S with
  | .inl n :: .inl dp :: .inr (.inr b) :: .inl sp :: .inr (.inr a) :: S => (mm_cls a = 100 ∧ mm_cls b = 100 ∧ ¬ a = b ∧ 0 ≤ n ∧ 0 ≤ sp ∧ sp + n ≤ mm_len a ∧ 0 ≤ dp ∧ dp + n ≤ mm_len b ∧ mm_cats S ≤ 8) ∧ K L S (mm_cpy M a sp b dp n)
  | _ => False
def mm_call (T : List (Nat × mmT)) (x n : Nat) (K : mmK) : mmK := fun L S M => mm_pop (fun as S => mm_cats S ≤ 8 ∧ mm_find T x as M (fun r M => K L (mm_push r S) M)) n [] S
def mm_recv (x : Nat) (as : List mmV) : Prop := match as with
  | .inr (.inr o) :: _ => mm_cls o = x / 100
  | _ => False
def mm_callv (T : List (Nat × mmT)) (x n : Nat) (K : mmK) : mmK := fun L S M => mm_pop (fun as S => mm_recv x as ∧ mm_cats S ≤ 8 ∧ mm_find T x as M (fun r M => K L (mm_push r S) M)) n [] S
def mm_reti (Q : mmP) : mmK := fun _ S M => match S with
  | [.inl x] => Q (some (vi x)) M
  | _ => False
def mm_retz (Q : mmP) : mmK := fun _ S M => match S with
  | [.inl x] => (x = 0 ∨ x = 1) ∧ Q (some (vi x)) M
  | _ => False
def mm_retl (Q : mmP) : mmK := fun _ S M => match S with
  | [.inr (.inl x)] => Q (some (vl x)) M
  | _ => False
def mm_reta (Q : mmP) : mmK := fun _ S M => match S with
  | [.inr (.inr x)] => Q (some (vr x)) M
  | _ => False
def mm_retv (Q : mmP) : mmK := fun _ S M => match S with
  | [] => Q none M
  | _ => False
/-- what must hold ahead of a block; the instruction's name is a tag: iload, lload, aload, istore .. with the index for all forms; iconst: an int constant, bipush: a long one; getfield an int field, getstatic a reference field (x its class, y its place or its distance); fadd Math.max, fsub Math.min, fmul arraycopy; freturn a boolean's return; nop: on to the block there -/
def mm_wp (T : List (Nat × mmT)) (J : mmJ) (Q : mmP) : List mmO → mmK
  | [] => fun _ _ _ => False
  | (pc, i, x, y) :: r => match i with
    | .iload n => mm_ldi n (mm_wp T J Q r)
    | .lload n => mm_ldl n (mm_wp T J Q r)
    | .aload n => mm_lda n (mm_wp T J Q r)
    | .istore n => mm_sti n (mm_wp T J Q r)
    | .lstore n => mm_stl n (mm_wp T J Q r)
    | .astore n => mm_sta n (mm_wp T J Q r)
    | .iinc n d => mm_inc n d (mm_wp T J Q r)
    | .iconst z => fun L S M => mm_wp T J Q r L (vi z :: S) M
    | .bipush z => fun L S M => mm_wp T J Q r L (vl z :: S) M
    | .ldc z => fun L S M => mm_wp T J Q r L (vr (1000 + z) :: S) M
    | .iadd => mm_2i (fun x y => mm_R (x + y)) (fun x y => x + y) (mm_wp T J Q r)
    | .isub => mm_2i (fun x y => mm_R (x - y)) (fun x y => x - y) (mm_wp T J Q r)
    | .imul => mm_2i (fun x y => mm_R (x * y)) (fun x y => x * y) (mm_wp T J Q r)
    | .idiv => mm_2i (fun x y => 0 < y) (fun x y => Int.tdiv x y) (mm_wp T J Q r)
    | .irem => mm_2i (fun x y => 0 < y) (fun x y => Int.tmod x y) (mm_wp T J Q r)
    | .iand => mm_2i (fun _ _ => True) mm_and (mm_wp T J Q r)
    | .fdiv => mm_2i (fun _ _ => True) mm_wmul (mm_wp T J Q r)
    | .frem => mm_2i (fun _ _ => True) mm_wadd (mm_wp T J Q r)
    | .fneg => mm_2i (fun _ _ => True) mm_wsub (mm_wp T J Q r)
    | .ixor => mm_2i (fun _ _ => True) mm_xor (mm_wp T J Q r)
    | .ishr => mm_2i (fun _ _ => True) mm_shr (mm_wp T J Q r)
    | .fadd => mm_mm max (mm_wp T J Q r)
    | .fsub => mm_mm min (mm_wp T J Q r)
    | .ladd => mm_2l (fun x y => mm_R64 (x + y)) (fun x y => x + y) (mm_wp T J Q r)
    | .lsub => mm_2l (fun x y => mm_R64 (x - y)) (fun x y => x - y) (mm_wp T J Q r)
    | .lmul => mm_2l (fun x y => mm_R64 (x * y)) (fun x y => x * y) (mm_wp T J Q r)
    | .ldiv => mm_2l (fun x y => 0 < y) (fun x y => Int.tdiv x y) (mm_wp T J Q r)
    | .lcmp => mm_lcmp (mm_wp T J Q r)
    | .i2l => mm_i2l (mm_wp T J Q r)
    | .l2i => mm_l2i (mm_wp T J Q r)
    | .i2b => mm_cast8 (mm_wp T J Q r)
    | .if_icmp c _ => mm_if2 c (J x) (mm_wp T J Q r)
    | .ifCond c _ => mm_if1 c (J x) (mm_wp T J Q r)
    | .goto _ => J x
    | .nop => J pc
    | .lookupswitch _ ps => mm_swi J x ps.toList
    | .getfield _ => mm_geti x y (mm_wp T J Q r)
    | .getstatic _ => mm_geta x y.toNat (mm_wp T J Q r)
    | .putfield _ => mm_puti x y (mm_wp T J Q r)
    | .iaload => mm_iald (mm_wp T J Q r)
    | .baload => mm_bald (mm_wp T J Q r)
    | .aaload => mm_aald (mm_wp T J Q r)
    | .iastore => mm_iast (mm_wp T J Q r)
    | .bastore => mm_bast (mm_wp T J Q r)
    | .arraylength => mm_alen (mm_wp T J Q r)
    | .fmul => mm_acpy (mm_wp T J Q r)
    | .invokevirtual _ => mm_callv T x y.toNat (mm_wp T J Q r)
    | .invokestatic _ => mm_call T x y.toNat (mm_wp T J Q r)
    | .dup => mm_dup (mm_wp T J Q r)
    | .dup2 => mm_dup2 (mm_wp T J Q r)
    | .pop => mm_pop1 (mm_wp T J Q r)
    | .ireturn => mm_reti Q
    | .freturn => mm_retz Q
    | .lreturn => mm_retl Q
    | .areturn => mm_reta Q
    | .return_ => mm_retv Q
    | _ => fun _ _ _ => False
def mm_lk (l : List (Nat × List mmO)) (b : Nat) : List mmO := match l with
  | [] => []
  | q :: r => cond (Nat.beq q.1 b) q.2 (mm_lk r b)
def mm_ent (as : List mmV) : mmL := match as with
  | [] => []
  | .inr (.inl x) :: r => some (vl x) :: none :: mm_ent r
  | v :: r => some v :: mm_ent r
/-- the locals at a method's start -/
def mm_entry (n : Nat) (as : List mmV) : mmL := mm_ent as ++ List.replicate (n - (mm_ent as).length) none
def mm_vin (v : mmV) : Prop := match v with
  | .inl x => mm_R x
  | .inr (.inl x) => mm_R64 x
  | .inr (.inr _) => True
def mm_mem (M : mmM) : Prop := ∀ o i, mm_R (M o i)
/-- a method's run from its start: whatever is kept by all blocks holds at the first one -/
def mm_ok (B : List (Nat × List mmO)) (T : List (Nat × mmT)) (L : mmL) (M : mmM) (Q : mmP) : Prop :=
  ∀ J : mmJ, (∀ b L S M, mm_wp T J Q (mm_lk B b) L S M → J b L S M) → J 0 L [] M
