section
/-! THE SMALL MACHINE: a method's blocks as lists of resolved instructions, numbers as Int, objects by number; mm_wp: what must hold ahead of a block so that its end has what is asked. -/
abbrev mmV : Type := Int ⊕ (Int ⊕ Nat)
abbrev mmM : Type := Nat → Int → Int
abbrev mmL : Type := List (Option mmV)
abbrev mmS : Type := List mmV
abbrev mmP : Type := Option mmV → mmM → Prop
abbrev mmT : Type := List mmV → mmM → mmP → Prop
abbrev mmO : Type := Nat × Instr × Nat × Int
abbrev mmK : Type := mmL → mmS → mmM → Prop
abbrev mmJ : Type := Nat → mmL → mmS → mmM → Prop
abbrev vi (x : Int) : mmV := Sum.inl x
abbrev vl (x : Int) : mmV := Sum.inr (Sum.inl x)
abbrev vr (o : Nat) : mmV := Sum.inr (Sum.inr o)
abbrev mm_R (x : Int) : Prop := -2147483648 ≤ x ∧ x ≤ 2147483647
abbrev mm_R64 (x : Int) : Prop := -9223372036854775808 ≤ x ∧ x ≤ 9223372036854775807
/-- memory with one place changed -/
def mm_up (M : mmM) (o : Nat) (i v : Int) : mmM := fun o' i' => if o' = o ∧ i' = i then v else M o' i'
def mm_cpy (M : mmM) (a : Nat) (sp : Int) (b : Nat) (dp n : Int) : mmM := fun o i => if o = b ∧ dp ≤ i ∧ i < dp + n then M a (sp + (i - dp)) else M o i
def mm_and (x y : Int) : Int := (Int32.ofInt x &&& Int32.ofInt y).toInt
def mm_xor (x y : Int) : Int := (Int32.ofInt x ^^^ Int32.ofInt y).toInt
def mm_shr (x y : Int) : Int := (Int32.ofInt x >>> (Int32.ofInt y &&& 31)).toInt
def mm_i2b (x : Int) : Int := ((Int32.ofInt x).toInt8.toInt32).toInt
def mm_lc (x y : Int) : Int := if x < y then -1 else if x = y then 0 else 1
def mm_cmp (c : Jvm.ClassFile.Cond) (x y : Int) : Prop := match c with
  | .eq => x = y
  | .ne => ¬ x = y
  | .lt => x < y
  | .ge => y ≤ x
  | .gt => y < x
  | .le => x ≤ y

def mm_kill (a : Option mmV) : Option mmV := match a with
  | some (.inr (.inl _)) => none
  | a => a
def mm_set1 : mmL → Nat → mmV → mmL
  | [], _, _ => []
  | _ :: t, 0, v => some v :: t
  | a :: t, 1, v => mm_kill a :: mm_set1 t 0 v
  | a :: t, n + 2, v => a :: mm_set1 t (n + 1) v
def mm_set2 : mmL → Nat → mmV → mmL
  | [], _, _ => []
  | [a], _, _ => [a]
  | _ :: _ :: t, 0, v => some v :: none :: t
  | a :: t, 1, v => mm_kill a :: mm_set2 t 0 v
  | a :: t, n + 2, v => a :: mm_set2 t (n + 1) v
def mm_pop (K : List mmV → mmS → Prop) : Nat → List mmV → mmS → Prop
  | 0, acc, S => K acc S
  | _ + 1, _, [] => False
  | n + 1, acc, v :: S => mm_pop K n (v :: acc) S
def mm_cat (v : mmV) : Nat := match v with
  | .inr (.inl _) => 2
  | _ => 1
def mm_cats (S : mmS) : Nat := match S with
  | [] => 0
  | v :: r => mm_cat v + mm_cats r
def mm_find (T : List (Nat × mmT)) (x : Nat) : mmT := match T with
  | [] => fun _ _ _ => False
  | q :: r => if q.1 = x then q.2 else mm_find r x
def mm_push (r : Option mmV) (S : mmS) : mmS := match r with
  | none => S
  | some v => v :: S
def mm_sw (J : Int → Prop) (z d : Int) (ps : List (Int × Int)) : Prop := match ps with
  | [] => J d
  | q :: r => (z = q.1 → J q.2) ∧ (¬ z = q.1 → mm_sw J z d r)
def mm_lda (n : Nat) (K : mmK) : mmK := fun L S M => match L[n]? with
  | some (some (.inr (.inr o))) => K L (vr o :: S) M
  | _ => False
def mm_ldi (n : Nat) (K : mmK) : mmK := fun L S M => match L[n]? with
  | some (some (.inl o)) => K L (vi o :: S) M
  | _ => False
def mm_ldl (n : Nat) (K : mmK) : mmK := fun L S M => match L[n]? with
  | some (some (.inr (.inl o))) => K L (vl o :: S) M
  | _ => False
def mm_sti (n : Nat) (K : mmK) : mmK := fun L S M => match S with
  | .inl x :: S => K (mm_set1 L n (vi x)) S M
  | _ => False
def mm_sta (n : Nat) (K : mmK) : mmK := fun L S M => match S with
  | .inr (.inr x) :: S => K (mm_set1 L n (vr x)) S M
  | _ => False
def mm_stl (n : Nat) (K : mmK) : mmK := fun L S M => match S with
  | .inr (.inl x) :: S => K (mm_set2 L n (vl x)) S M
  | _ => False
def mm_inc (n : Nat) (d : Int) (K : mmK) : mmK := fun L S M => match L[n]? with
  | some (some (.inl x)) => mm_R (x + d) ∧ K (mm_set1 L n (vi (x + d))) S M
  | _ => False
def mm_2i (P : Int → Int → Prop) (f : Int → Int → Int) (K : mmK) : mmK := fun L S M => match S with
  | .inl y :: .inl x :: S => P x y ∧ K L (vi (f x y) :: S) M
  | _ => False
def mm_2l (P : Int → Int → Prop) (f : Int → Int → Int) (K : mmK) : mmK := fun L S M => match S with
  | .inr (.inl y) :: .inr (.inl x) :: S => P x y ∧ K L (vl (f x y) :: S) M
  | _ => False
def mm_lcmp (K : mmK) : mmK := fun L S M => match S with
  | .inr (.inl y) :: .inr (.inl x) :: S => K L (vi (mm_lc x y) :: S) M
  | _ => False
def mm_i2l (K : mmK) : mmK := fun L S M => match S with
  | .inl x :: S => K L (vl x :: S) M
  | _ => False
def mm_l2i (K : mmK) : mmK := fun L S M => match S with
  | .inr (.inl x) :: S => mm_R x ∧ K L (vi x :: S) M
  | _ => False
def mm_cast8 (K : mmK) : mmK := fun L S M => match S with
  | .inl x :: S => K L (vi (mm_i2b x) :: S) M
  | _ => False
def mm_if2 (c : Jvm.ClassFile.Cond) (J K : mmK) : mmK := fun L S M => match S with
  | .inl y :: .inl x :: S => (mm_cmp c x y → J L S M) ∧ (¬ mm_cmp c x y → K L S M)
  | _ => False
def mm_if1 (c : Jvm.ClassFile.Cond) (J K : mmK) : mmK := fun L S M => match S with
  | .inl x :: S => (mm_cmp c x 0 → J L S M) ∧ (¬ mm_cmp c x 0 → K L S M)
  | _ => False
def mm_swi (J : mmJ) (d : Nat) (ps : List (Int × Int)) : mmK := fun L S M => match S with
  | .inl z :: S => mm_sw (fun t => J t.toNat L S M) z d ps
  | _ => False
def mm_pop1 (K : mmK) : mmK := fun L S M => match S with
  | .inl _ :: S => K L S M
  | .inr (.inr _) :: S => K L S M
  | _ => False
def mm_dup (K : mmK) : mmK := fun L S M => match S with
  | .inl x :: S => K L (vi x :: vi x :: S) M
  | .inr (.inr x) :: S => K L (vr x :: vr x :: S) M
  | _ => False
def mm_dup2 (K : mmK) : mmK := fun L S M => match S with
  | .inl x :: .inr (.inr o) :: S => K L (vi x :: vr o :: vi x :: vr o :: S) M
  | .inl x :: .inl o :: S => K L (vi x :: vi o :: vi x :: vi o :: S) M
  | _ => False

/-- the static shape: an object's class (arrays: 100 int, 101 byte, 102 of int arrays) and an array's length; the planner's object is 0, the reference's 62 -/
def mm_tab : List (Nat × Int) := [(10, 0), (3, 0), (101, 600), (4, 0), (100, 60), (100, 32), (100, 32), (100, 60), (2, 0), (100, 25), (100, 25), (100, 25), (100, 25), (4, 0), (100, 60), (100, 32), (100, 32), (100, 60), (2, 0), (100, 25), (100, 25), (100, 25), (100, 25), (7, 0), (100, 64), (100, 8), (1, 0), (5, 0), (100, 25), (9, 0), (100, 6), (6, 0), (100, 25), (100, 25), (102, 5), (100, 26), (100, 26), (100, 26), (100, 26), (100, 26), (9, 0), (100, 6), (8, 0), (5, 0), (100, 25), (9, 0), (100, 6), (0, 0), (100, 12), (102, 12), (100, 4), (100, 4), (100, 4), (100, 4), (100, 4), (100, 4), (100, 4), (100, 4), (100, 4), (100, 4), (100, 4), (100, 4), (11, 0), (101, 600), (100, 60), (100, 32), (100, 32), (100, 100), (100, 60), (100, 32), (100, 32), (100, 96), (100, 60), (100, 64), (100, 8), (100, 25), (100, 125)]
def mm_cls (o : Nat) : Nat := (mm_tab.getD o (999, 0)).1
def mm_len (o : Nat) : Int := (mm_tab.getD o (999, 0)).2
def mm_geti (ci : Nat) (k : Int) (K : mmK) : mmK := fun L S M => match S with
  | .inr (.inr o) :: S => mm_cls o = ci ∧ K L (vi (M o k) :: S) M
  | _ => False
def mm_geta (ci : Nat) (d : Nat) (K : mmK) : mmK := fun L S M => match S with
  | .inr (.inr o) :: S => mm_cls o = ci ∧ K L (vr (o + d) :: S) M
  | _ => False
def mm_puti (ci : Nat) (k : Int) (K : mmK) : mmK := fun L S M => match S with
  | .inl x :: .inr (.inr o) :: S => mm_cls o = ci ∧ K L S (mm_up M o k x)
  | _ => False
def mm_iald (K : mmK) : mmK := fun L S M => match S with
  | .inl i :: .inr (.inr a) :: S => mm_cls a = 100 ∧ (0 ≤ i ∧ i < mm_len a) ∧ K L (vi (M a i) :: S) M
  | _ => False
def mm_bald (K : mmK) : mmK := fun L S M => match S with
  | .inl i :: .inr (.inr a) :: S => mm_cls a = 101 ∧ (0 ≤ i ∧ i < mm_len a) ∧ K L (vi (M a i) :: S) M
  | _ => False
def mm_aald (K : mmK) : mmK := fun L S M => match S with
  | .inl i :: .inr (.inr a) :: S => mm_cls a = 102 ∧ (0 ≤ i ∧ i < mm_len a) ∧ K L (vr (a + 1 + i.toNat) :: S) M
  | _ => False
def mm_iast (K : mmK) : mmK := fun L S M => match S with
  | .inl x :: .inl i :: .inr (.inr a) :: S => mm_cls a = 100 ∧ (0 ≤ i ∧ i < mm_len a) ∧ K L S (mm_up M a i x)
  | _ => False
def mm_bast (K : mmK) : mmK := fun L S M => match S with
  | .inl x :: .inl i :: .inr (.inr a) :: S => mm_cls a = 101 ∧ (0 ≤ i ∧ i < mm_len a) ∧ K L S (mm_up M a i (mm_i2b x))
  | _ => False
def mm_alen (K : mmK) : mmK := fun L S M => match S with
  | .inr (.inr a) :: S => (mm_cls a = 100 ∨ mm_cls a = 101) ∧ K L (vi (mm_len a) :: S) M
  | _ => False
def mm_acpy (K : mmK) : mmK := fun L S M => match S with
  | .inl n :: .inl dp :: .inr (.inr b) :: .inl sp :: .inr (.inr a) :: S => (mm_cls a = 100 ∧ mm_cls b = 100 ∧ ¬ a = b ∧ 0 ≤ n ∧ 0 ≤ sp ∧ sp + n ≤ mm_len a ∧ 0 ≤ dp ∧ dp + n ≤ mm_len b) ∧ K L S (mm_cpy M a sp b dp n)
  | _ => False
def mm_call (T : List (Nat × mmT)) (x n : Nat) (K : mmK) : mmK := fun L S M => mm_pop (fun as S => mm_cats S ≤ 8 ∧ mm_find T x as M (fun r M => K L (mm_push r S) M)) n [] S
def mm_reti (Q : mmP) : mmK := fun _ S M => match S with
  | [.inl x] => Q (some (vi x)) M
  | _ => False
def mm_retz (Q : mmP) : mmK := fun _ S M => match S with
  | [.inl x] => (x = 0 ∨ x = 1) ∧ Q (some (vi x)) M
  | _ => False
def mm_retl (Q : mmP) : mmK := fun _ S M => match S with
  | [.inr (.inl x)] => Q (some (vl x)) M
  | _ => False
def mm_reta (Q : mmP) : mmK := fun _ S M => match S with
  | [.inr (.inr x)] => Q (some (vr x)) M
  | _ => False
/-- what must hold ahead of a block; the instruction's name is a tag: iload, lload, aload, istore .. with the index for all forms; iconst: an int constant, bipush: a long one; getfield an int field, getstatic a reference field (x its class, y its place or its distance); fadd Math.max, fsub Math.min, fmul arraycopy; freturn a boolean's return; nop: on to the block there -/
def mm_wp (T : List (Nat × mmT)) (J : mmJ) (Q : mmP) : List mmO → mmK
  | [] => fun _ _ _ => False
  | (pc, i, x, y) :: r => match i with
    | .iload n => mm_ldi n (mm_wp T J Q r)
    | .lload n => mm_ldl n (mm_wp T J Q r)
    | .aload n => mm_lda n (mm_wp T J Q r)
    | .istore n => mm_sti n (mm_wp T J Q r)
    | .lstore n => mm_stl n (mm_wp T J Q r)
    | .astore n => mm_sta n (mm_wp T J Q r)
    | .iinc n d => mm_inc n d (mm_wp T J Q r)
    | .iconst z => fun L S M => mm_wp T J Q r L (vi z :: S) M
    | .bipush z => fun L S M => mm_wp T J Q r L (vl z :: S) M
    | .ldc z => fun L S M => mm_wp T J Q r L (vr (1000 + z) :: S) M
    | .iadd => mm_2i (fun x y => mm_R (x + y)) (fun x y => x + y) (mm_wp T J Q r)
    | .isub => mm_2i (fun x y => mm_R (x - y)) (fun x y => x - y) (mm_wp T J Q r)
    | .imul => mm_2i (fun x y => mm_R (x * y)) (fun x y => x * y) (mm_wp T J Q r)
    | .idiv => mm_2i (fun x y => 0 < y) (fun x y => Int.tdiv x y) (mm_wp T J Q r)
    | .irem => mm_2i (fun x y => 0 < y) (fun x y => Int.tmod x y) (mm_wp T J Q r)
    | .iand => mm_2i (fun _ _ => True) mm_and (mm_wp T J Q r)
    | .ixor => mm_2i (fun _ _ => True) mm_xor (mm_wp T J Q r)
    | .ishr => mm_2i (fun _ _ => True) mm_shr (mm_wp T J Q r)
    | .fadd => mm_2i (fun _ _ => True) max (mm_wp T J Q r)
    | .fsub => mm_2i (fun _ _ => True) min (mm_wp T J Q r)
    | .ladd => mm_2l (fun x y => mm_R64 (x + y)) (fun x y => x + y) (mm_wp T J Q r)
    | .lsub => mm_2l (fun x y => mm_R64 (x - y)) (fun x y => x - y) (mm_wp T J Q r)
    | .lmul => mm_2l (fun x y => mm_R64 (x * y)) (fun x y => x * y) (mm_wp T J Q r)
    | .ldiv => mm_2l (fun x y => 0 < y) (fun x y => Int.tdiv x y) (mm_wp T J Q r)
    | .lcmp => mm_lcmp (mm_wp T J Q r)
    | .i2l => mm_i2l (mm_wp T J Q r)
    | .l2i => mm_l2i (mm_wp T J Q r)
    | .i2b => mm_cast8 (mm_wp T J Q r)
    | .if_icmp c _ => mm_if2 c (J x) (mm_wp T J Q r)
    | .ifCond c _ => mm_if1 c (J x) (mm_wp T J Q r)
    | .goto _ => J x
    | .nop => J pc
    | .lookupswitch _ ps => mm_swi J x ps.toList
    | .getfield _ => mm_geti x y (mm_wp T J Q r)
    | .getstatic _ => mm_geta x y.toNat (mm_wp T J Q r)
    | .putfield _ => mm_puti x y (mm_wp T J Q r)
    | .iaload => mm_iald (mm_wp T J Q r)
    | .baload => mm_bald (mm_wp T J Q r)
    | .aaload => mm_aald (mm_wp T J Q r)
    | .iastore => mm_iast (mm_wp T J Q r)
    | .bastore => mm_bast (mm_wp T J Q r)
    | .arraylength => mm_alen (mm_wp T J Q r)
    | .fmul => mm_acpy (mm_wp T J Q r)
    | .invokevirtual _ => mm_call T x y.toNat (mm_wp T J Q r)
    | .invokestatic _ => mm_call T x y.toNat (mm_wp T J Q r)
    | .dup => mm_dup (mm_wp T J Q r)
    | .dup2 => mm_dup2 (mm_wp T J Q r)
    | .pop => mm_pop1 (mm_wp T J Q r)
    | .ireturn => mm_reti Q
    | .freturn => mm_retz Q
    | .lreturn => mm_retl Q
    | .areturn => mm_reta Q
    | .return_ => fun _ _ M => Q none M
    | _ => fun _ _ _ => False
/-- a method's run from its start: whatever is kept by all blocks holds at the first one -/
def mm_ok (B : Nat → List mmO) (T : List (Nat × mmT)) (L : mmL) (M : mmM) (Q : mmP) : Prop :=
  ∀ J : mmJ, (∀ b L S M, mm_wp T J Q (B b) L S M → J b L S M) → J 0 L [] M
end
section
/-! the blocks of every method, written by a program out of the listing: pc, instruction, two numbers -/
abbrev mo_Acts_note_0 : List mmO := [(0, .aload 0, 0, 0), (1, .getstatic 9, 0, 1), (4, .aload 0, 0, 0), (5, .getfield 20, 0, 3), (8, .iload 1, 0, 0), (9, .iastore, 0, 0), (10, .aload 0, 0, 0), (11, .getstatic 17, 0, 2), (14, .aload 0, 0, 0), (15, .getfield 20, 0, 3), (18, .aaload, 0, 0), (19, .astore 6, 0, 0), (21, .aload 6, 0, 0), (23, .iconst (0), 0, 0), (24, .iload 2, 0, 0), (25, .iastore, 0, 0), (26, .aload 6, 0, 0), (28, .iconst (1), 0, 0), (29, .iload 3, 0, 0), (30, .iastore, 0, 0), (31, .aload 6, 0, 0), (33, .iconst (2), 0, 0), (34, .iload 4, 0, 0), (36, .iastore, 0, 0), (37, .aload 6, 0, 0), (39, .iconst (3), 0, 0), (40, .iload 5, 0, 0), (42, .iastore, 0, 0), (43, .aload 0, 0, 0), (44, .aload 0, 0, 0), (45, .getfield 20, 0, 3), (48, .iconst (1), 0, 0), (49, .iadd, 0, 0), (50, .iconst (12), 0, 0), (52, .irem, 0, 0), (53, .putfield 20, 0, 3), (56, .aload 0, 0, 0), (57, .aload 0, 0, 0), (58, .getfield 24, 0, 2), (61, .iconst (1), 0, 0), (62, .iadd, 0, 0), (63, .iconst (12), 0, 0), (65, .fsub, 0, 0), (68, .putfield 24, 0, 2), (71, .return_, 0, 0)]
def mb_Acts_note : Nat → List mmO := fun b => match b with
  | 0 => mo_Acts_note_0
  | _ => []
abbrev mo_Acts_takeLast_0 : List mmO := [(0, .aload 0, 0, 0), (1, .getfield 24, 0, 2), (4, .ifCond .ne 0, 9, 0), (7, .iconst (-1), 0, 0), (8, .ireturn, 0, 0)]
abbrev mo_Acts_takeLast_9 : List mmO := [(9, .aload 0, 0, 0), (10, .dup, 0, 0), (11, .getfield 24, 0, 2), (14, .iconst (1), 0, 0), (15, .isub, 0, 0), (16, .putfield 24, 0, 2), (19, .aload 0, 0, 0), (20, .aload 0, 0, 0), (21, .getfield 20, 0, 3), (24, .iconst (12), 0, 0), (26, .iadd, 0, 0), (27, .iconst (1), 0, 0), (28, .isub, 0, 0), (29, .iconst (12), 0, 0), (31, .irem, 0, 0), (32, .putfield 20, 0, 3), (35, .aload 0, 0, 0), (36, .getfield 20, 0, 3), (39, .ireturn, 0, 0)]
def mb_Acts_takeLast : Nat → List mmO := fun b => match b with
  | 0 => mo_Acts_takeLast_0
  | 9 => mo_Acts_takeLast_9
  | _ => []
abbrev mo_Plan_lay_0 : List mmO := [(0, .aload 0, 0, 0), (1, .getstatic 12, 1, 1), (4, .iconst (0), 0, 0), (5, .putfield 25, 5, 1), (8, .iconst (0), 0, 0), (9, .istore 5, 0, 0), (11, .nop, 0, 0)]
abbrev mo_Plan_lay_11 : List mmO := [(11, .iload 5, 0, 0), (13, .aload 1, 0, 0), (14, .getfield 29, 2, 4), (17, .if_icmp .ge 0, 57, 0), (20, .iload 5, 0, 0), (22, .iload 4, 0, 0), (24, .if_icmp .eq 0, 51, 0), (27, .aload 1, 0, 0), (28, .iload 5, 0, 0), (30, .invokevirtual 32, 206, 2), (33, .ifCond .eq 0, 51, 0), (36, .aload 0, 0, 0), (37, .getstatic 12, 1, 1), (40, .aload 1, 0, 0), (41, .iload 5, 0, 0), (43, .iload 2, 0, 0), (44, .iload 3, 0, 0), (45, .invokestatic 36, 102, 4), (48, .invokevirtual 40, 502, 2), (51, .nop, 0, 0)]
abbrev mo_Plan_lay_51 : List mmO := [(51, .iinc 5 (1), 0, 0), (54, .goto 0, 11, 0)]
abbrev mo_Plan_lay_57 : List mmO := [(57, .return_, 0, 0)]
def mb_Plan_lay : Nat → List mmO := fun b => match b with
  | 0 => mo_Plan_lay_0
  | 11 => mo_Plan_lay_11
  | 51 => mo_Plan_lay_51
  | 57 => mo_Plan_lay_57
  | _ => []
abbrev mo_Plan_keyOf_0 : List mmO := [(0, .iload 3, 0, 0), (1, .iconst (1), 0, 0), (2, .if_icmp .ge 0, 7, 0), (5, .iload 1, 0, 0), (6, .ireturn, 0, 0)]
abbrev mo_Plan_keyOf_7 : List mmO := [(7, .aload 0, 0, 0), (8, .getstatic 44, 2, 2), (11, .iload 1, 0, 0), (12, .iaload, 0, 0), (13, .iload 3, 0, 0), (14, .idiv, 0, 0), (15, .istore 4, 0, 0), (17, .aload 0, 0, 0), (18, .getstatic 48, 2, 3), (21, .iload 1, 0, 0), (22, .iaload, 0, 0), (23, .iload 3, 0, 0), (24, .idiv, 0, 0), (25, .istore 5, 0, 0), (27, .aload 0, 0, 0), (28, .getstatic 51, 2, 4), (31, .iload 1, 0, 0), (32, .iaload, 0, 0), (33, .istore 6, 0, 0), (35, .iload 2, 0, 0), (36, .ifCond .ne 0, 50, 0), (39, .iload 4, 0, 0), (41, .iload 5, 0, 0), (43, .iload 6, 0, 0), (45, .iload 1, 0, 0), (46, .invokestatic 54, 501, 4), (49, .ireturn, 0, 0)]
abbrev mo_Plan_keyOf_50 : List mmO := [(50, .iload 2, 0, 0), (51, .iconst (2), 0, 0), (52, .if_icmp .ne 0, 70, 0), (55, .iconst (0), 0, 0), (56, .iload 4, 0, 0), (58, .iload 5, 0, 0), (60, .invokestatic 58, 104, 2), (63, .iload 6, 0, 0), (65, .iload 1, 0, 0), (66, .invokestatic 54, 501, 4), (69, .ireturn, 0, 0)]
abbrev mo_Plan_keyOf_70 : List mmO := [(70, .iload 4, 0, 0), (72, .iload 4, 0, 0), (74, .iload 5, 0, 0), (76, .invokestatic 62, 103, 2), (79, .iload 5, 0, 0), (81, .iload 6, 0, 0), (83, .invokestatic 62, 103, 2), (86, .iload 1, 0, 0), (87, .invokestatic 54, 501, 4), (90, .ireturn, 0, 0)]
def mb_Plan_keyOf : Nat → List mmO := fun b => match b with
  | 0 => mo_Plan_keyOf_0
  | 7 => mo_Plan_keyOf_7
  | 50 => mo_Plan_keyOf_50
  | 70 => mo_Plan_keyOf_70
  | _ => []
abbrev mo_Plan_thereAndBack_0 : List mmO := [(0, .iload 0, 0, 0), (1, .iconst (2), 0, 0), (2, .irem, 0, 0), (3, .ifCond .ne 0, 10, 0), (6, .iload 1, 0, 0), (7, .goto 0, 14, 0)]
abbrev mo_Plan_thereAndBack_10 : List mmO := [(10, .iconst (63), 0, 0), (12, .iload 1, 0, 0), (13, .isub, 0, 0), (14, .nop, 0, 0)]
abbrev mo_Plan_thereAndBack_14 : List mmO := [(14, .ireturn, 0, 0)]
def mb_Plan_thereAndBack : Nat → List mmO := fun b => match b with
  | 0 => mo_Plan_thereAndBack_0
  | 10 => mo_Plan_thereAndBack_10
  | 14 => mo_Plan_thereAndBack_14
  | _ => []
abbrev mo_Plan_curve_0 : List mmO := [(0, .iload 0, 0, 0), (1, .istore 2, 0, 0), (2, .iload 1, 0, 0), (3, .istore 3, 0, 0), (4, .iconst (0), 0, 0), (5, .istore 4, 0, 0), (7, .iconst (32), 0, 0), (9, .istore 5, 0, 0), (11, .nop, 0, 0)]
abbrev mo_Plan_curve_11 : List mmO := [(11, .iload 5, 0, 0), (13, .ifCond .le 0, 114, 0), (16, .iload 2, 0, 0), (17, .iload 5, 0, 0), (19, .iand, 0, 0), (20, .ifCond .eq 0, 27, 0), (23, .iconst (1), 0, 0), (24, .goto 0, 28, 0)]
abbrev mo_Plan_curve_27 : List mmO := [(27, .iconst (0), 0, 0), (28, .nop, 0, 0)]
abbrev mo_Plan_curve_28 : List mmO := [(28, .istore 6, 0, 0), (30, .iload 3, 0, 0), (31, .iload 5, 0, 0), (33, .iand, 0, 0), (34, .ifCond .eq 0, 41, 0), (37, .iconst (1), 0, 0), (38, .goto 0, 42, 0)]
abbrev mo_Plan_curve_41 : List mmO := [(41, .iconst (0), 0, 0), (42, .nop, 0, 0)]
abbrev mo_Plan_curve_42 : List mmO := [(42, .istore 7, 0, 0), (44, .iload 4, 0, 0), (46, .iload 5, 0, 0), (48, .iload 5, 0, 0), (50, .imul, 0, 0), (51, .iconst (3), 0, 0), (52, .iload 6, 0, 0), (54, .imul, 0, 0), (55, .iload 7, 0, 0), (57, .ixor, 0, 0), (58, .imul, 0, 0), (59, .iadd, 0, 0), (60, .istore 4, 0, 0), (62, .iload 7, 0, 0), (64, .ifCond .ne 0, 105, 0), (67, .iload 6, 0, 0), (69, .iconst (1), 0, 0), (70, .if_icmp .ne 0, 80, 0), (73, .iconst (63), 0, 0), (75, .iload 2, 0, 0), (76, .isub, 0, 0), (77, .goto 0, 81, 0)]
abbrev mo_Plan_curve_80 : List mmO := [(80, .iload 2, 0, 0), (81, .nop, 0, 0)]
abbrev mo_Plan_curve_81 : List mmO := [(81, .istore 8, 0, 0), (83, .iload 6, 0, 0), (85, .iconst (1), 0, 0), (86, .if_icmp .ne 0, 96, 0), (89, .iconst (63), 0, 0), (91, .iload 3, 0, 0), (92, .isub, 0, 0), (93, .goto 0, 97, 0)]
abbrev mo_Plan_curve_96 : List mmO := [(96, .iload 3, 0, 0), (97, .nop, 0, 0)]
abbrev mo_Plan_curve_97 : List mmO := [(97, .istore 9, 0, 0), (99, .iload 9, 0, 0), (101, .istore 2, 0, 0), (102, .iload 8, 0, 0), (104, .istore 3, 0, 0), (105, .nop, 0, 0)]
abbrev mo_Plan_curve_105 : List mmO := [(105, .iload 5, 0, 0), (107, .iconst (2), 0, 0), (108, .idiv, 0, 0), (109, .istore 5, 0, 0), (111, .goto 0, 11, 0)]
abbrev mo_Plan_curve_114 : List mmO := [(114, .iload 4, 0, 0), (116, .ireturn, 0, 0)]
def mb_Plan_curve : Nat → List mmO := fun b => match b with
  | 0 => mo_Plan_curve_0
  | 11 => mo_Plan_curve_11
  | 27 => mo_Plan_curve_27
  | 28 => mo_Plan_curve_28
  | 41 => mo_Plan_curve_41
  | 42 => mo_Plan_curve_42
  | 80 => mo_Plan_curve_80
  | 81 => mo_Plan_curve_81
  | 96 => mo_Plan_curve_96
  | 97 => mo_Plan_curve_97
  | 105 => mo_Plan_curve_105
  | 114 => mo_Plan_curve_114
  | _ => []
abbrev mo_Plan_follow_0 : List mmO := [(0, .aload 0, 0, 0), (1, .getstatic 21, 1, 3), (4, .invokevirtual 65, 901, 1), (7, .aload 0, 0, 0), (8, .iconst (0), 0, 0), (9, .putfield 68, 1, 2), (12, .iconst (0), 0, 0), (13, .istore 2, 0, 0), (14, .nop, 0, 0)]
abbrev mo_Plan_follow_14 : List mmO := [(14, .iload 2, 0, 0), (15, .aload 0, 0, 0), (16, .getstatic 12, 1, 1), (19, .getfield 25, 5, 1), (22, .if_icmp .ge 0, 72, 0), (25, .aload 1, 0, 0), (26, .aload 0, 0, 0), (27, .getstatic 21, 1, 3), (30, .aload 0, 0, 0), (31, .getstatic 12, 1, 1), (34, .iload 2, 0, 0), (35, .invokevirtual 71, 503, 2), (38, .invokevirtual 75, 212, 3), (41, .aload 0, 0, 0), (42, .aload 0, 0, 0), (43, .getfield 68, 1, 2), (46, .aload 0, 0, 0), (47, .getstatic 21, 1, 3), (50, .aload 0, 0, 0), (51, .getstatic 21, 1, 3), (54, .invokevirtual 79, 905, 1), (57, .invokevirtual 83, 907, 2), (60, .fadd, 0, 0), (63, .putfield 68, 1, 2), (66, .iinc 2 (1), 0, 0), (69, .goto 0, 14, 0)]
abbrev mo_Plan_follow_72 : List mmO := [(72, .return_, 0, 0)]
def mb_Plan_follow : Nat → List mmO := fun b => match b with
  | 0 => mo_Plan_follow_0
  | 14 => mo_Plan_follow_14
  | 72 => mo_Plan_follow_72
  | _ => []
abbrev mo_Plan_goAhead_0 : List mmO := [(0, .aload 0, 0, 0), (1, .getstatic 21, 1, 3), (4, .invokevirtual 65, 901, 1), (7, .iload 2, 0, 0), (8, .istore 3, 0, 0), (9, .iconst (0), 0, 0), (10, .istore 4, 0, 0), (12, .nop, 0, 0)]
abbrev mo_Plan_goAhead_12 : List mmO := [(12, .iload 4, 0, 0), (14, .aload 0, 0, 0), (15, .getstatic 12, 1, 1), (18, .getfield 25, 5, 1), (21, .if_icmp .ge 0, 78, 0), (24, .aload 1, 0, 0), (25, .aload 0, 0, 0), (26, .getstatic 21, 1, 3), (29, .aload 0, 0, 0), (30, .getstatic 12, 1, 1), (33, .iload 4, 0, 0), (35, .invokevirtual 71, 503, 2), (38, .invokevirtual 75, 212, 3), (41, .iload 3, 0, 0), (42, .aload 0, 0, 0), (43, .getstatic 21, 1, 3), (46, .iload 3, 0, 0), (47, .invokevirtual 83, 907, 2), (50, .isub, 0, 0), (51, .istore 3, 0, 0), (52, .aload 0, 0, 0), (53, .getstatic 21, 1, 3), (56, .invokevirtual 79, 905, 1), (59, .ifCond .le 0, 72, 0), (62, .aload 0, 0, 0), (63, .getstatic 12, 1, 1), (66, .iload 4, 0, 0), (68, .invokevirtual 71, 503, 2), (71, .ireturn, 0, 0)]
abbrev mo_Plan_goAhead_72 : List mmO := [(72, .iinc 4 (1), 0, 0), (75, .goto 0, 12, 0)]
abbrev mo_Plan_goAhead_78 : List mmO := [(78, .iconst (-1), 0, 0), (79, .ireturn, 0, 0)]
def mb_Plan_goAhead : Nat → List mmO := fun b => match b with
  | 0 => mo_Plan_goAhead_0
  | 12 => mo_Plan_goAhead_12
  | 72 => mo_Plan_goAhead_72
  | 78 => mo_Plan_goAhead_78
  | _ => []
abbrev mo_Q_isPlannedKind_0 : List mmO := [(0, .iload 0, 0, 0), (1, .iconst (2), 0, 0), (2, .if_icmp .eq 0, 20, 0), (5, .iload 0, 0, 0), (6, .iconst (3), 0, 0), (7, .if_icmp .eq 0, 20, 0), (10, .iload 0, 0, 0), (11, .iconst (6), 0, 0), (13, .if_icmp .eq 0, 20, 0), (16, .iconst (1), 0, 0), (17, .goto 0, 21, 0)]
abbrev mo_Q_isPlannedKind_20 : List mmO := [(20, .iconst (0), 0, 0), (21, .nop, 0, 0)]
abbrev mo_Q_isPlannedKind_21 : List mmO := [(21, .freturn, 0, 0)]
def mb_Q_isPlannedKind : Nat → List mmO := fun b => match b with
  | 0 => mo_Q_isPlannedKind_0
  | 20 => mo_Q_isPlannedKind_20
  | 21 => mo_Q_isPlannedKind_21
  | _ => []
abbrev mo_Q_copyFrom_0 : List mmO := [(0, .aload 0, 0, 0), (1, .iconst (0), 0, 0), (2, .putfield 24, 2, 4), (5, .iconst (0), 0, 0), (6, .istore 2, 0, 0), (7, .nop, 0, 0)]
abbrev mo_Q_copyFrom_7 : List mmO := [(7, .iload 2, 0, 0), (8, .aload 1, 0, 0), (9, .getfield 24, 2, 4), (12, .if_icmp .ge 0, 49, 0), (15, .aload 0, 0, 0), (16, .aload 1, 0, 0), (17, .getstatic 9, 2, 1), (20, .iload 2, 0, 0), (21, .iaload, 0, 0), (22, .aload 1, 0, 0), (23, .getstatic 15, 2, 2), (26, .iload 2, 0, 0), (27, .iaload, 0, 0), (28, .aload 1, 0, 0), (29, .getstatic 18, 2, 3), (32, .iload 2, 0, 0), (33, .iaload, 0, 0), (34, .aload 1, 0, 0), (35, .getstatic 21, 2, 4), (38, .iload 2, 0, 0), (39, .iaload, 0, 0), (40, .invokevirtual 28, 204, 5), (43, .iinc 2 (1), 0, 0), (46, .goto 0, 7, 0)]
abbrev mo_Q_copyFrom_49 : List mmO := [(49, .return_, 0, 0)]
def mb_Q_copyFrom : Nat → List mmO := fun b => match b with
  | 0 => mo_Q_copyFrom_0
  | 7 => mo_Q_copyFrom_7
  | 49 => mo_Q_copyFrom_49
  | _ => []
abbrev mo_Q_has_0 : List mmO := [(0, .iload 1, 0, 0), (1, .ifCond .lt 0, 16, 0), (4, .iload 1, 0, 0), (5, .aload 0, 0, 0), (6, .getfield 24, 2, 4), (9, .if_icmp .ge 0, 16, 0), (12, .iconst (1), 0, 0), (13, .goto 0, 17, 0)]
abbrev mo_Q_has_16 : List mmO := [(16, .iconst (0), 0, 0), (17, .nop, 0, 0)]
abbrev mo_Q_has_17 : List mmO := [(17, .freturn, 0, 0)]
def mb_Q_has : Nat → List mmO := fun b => match b with
  | 0 => mo_Q_has_0
  | 16 => mo_Q_has_16
  | 17 => mo_Q_has_17
  | _ => []
abbrev mo_Q_add_0 : List mmO := [(0, .aload 0, 0, 0), (1, .getfield 24, 2, 4), (4, .iconst (24), 0, 0), (6, .if_icmp .gt 0, 60, 0), (9, .aload 0, 0, 0), (10, .getstatic 9, 2, 1), (13, .aload 0, 0, 0), (14, .getfield 24, 2, 4), (17, .iload 1, 0, 0), (18, .iastore, 0, 0), (19, .aload 0, 0, 0), (20, .getstatic 15, 2, 2), (23, .aload 0, 0, 0), (24, .getfield 24, 2, 4), (27, .iload 2, 0, 0), (28, .iastore, 0, 0), (29, .aload 0, 0, 0), (30, .getstatic 18, 2, 3), (33, .aload 0, 0, 0), (34, .getfield 24, 2, 4), (37, .iload 3, 0, 0), (38, .iastore, 0, 0), (39, .aload 0, 0, 0), (40, .getstatic 21, 2, 4), (43, .aload 0, 0, 0), (44, .getfield 24, 2, 4), (47, .iload 4, 0, 0), (49, .iastore, 0, 0), (50, .aload 0, 0, 0), (51, .dup, 0, 0), (52, .getfield 24, 2, 4), (55, .iconst (1), 0, 0), (56, .iadd, 0, 0), (57, .putfield 24, 2, 4), (60, .nop, 0, 0)]
abbrev mo_Q_add_60 : List mmO := [(60, .return_, 0, 0)]
def mb_Q_add : Nat → List mmO := fun b => match b with
  | 0 => mo_Q_add_0
  | 60 => mo_Q_add_60
  | _ => []
abbrev mo_Q_removeLast_0 : List mmO := [(0, .aload 0, 0, 0), (1, .getfield 24, 2, 4), (4, .ifCond .le 0, 17, 0), (7, .aload 0, 0, 0), (8, .dup, 0, 0), (9, .getfield 24, 2, 4), (12, .iconst (1), 0, 0), (13, .isub, 0, 0), (14, .putfield 24, 2, 4), (17, .nop, 0, 0)]
abbrev mo_Q_removeLast_17 : List mmO := [(17, .return_, 0, 0)]
def mb_Q_removeLast : Nat → List mmO := fun b => match b with
  | 0 => mo_Q_removeLast_0
  | 17 => mo_Q_removeLast_17
  | _ => []
abbrev mo_Q_isPlanned_0 : List mmO := [(0, .aload 0, 0, 0), (1, .getstatic 9, 2, 1), (4, .iload 1, 0, 0), (5, .iaload, 0, 0), (6, .invokestatic 32, 201, 1), (9, .freturn, 0, 0)]
def mb_Q_isPlanned : Nat → List mmO := fun b => match b with
  | 0 => mo_Q_isPlanned_0
  | _ => []
abbrev mo_Q_areAlike_0 : List mmO := [(0, .aload 0, 0, 0), (1, .getstatic 9, 2, 1), (4, .iload 1, 0, 0), (5, .iaload, 0, 0), (6, .aload 0, 0, 0), (7, .getstatic 9, 2, 1), (10, .iload 2, 0, 0), (11, .iaload, 0, 0), (12, .if_icmp .ne 0, 64, 0), (15, .aload 0, 0, 0), (16, .getstatic 15, 2, 2), (19, .iload 1, 0, 0), (20, .iaload, 0, 0), (21, .aload 0, 0, 0), (22, .getstatic 15, 2, 2), (25, .iload 2, 0, 0), (26, .iaload, 0, 0), (27, .if_icmp .ne 0, 64, 0), (30, .aload 0, 0, 0), (31, .getstatic 18, 2, 3), (34, .iload 1, 0, 0), (35, .iaload, 0, 0), (36, .aload 0, 0, 0), (37, .getstatic 18, 2, 3), (40, .iload 2, 0, 0), (41, .iaload, 0, 0), (42, .if_icmp .ne 0, 64, 0), (45, .aload 0, 0, 0), (46, .getstatic 21, 2, 4), (49, .iload 1, 0, 0), (50, .iaload, 0, 0), (51, .aload 0, 0, 0), (52, .getstatic 21, 2, 4), (55, .iload 2, 0, 0), (56, .iaload, 0, 0), (57, .if_icmp .ne 0, 64, 0), (60, .iconst (1), 0, 0), (61, .goto 0, 65, 0)]
abbrev mo_Q_areAlike_64 : List mmO := [(64, .iconst (0), 0, 0), (65, .nop, 0, 0)]
abbrev mo_Q_areAlike_65 : List mmO := [(65, .freturn, 0, 0)]
def mb_Q_areAlike : Nat → List mmO := fun b => match b with
  | 0 => mo_Q_areAlike_0
  | 64 => mo_Q_areAlike_64
  | 65 => mo_Q_areAlike_65
  | _ => []
abbrev mo_Q_firstAlike_0 : List mmO := [(0, .iconst (0), 0, 0), (1, .istore 2, 0, 0), (2, .nop, 0, 0)]
abbrev mo_Q_firstAlike_2 : List mmO := [(2, .iload 2, 0, 0), (3, .iload 1, 0, 0), (4, .if_icmp .ge 0, 24, 0), (7, .aload 0, 0, 0), (8, .iload 1, 0, 0), (9, .iload 2, 0, 0), (10, .invokevirtual 36, 207, 3), (13, .ifCond .eq 0, 18, 0), (16, .iload 2, 0, 0), (17, .ireturn, 0, 0)]
abbrev mo_Q_firstAlike_18 : List mmO := [(18, .iinc 2 (1), 0, 0), (21, .goto 0, 2, 0)]
abbrev mo_Q_firstAlike_24 : List mmO := [(24, .iload 1, 0, 0), (25, .ireturn, 0, 0)]
def mb_Q_firstAlike : Nat → List mmO := fun b => match b with
  | 0 => mo_Q_firstAlike_0
  | 2 => mo_Q_firstAlike_2
  | 18 => mo_Q_firstAlike_18
  | 24 => mo_Q_firstAlike_24
  | _ => []
abbrev mo_Q_howManyAlike_0 : List mmO := [(0, .iconst (0), 0, 0), (1, .istore 2, 0, 0), (2, .iconst (0), 0, 0), (3, .istore 3, 0, 0), (4, .nop, 0, 0)]
abbrev mo_Q_howManyAlike_4 : List mmO := [(4, .iload 3, 0, 0), (5, .aload 0, 0, 0), (6, .getfield 24, 2, 4), (9, .if_icmp .ge 0, 30, 0), (12, .aload 0, 0, 0), (13, .iload 1, 0, 0), (14, .iload 3, 0, 0), (15, .invokevirtual 36, 207, 3), (18, .ifCond .eq 0, 24, 0), (21, .iinc 2 (1), 0, 0), (24, .nop, 0, 0)]
abbrev mo_Q_howManyAlike_24 : List mmO := [(24, .iinc 3 (1), 0, 0), (27, .goto 0, 4, 0)]
abbrev mo_Q_howManyAlike_30 : List mmO := [(30, .iload 2, 0, 0), (31, .ireturn, 0, 0)]
def mb_Q_howManyAlike : Nat → List mmO := fun b => match b with
  | 0 => mo_Q_howManyAlike_0
  | 4 => mo_Q_howManyAlike_4
  | 24 => mo_Q_howManyAlike_24
  | 30 => mo_Q_howManyAlike_30
  | _ => []
abbrev mo_Q_unlikeOnes_0 : List mmO := [(0, .iconst (0), 0, 0), (1, .istore 1, 0, 0), (2, .iconst (0), 0, 0), (3, .istore 2, 0, 0), (4, .nop, 0, 0)]
abbrev mo_Q_unlikeOnes_4 : List mmO := [(4, .iload 2, 0, 0), (5, .aload 0, 0, 0), (6, .getfield 24, 2, 4), (9, .if_icmp .ge 0, 30, 0), (12, .aload 0, 0, 0), (13, .iload 2, 0, 0), (14, .invokevirtual 40, 208, 2), (17, .iload 2, 0, 0), (18, .if_icmp .ne 0, 24, 0), (21, .iinc 1 (1), 0, 0), (24, .nop, 0, 0)]
abbrev mo_Q_unlikeOnes_24 : List mmO := [(24, .iinc 2 (1), 0, 0), (27, .goto 0, 4, 0)]
abbrev mo_Q_unlikeOnes_30 : List mmO := [(30, .iload 1, 0, 0), (31, .ireturn, 0, 0)]
def mb_Q_unlikeOnes : Nat → List mmO := fun b => match b with
  | 0 => mo_Q_unlikeOnes_0
  | 4 => mo_Q_unlikeOnes_4
  | 24 => mo_Q_unlikeOnes_24
  | 30 => mo_Q_unlikeOnes_30
  | _ => []
abbrev mo_Q_howManyHave_0 : List mmO := [(0, .iconst (0), 0, 0), (1, .istore 2, 0, 0), (2, .iconst (0), 0, 0), (3, .istore 3, 0, 0), (4, .nop, 0, 0)]
abbrev mo_Q_howManyHave_4 : List mmO := [(4, .iload 3, 0, 0), (5, .aload 0, 0, 0), (6, .getfield 24, 2, 4), (9, .if_icmp .ge 0, 41, 0), (12, .aload 0, 0, 0), (13, .getstatic 15, 2, 2), (16, .iload 3, 0, 0), (17, .iaload, 0, 0), (18, .iload 1, 0, 0), (19, .if_icmp .gt 0, 35, 0), (22, .iload 1, 0, 0), (23, .aload 0, 0, 0), (24, .getstatic 18, 2, 3), (27, .iload 3, 0, 0), (28, .iaload, 0, 0), (29, .if_icmp .gt 0, 35, 0), (32, .iinc 2 (1), 0, 0), (35, .nop, 0, 0)]
abbrev mo_Q_howManyHave_35 : List mmO := [(35, .iinc 3 (1), 0, 0), (38, .goto 0, 4, 0)]
abbrev mo_Q_howManyHave_41 : List mmO := [(41, .iload 2, 0, 0), (42, .ireturn, 0, 0)]
def mb_Q_howManyHave : Nat → List mmO := fun b => match b with
  | 0 => mo_Q_howManyHave_0
  | 4 => mo_Q_howManyHave_4
  | 35 => mo_Q_howManyHave_35
  | 41 => mo_Q_howManyHave_41
  | _ => []
abbrev mo_Q_aim_0 : List mmO := [(0, .aload 0, 0, 0), (1, .iload 2, 0, 0), (2, .invokevirtual 44, 203, 2), (5, .ifCond .eq 0, 30, 0), (8, .aload 1, 0, 0), (9, .aload 0, 0, 0), (10, .getstatic 15, 2, 2), (13, .iload 2, 0, 0), (14, .iaload, 0, 0), (15, .aload 0, 0, 0), (16, .getstatic 18, 2, 3), (19, .iload 2, 0, 0), (20, .iaload, 0, 0), (21, .aload 0, 0, 0), (22, .getstatic 21, 2, 4), (25, .iload 2, 0, 0), (26, .iaload, 0, 0), (27, .invokevirtual 47, 904, 4), (30, .nop, 0, 0)]
abbrev mo_Q_aim_30 : List mmO := [(30, .return_, 0, 0)]
def mb_Q_aim : Nat → List mmO := fun b => match b with
  | 0 => mo_Q_aim_0
  | 30 => mo_Q_aim_30
  | _ => []
abbrev mo_Rd_put_0 : List mmO := [(0, .iconst (24), 0, 0), (2, .istore 2, 0, 0), (3, .nop, 0, 0)]
abbrev mo_Rd_put_3 : List mmO := [(3, .iload 2, 0, 0), (4, .ifCond .lt 0, 46, 0), (7, .aload 0, 0, 0), (8, .getfield 29, 3, 3), (11, .iconst (600), 0, 0), (14, .if_icmp .ge 0, 40, 0), (17, .aload 0, 0, 0), (18, .getstatic 9, 3, 1), (21, .aload 0, 0, 0), (22, .getfield 29, 3, 3), (25, .iload 1, 0, 0), (26, .iload 2, 0, 0), (27, .ishr, 0, 0), (28, .i2b, 0, 0), (29, .bastore, 0, 0), (30, .aload 0, 0, 0), (31, .dup, 0, 0), (32, .getfield 29, 3, 3), (35, .iconst (1), 0, 0), (36, .iadd, 0, 0), (37, .putfield 29, 3, 3), (40, .nop, 0, 0)]
abbrev mo_Rd_put_40 : List mmO := [(40, .iinc 2 (-8), 0, 0), (43, .goto 0, 3, 0)]
abbrev mo_Rd_put_46 : List mmO := [(46, .return_, 0, 0)]
def mb_Rd_put : Nat → List mmO := fun b => match b with
  | 0 => mo_Rd_put_0
  | 3 => mo_Rd_put_3
  | 40 => mo_Rd_put_40
  | 46 => mo_Rd_put_46
  | _ => []
abbrev mo_Rd_read_0 : List mmO := [(0, .aload 0, 0, 0), (1, .getstatic 18, 3, 2), (4, .invokevirtual 33, 401, 1), (7, .aload 0, 0, 0), (8, .getstatic 25, 3, 7), (11, .iconst (0), 0, 0), (12, .putfield 36, 2, 4), (15, .aload 0, 0, 0), (16, .iload 1, 0, 0), (17, .aload 0, 0, 0), (18, .getfield 29, 3, 3), (21, .fsub, 0, 0), (24, .putfield 43, 3, 4), (27, .aload 0, 0, 0), (28, .iconst (0), 0, 0), (29, .putfield 46, 3, 7), (32, .aload 0, 0, 0), (33, .invokevirtual 49, 314, 1), (36, .iconst (1), 0, 0), (37, .istore 2, 0, 0), (38, .nop, 0, 0)]
abbrev mo_Rd_read_38 : List mmO := [(38, .iload 2, 0, 0), (39, .iconst (600), 0, 0), (42, .if_icmp .gt 0, 85, 0), (45, .aload 0, 0, 0), (46, .invokevirtual 52, 303, 1), (49, .ifCond .ne 0, 57, 0), (52, .aload 0, 0, 0), (53, .getfield 56, 3, 9), (56, .ireturn, 0, 0)]
abbrev mo_Rd_read_57 : List mmO := [(57, .aload 0, 0, 0), (58, .getfield 59, 3, 5), (61, .ifCond .ne 0, 66, 0), (64, .iload 2, 0, 0), (65, .ireturn, 0, 0)]
abbrev mo_Rd_read_66 : List mmO := [(66, .aload 0, 0, 0), (67, .iconst (3), 0, 0), (68, .invokevirtual 62, 311, 2), (71, .ifCond .ne 0, 79, 0), (74, .aload 0, 0, 0), (75, .getfield 56, 3, 9), (78, .ireturn, 0, 0)]
abbrev mo_Rd_read_79 : List mmO := [(79, .iinc 2 (1), 0, 0), (82, .goto 0, 38, 0)]
abbrev mo_Rd_read_85 : List mmO := [(85, .aload 0, 0, 0), (86, .getfield 56, 3, 9), (89, .ireturn, 0, 0)]
def mb_Rd_read : Nat → List mmO := fun b => match b with
  | 0 => mo_Rd_read_0
  | 38 => mo_Rd_read_38
  | 57 => mo_Rd_read_57
  | 66 => mo_Rd_read_66
  | 79 => mo_Rd_read_79
  | 85 => mo_Rd_read_85
  | _ => []
abbrev mo_Rd_readLine_0 : List mmO := [(0, .aload 0, 0, 0), (1, .ldc 0, 0, 0), (3, .invokevirtual 67, 313, 2), (6, .ifCond .eq 0, 14, 0), (9, .aload 0, 0, 0), (10, .invokevirtual 71, 304, 1), (13, .freturn, 0, 0)]
abbrev mo_Rd_readLine_14 : List mmO := [(14, .aload 0, 0, 0), (15, .ldc 1, 0, 0), (17, .invokevirtual 67, 313, 2), (20, .ifCond .eq 0, 28, 0), (23, .aload 0, 0, 0), (24, .invokevirtual 76, 306, 1), (27, .freturn, 0, 0)]
abbrev mo_Rd_readLine_28 : List mmO := [(28, .aload 0, 0, 0), (29, .ldc 2, 0, 0), (31, .invokevirtual 67, 313, 2), (34, .ifCond .eq 0, 44, 0), (37, .aload 0, 0, 0), (38, .invokevirtual 81, 307, 1), (41, .goto 0, 49, 0)]
abbrev mo_Rd_readLine_44 : List mmO := [(44, .aload 0, 0, 0), (45, .iconst (1), 0, 0), (46, .invokevirtual 84, 310, 2), (49, .nop, 0, 0)]
abbrev mo_Rd_readLine_49 : List mmO := [(49, .freturn, 0, 0)]
def mb_Rd_readLine : Nat → List mmO := fun b => match b with
  | 0 => mo_Rd_readLine_0
  | 14 => mo_Rd_readLine_14
  | 28 => mo_Rd_readLine_28
  | 44 => mo_Rd_readLine_44
  | 49 => mo_Rd_readLine_49
  | _ => []
abbrev mo_Rd_readRow_0 : List mmO := [(0, .aload 0, 0, 0), (1, .getstatic 18, 3, 2), (4, .getfield 87, 4, 4), (7, .ifCond .le 0, 16, 0), (10, .aload 0, 0, 0), (11, .iconst (3), 0, 0), (12, .invokevirtual 84, 310, 2), (15, .freturn, 0, 0)]
abbrev mo_Rd_readRow_16 : List mmO := [(16, .aload 0, 0, 0), (17, .invokevirtual 49, 314, 1), (20, .aload 0, 0, 0), (21, .invokevirtual 88, 305, 1), (24, .istore 1, 0, 0), (25, .iconst (1), 0, 0), (26, .istore 2, 0, 0), (27, .nop, 0, 0)]
abbrev mo_Rd_readRow_27 : List mmO := [(27, .iload 1, 0, 0), (28, .ifCond .eq 0, 60, 0), (31, .aload 0, 0, 0), (32, .getfield 59, 3, 5), (35, .iconst (4), 0, 0), (36, .if_icmp .ne 0, 60, 0), (39, .iload 2, 0, 0), (40, .iconst (60), 0, 0), (42, .if_icmp .gt 0, 60, 0), (45, .aload 0, 0, 0), (46, .invokevirtual 49, 314, 1), (49, .aload 0, 0, 0), (50, .invokevirtual 88, 305, 1), (53, .istore 1, 0, 0), (54, .iinc 2 (1), 0, 0), (57, .goto 0, 27, 0)]
abbrev mo_Rd_readRow_60 : List mmO := [(60, .iload 1, 0, 0), (61, .ifCond .eq 0, 96, 0), (64, .aload 0, 0, 0), (65, .getstatic 18, 3, 2), (68, .getfield 87, 4, 4), (71, .iconst (2), 0, 0), (72, .if_icmp .ge 0, 96, 0), (75, .aload 0, 0, 0), (76, .getfield 59, 3, 5), (79, .iconst (3), 0, 0), (80, .if_icmp .eq 0, 90, 0), (83, .aload 0, 0, 0), (84, .getfield 59, 3, 5), (87, .ifCond .ne 0, 96, 0), (90, .nop, 0, 0)]
abbrev mo_Rd_readRow_90 : List mmO := [(90, .aload 0, 0, 0), (91, .iconst (5), 0, 0), (92, .invokevirtual 84, 310, 2), (95, .freturn, 0, 0)]
abbrev mo_Rd_readRow_96 : List mmO := [(96, .iload 1, 0, 0), (97, .freturn, 0, 0)]
def mb_Rd_readRow : Nat → List mmO := fun b => match b with
  | 0 => mo_Rd_readRow_0
  | 16 => mo_Rd_readRow_16
  | 27 => mo_Rd_readRow_27
  | 60 => mo_Rd_readRow_60
  | 90 => mo_Rd_readRow_90
  | 96 => mo_Rd_readRow_96
  | _ => []
abbrev mo_Rd_readCell_0 : List mmO := [(0, .aload 0, 0, 0), (1, .iconst (0), 0, 0), (2, .iconst (63), 0, 0), (4, .invokevirtual 91, 312, 3), (7, .ifCond .ne 0, 12, 0), (10, .iconst (0), 0, 0), (11, .freturn, 0, 0)]
abbrev mo_Rd_readCell_12 : List mmO := [(12, .aload 0, 0, 0), (13, .getstatic 18, 3, 2), (16, .invokevirtual 95, 405, 1), (19, .ifCond .ne 0, 28, 0), (22, .aload 0, 0, 0), (23, .iconst (4), 0, 0), (24, .invokevirtual 84, 310, 2), (27, .freturn, 0, 0)]
abbrev mo_Rd_readCell_28 : List mmO := [(28, .aload 0, 0, 0), (29, .getstatic 18, 3, 2), (32, .aload 0, 0, 0), (33, .getfield 98, 3, 8), (36, .invokevirtual 101, 407, 2), (39, .aload 0, 0, 0), (40, .invokevirtual 49, 314, 1), (43, .iconst (1), 0, 0), (44, .freturn, 0, 0)]
def mb_Rd_readCell : Nat → List mmO := fun b => match b with
  | 0 => mo_Rd_readCell_0
  | 12 => mo_Rd_readCell_12
  | 28 => mo_Rd_readCell_28
  | _ => []
abbrev mo_Rd_readSet_0 : List mmO := [(0, .aload 0, 0, 0), (1, .getstatic 18, 3, 2), (4, .getfield 87, 4, 4), (7, .ifCond .ne 0, 16, 0), (10, .aload 0, 0, 0), (11, .iconst (5), 0, 0), (12, .invokevirtual 84, 310, 2), (15, .freturn, 0, 0)]
abbrev mo_Rd_readSet_16 : List mmO := [(16, .aload 0, 0, 0), (17, .getstatic 18, 3, 2), (20, .invokevirtual 105, 406, 1), (23, .ifCond .ne 0, 32, 0), (26, .aload 0, 0, 0), (27, .iconst (4), 0, 0), (28, .invokevirtual 84, 310, 2), (31, .freturn, 0, 0)]
abbrev mo_Rd_readSet_32 : List mmO := [(32, .aload 0, 0, 0), (33, .invokevirtual 49, 314, 1), (36, .aload 0, 0, 0), (37, .iconst (0), 0, 0), (38, .aload 0, 0, 0), (39, .getstatic 18, 3, 2), (42, .getfield 87, 4, 4), (45, .iconst (1), 0, 0), (46, .isub, 0, 0), (47, .invokevirtual 91, 312, 3), (50, .ifCond .ne 0, 55, 0), (53, .iconst (0), 0, 0), (54, .freturn, 0, 0)]
abbrev mo_Rd_readSet_55 : List mmO := [(55, .aload 0, 0, 0), (56, .getfield 98, 3, 8), (59, .istore 1, 0, 0), (60, .aload 0, 0, 0), (61, .invokevirtual 49, 314, 1), (64, .aload 0, 0, 0), (65, .iconst (0), 0, 0), (66, .iconst (63), 0, 0), (68, .invokevirtual 91, 312, 3), (71, .ifCond .ne 0, 76, 0), (74, .iconst (0), 0, 0), (75, .freturn, 0, 0)]
abbrev mo_Rd_readSet_76 : List mmO := [(76, .aload 0, 0, 0), (77, .getstatic 18, 3, 2), (80, .iload 1, 0, 0), (81, .aload 0, 0, 0), (82, .getfield 98, 3, 8), (85, .invokevirtual 108, 409, 3), (88, .aload 0, 0, 0), (89, .invokevirtual 49, 314, 1), (92, .iconst (1), 0, 0), (93, .freturn, 0, 0)]
def mb_Rd_readSet : Nat → List mmO := fun b => match b with
  | 0 => mo_Rd_readSet_0
  | 16 => mo_Rd_readSet_16
  | 32 => mo_Rd_readSet_32
  | 55 => mo_Rd_readSet_55
  | 76 => mo_Rd_readSet_76
  | _ => []
abbrev mo_Rd_readAsk_0 : List mmO := [(0, .aload 0, 0, 0), (1, .getstatic 18, 3, 2), (4, .getfield 87, 4, 4), (7, .ifCond .ne 0, 16, 0), (10, .aload 0, 0, 0), (11, .iconst (5), 0, 0), (12, .invokevirtual 84, 310, 2), (15, .freturn, 0, 0)]
abbrev mo_Rd_readAsk_16 : List mmO := [(16, .aload 0, 0, 0), (17, .getstatic 25, 3, 7), (20, .getfield 36, 2, 4), (23, .iconst (24), 0, 0), (25, .if_icmp .lt 0, 34, 0), (28, .aload 0, 0, 0), (29, .iconst (4), 0, 0), (30, .invokevirtual 84, 310, 2), (33, .freturn, 0, 0)]
abbrev mo_Rd_readAsk_34 : List mmO := [(34, .aload 0, 0, 0), (35, .invokevirtual 49, 314, 1), (38, .aload 0, 0, 0), (39, .invokevirtual 112, 309, 1), (42, .istore 1, 0, 0), (43, .iload 1, 0, 0), (44, .iconst (-1), 0, 0), (45, .if_icmp .ne 0, 54, 0), (48, .aload 0, 0, 0), (49, .iconst (1), 0, 0), (50, .invokevirtual 84, 310, 2), (53, .freturn, 0, 0)]
abbrev mo_Rd_readAsk_54 : List mmO := [(54, .aload 0, 0, 0), (55, .invokevirtual 49, 314, 1), (58, .aload 0, 0, 0), (59, .iconst (0), 0, 0), (60, .aload 0, 0, 0), (61, .getstatic 18, 3, 2), (64, .getfield 87, 4, 4), (67, .iconst (1), 0, 0), (68, .isub, 0, 0), (69, .invokevirtual 91, 312, 3), (72, .ifCond .ne 0, 77, 0), (75, .iconst (0), 0, 0), (76, .freturn, 0, 0)]
abbrev mo_Rd_readAsk_77 : List mmO := [(77, .aload 0, 0, 0), (78, .getfield 98, 3, 8), (81, .istore 2, 0, 0), (82, .aload 0, 0, 0), (83, .invokevirtual 49, 314, 1), (86, .aload 0, 0, 0), (87, .iload 2, 0, 0), (88, .aload 0, 0, 0), (89, .getstatic 18, 3, 2), (92, .getfield 87, 4, 4), (95, .iconst (1), 0, 0), (96, .isub, 0, 0), (97, .invokevirtual 91, 312, 3), (100, .ifCond .ne 0, 105, 0), (103, .iconst (0), 0, 0), (104, .freturn, 0, 0)]
abbrev mo_Rd_readAsk_105 : List mmO := [(105, .aload 0, 0, 0), (106, .getfield 98, 3, 8), (109, .istore 3, 0, 0), (110, .aload 0, 0, 0), (111, .invokevirtual 49, 314, 1), (114, .aload 0, 0, 0), (115, .iload 1, 0, 0), (116, .iload 2, 0, 0), (117, .iload 3, 0, 0), (118, .invokevirtual 116, 308, 4), (121, .freturn, 0, 0)]
def mb_Rd_readAsk : Nat → List mmO := fun b => match b with
  | 0 => mo_Rd_readAsk_0
  | 16 => mo_Rd_readAsk_16
  | 34 => mo_Rd_readAsk_34
  | 54 => mo_Rd_readAsk_54
  | 77 => mo_Rd_readAsk_77
  | 105 => mo_Rd_readAsk_105
  | _ => []
abbrev mo_Rd_readTime_0 : List mmO := [(0, .aload 0, 0, 0), (1, .getstatic 18, 3, 2), (4, .getfield 120, 4, 5), (7, .istore 4, 0, 0), (9, .aload 0, 0, 0), (10, .ldc 3, 0, 0), (12, .invokevirtual 67, 313, 2), (15, .ifCond .eq 0, 49, 0), (18, .aload 0, 0, 0), (19, .invokevirtual 49, 314, 1), (22, .aload 0, 0, 0), (23, .iconst (0), 0, 0), (24, .aload 0, 0, 0), (25, .getstatic 18, 3, 2), (28, .getfield 120, 4, 5), (31, .invokevirtual 91, 312, 3), (34, .ifCond .ne 0, 39, 0), (37, .iconst (0), 0, 0), (38, .freturn, 0, 0)]
abbrev mo_Rd_readTime_39 : List mmO := [(39, .aload 0, 0, 0), (40, .getfield 98, 3, 8), (43, .istore 4, 0, 0), (45, .aload 0, 0, 0), (46, .invokevirtual 49, 314, 1), (49, .nop, 0, 0)]
abbrev mo_Rd_readTime_49 : List mmO := [(49, .aload 0, 0, 0), (50, .getstatic 25, 3, 7), (53, .iload 1, 0, 0), (54, .iload 2, 0, 0), (55, .iload 3, 0, 0), (56, .iload 4, 0, 0), (58, .invokevirtual 125, 204, 5), (61, .iconst (1), 0, 0), (62, .freturn, 0, 0)]
def mb_Rd_readTime : Nat → List mmO := fun b => match b with
  | 0 => mo_Rd_readTime_0
  | 39 => mo_Rd_readTime_39
  | 49 => mo_Rd_readTime_49
  | _ => []
abbrev mo_Rd_kindHere_0 : List mmO := [(0, .aload 0, 0, 0), (1, .ldc 4, 0, 0), (3, .invokevirtual 67, 313, 2), (6, .ifCond .eq 0, 11, 0), (9, .iconst (0), 0, 0), (10, .ireturn, 0, 0)]
abbrev mo_Rd_kindHere_11 : List mmO := [(11, .aload 0, 0, 0), (12, .ldc 5, 0, 0), (14, .invokevirtual 67, 313, 2), (17, .ifCond .eq 0, 22, 0), (20, .iconst (1), 0, 0), (21, .ireturn, 0, 0)]
abbrev mo_Rd_kindHere_22 : List mmO := [(22, .aload 0, 0, 0), (23, .ldc 6, 0, 0), (25, .invokevirtual 67, 313, 2), (28, .ifCond .eq 0, 33, 0), (31, .iconst (2), 0, 0), (32, .ireturn, 0, 0)]
abbrev mo_Rd_kindHere_33 : List mmO := [(33, .aload 0, 0, 0), (34, .ldc 7, 0, 0), (36, .invokevirtual 67, 313, 2), (39, .ifCond .eq 0, 44, 0), (42, .iconst (3), 0, 0), (43, .ireturn, 0, 0)]
abbrev mo_Rd_kindHere_44 : List mmO := [(44, .aload 0, 0, 0), (45, .ldc 8, 0, 0), (47, .invokevirtual 67, 313, 2), (50, .ifCond .eq 0, 55, 0), (53, .iconst (4), 0, 0), (54, .ireturn, 0, 0)]
abbrev mo_Rd_kindHere_55 : List mmO := [(55, .aload 0, 0, 0), (56, .ldc 9, 0, 0), (58, .invokevirtual 67, 313, 2), (61, .ifCond .eq 0, 66, 0), (64, .iconst (5), 0, 0), (65, .ireturn, 0, 0)]
abbrev mo_Rd_kindHere_66 : List mmO := [(66, .aload 0, 0, 0), (67, .ldc 10, 0, 0), (69, .invokevirtual 67, 313, 2), (72, .ifCond .eq 0, 78, 0), (75, .iconst (6), 0, 0), (77, .ireturn, 0, 0)]
abbrev mo_Rd_kindHere_78 : List mmO := [(78, .aload 0, 0, 0), (79, .ldc 11, 0, 0), (81, .invokevirtual 67, 313, 2), (84, .ifCond .eq 0, 92, 0), (87, .iconst (7), 0, 0), (89, .goto 0, 93, 0)]
abbrev mo_Rd_kindHere_92 : List mmO := [(92, .iconst (-1), 0, 0), (93, .nop, 0, 0)]
abbrev mo_Rd_kindHere_93 : List mmO := [(93, .ireturn, 0, 0)]
def mb_Rd_kindHere : Nat → List mmO := fun b => match b with
  | 0 => mo_Rd_kindHere_0
  | 11 => mo_Rd_kindHere_11
  | 22 => mo_Rd_kindHere_22
  | 33 => mo_Rd_kindHere_33
  | 44 => mo_Rd_kindHere_44
  | 55 => mo_Rd_kindHere_55
  | 66 => mo_Rd_kindHere_66
  | 78 => mo_Rd_kindHere_78
  | 92 => mo_Rd_kindHere_92
  | 93 => mo_Rd_kindHere_93
  | _ => []
abbrev mo_Rd_refuse_0 : List mmO := [(0, .aload 0, 0, 0), (1, .iconst (-2), 0, 0), (3, .iconst (8), 0, 0), (5, .aload 0, 0, 0), (6, .getfield 145, 3, 6), (9, .imul, 0, 0), (10, .iload 1, 0, 0), (11, .iadd, 0, 0), (12, .isub, 0, 0), (13, .putfield 56, 3, 9), (16, .iconst (0), 0, 0), (17, .freturn, 0, 0)]
def mb_Rd_refuse : Nat → List mmO := fun b => match b with
  | 0 => mo_Rd_refuse_0
  | _ => []
abbrev mo_Rd_pass_0 : List mmO := [(0, .aload 0, 0, 0), (1, .getfield 59, 3, 5), (4, .iload 1, 0, 0), (5, .if_icmp .eq 0, 14, 0), (8, .aload 0, 0, 0), (9, .iconst (1), 0, 0), (10, .invokevirtual 84, 310, 2), (13, .freturn, 0, 0)]
abbrev mo_Rd_pass_14 : List mmO := [(14, .aload 0, 0, 0), (15, .invokevirtual 49, 314, 1), (18, .iconst (1), 0, 0), (19, .freturn, 0, 0)]
def mb_Rd_pass : Nat → List mmO := fun b => match b with
  | 0 => mo_Rd_pass_0
  | 14 => mo_Rd_pass_14
  | _ => []
abbrev mo_Rd_isWhole_0 : List mmO := [(0, .aload 0, 0, 0), (1, .getfield 59, 3, 5), (4, .iconst (2), 0, 0), (5, .if_icmp .eq 0, 14, 0), (8, .aload 0, 0, 0), (9, .iconst (1), 0, 0), (10, .invokevirtual 84, 310, 2), (13, .freturn, 0, 0)]
abbrev mo_Rd_isWhole_14 : List mmO := [(14, .aload 0, 0, 0), (15, .getfield 98, 3, 8), (18, .iload 1, 0, 0), (19, .if_icmp .lt 0, 30, 0), (22, .aload 0, 0, 0), (23, .getfield 98, 3, 8), (26, .iload 2, 0, 0), (27, .if_icmp .le 0, 38, 0), (30, .nop, 0, 0)]
abbrev mo_Rd_isWhole_30 : List mmO := [(30, .aload 0, 0, 0), (31, .iconst (2), 0, 0), (32, .invokevirtual 84, 310, 2), (35, .ifCond .eq 0, 42, 0), (38, .nop, 0, 0)]
abbrev mo_Rd_isWhole_38 : List mmO := [(38, .iconst (1), 0, 0), (39, .goto 0, 43, 0)]
abbrev mo_Rd_isWhole_42 : List mmO := [(42, .iconst (0), 0, 0), (43, .nop, 0, 0)]
abbrev mo_Rd_isWhole_43 : List mmO := [(43, .freturn, 0, 0)]
def mb_Rd_isWhole : Nat → List mmO := fun b => match b with
  | 0 => mo_Rd_isWhole_0
  | 14 => mo_Rd_isWhole_14
  | 30 => mo_Rd_isWhole_30
  | 38 => mo_Rd_isWhole_38
  | 42 => mo_Rd_isWhole_42
  | 43 => mo_Rd_isWhole_43
  | _ => []
abbrev mo_Rd_next_0 : List mmO := [(0, .aload 0, 0, 0), (1, .aload 0, 0, 0), (2, .getfield 46, 3, 7), (5, .putfield 145, 3, 6), (8, .nop, 0, 0)]
abbrev mo_Rd_next_8 : List mmO := [(8, .aload 0, 0, 0), (9, .getfield 145, 3, 6), (12, .aload 0, 0, 0), (13, .getfield 43, 3, 4), (16, .if_icmp .ge 0, 46, 0), (19, .aload 0, 0, 0), (20, .aload 0, 0, 0), (21, .getfield 145, 3, 6), (24, .invokevirtual 153, 317, 2), (27, .invokestatic 161, 318, 1), (30, .ifCond .eq 0, 46, 0), (33, .aload 0, 0, 0), (34, .dup, 0, 0), (35, .getfield 145, 3, 6), (38, .iconst (1), 0, 0), (39, .iadd, 0, 0), (40, .putfield 145, 3, 6), (43, .goto 0, 8, 0)]
abbrev mo_Rd_next_46 : List mmO := [(46, .aload 0, 0, 0), (47, .aload 0, 0, 0), (48, .getfield 145, 3, 6), (51, .iconst (1), 0, 0), (52, .iadd, 0, 0), (53, .aload 0, 0, 0), (54, .getfield 43, 3, 4), (57, .fsub, 0, 0), (60, .putfield 46, 3, 7), (63, .aload 0, 0, 0), (64, .aload 0, 0, 0), (65, .getfield 145, 3, 6), (68, .invokevirtual 153, 317, 2), (71, .istore 1, 0, 0), (72, .aload 0, 0, 0), (73, .getfield 145, 3, 6), (76, .aload 0, 0, 0), (77, .getfield 43, 3, 4), (80, .if_icmp .lt 0, 91, 0), (83, .aload 0, 0, 0), (84, .iconst (0), 0, 0), (85, .putfield 59, 3, 5), (88, .goto 0, 152, 0)]
abbrev mo_Rd_next_91 : List mmO := [(91, .iload 1, 0, 0), (92, .iconst (59), 0, 0), (94, .if_icmp .ne 0, 105, 0), (97, .aload 0, 0, 0), (98, .iconst (3), 0, 0), (99, .putfield 59, 3, 5), (102, .goto 0, 152, 0)]
abbrev mo_Rd_next_105 : List mmO := [(105, .iload 1, 0, 0), (106, .iconst (44), 0, 0), (108, .if_icmp .ne 0, 119, 0), (111, .aload 0, 0, 0), (112, .iconst (4), 0, 0), (113, .putfield 59, 3, 5), (116, .goto 0, 152, 0)]
abbrev mo_Rd_next_119 : List mmO := [(119, .iload 1, 0, 0), (120, .invokestatic 164, 319, 1), (123, .ifCond .eq 0, 133, 0), (126, .aload 0, 0, 0), (127, .invokevirtual 167, 315, 1), (130, .goto 0, 152, 0)]
abbrev mo_Rd_next_133 : List mmO := [(133, .iload 1, 0, 0), (134, .invokestatic 170, 320, 1), (137, .ifCond .eq 0, 147, 0), (140, .aload 0, 0, 0), (141, .invokevirtual 173, 316, 1), (144, .goto 0, 152, 0)]
abbrev mo_Rd_next_147 : List mmO := [(147, .aload 0, 0, 0), (148, .iconst (5), 0, 0), (149, .putfield 59, 3, 5), (152, .nop, 0, 0)]
abbrev mo_Rd_next_152 : List mmO := [(152, .return_, 0, 0)]
def mb_Rd_next : Nat → List mmO := fun b => match b with
  | 0 => mo_Rd_next_0
  | 8 => mo_Rd_next_8
  | 46 => mo_Rd_next_46
  | 91 => mo_Rd_next_91
  | 105 => mo_Rd_next_105
  | 119 => mo_Rd_next_119
  | 133 => mo_Rd_next_133
  | 147 => mo_Rd_next_147
  | 152 => mo_Rd_next_152
  | _ => []
abbrev mo_Rd_readWord_0 : List mmO := [(0, .aload 0, 0, 0), (1, .getfield 46, 3, 7), (4, .aload 0, 0, 0), (5, .getfield 43, 3, 4), (8, .if_icmp .ge 0, 38, 0), (11, .aload 0, 0, 0), (12, .aload 0, 0, 0), (13, .getfield 46, 3, 7), (16, .invokevirtual 153, 317, 2), (19, .invokestatic 164, 319, 1), (22, .ifCond .eq 0, 38, 0), (25, .aload 0, 0, 0), (26, .dup, 0, 0), (27, .getfield 46, 3, 7), (30, .iconst (1), 0, 0), (31, .iadd, 0, 0), (32, .putfield 46, 3, 7), (35, .goto 0, 0, 0)]
abbrev mo_Rd_readWord_38 : List mmO := [(38, .aload 0, 0, 0), (39, .aload 0, 0, 0), (40, .getfield 46, 3, 7), (43, .aload 0, 0, 0), (44, .getfield 145, 3, 6), (47, .isub, 0, 0), (48, .iconst (7), 0, 0), (50, .if_icmp .gt 0, 57, 0), (53, .iconst (1), 0, 0), (54, .goto 0, 58, 0)]
abbrev mo_Rd_readWord_57 : List mmO := [(57, .iconst (5), 0, 0), (58, .nop, 0, 0)]
abbrev mo_Rd_readWord_58 : List mmO := [(58, .putfield 59, 3, 5), (61, .return_, 0, 0)]
def mb_Rd_readWord : Nat → List mmO := fun b => match b with
  | 0 => mo_Rd_readWord_0
  | 38 => mo_Rd_readWord_38
  | 57 => mo_Rd_readWord_57
  | 58 => mo_Rd_readWord_58
  | _ => []
abbrev mo_Rd_readWhole_0 : List mmO := [(0, .aload 0, 0, 0), (1, .aload 0, 0, 0), (2, .aload 0, 0, 0), (3, .getfield 145, 3, 6), (6, .invokevirtual 153, 317, 2), (9, .iconst (48), 0, 0), (11, .isub, 0, 0), (12, .putfield 98, 3, 8), (15, .nop, 0, 0)]
abbrev mo_Rd_readWhole_15 : List mmO := [(15, .aload 0, 0, 0), (16, .getfield 46, 3, 7), (19, .aload 0, 0, 0), (20, .getfield 43, 3, 4), (23, .if_icmp .ge 0, 76, 0), (26, .aload 0, 0, 0), (27, .aload 0, 0, 0), (28, .getfield 46, 3, 7), (31, .invokevirtual 153, 317, 2), (34, .invokestatic 170, 320, 1), (37, .ifCond .eq 0, 76, 0), (40, .aload 0, 0, 0), (41, .iconst (10), 0, 0), (43, .aload 0, 0, 0), (44, .getfield 98, 3, 8), (47, .imul, 0, 0), (48, .aload 0, 0, 0), (49, .aload 0, 0, 0), (50, .getfield 46, 3, 7), (53, .invokevirtual 153, 317, 2), (56, .iadd, 0, 0), (57, .iconst (48), 0, 0), (59, .isub, 0, 0), (60, .putfield 98, 3, 8), (63, .aload 0, 0, 0), (64, .dup, 0, 0), (65, .getfield 46, 3, 7), (68, .iconst (1), 0, 0), (69, .iadd, 0, 0), (70, .putfield 46, 3, 7), (73, .goto 0, 15, 0)]
abbrev mo_Rd_readWhole_76 : List mmO := [(76, .aload 0, 0, 0), (77, .aload 0, 0, 0), (78, .getfield 46, 3, 7), (81, .aload 0, 0, 0), (82, .getfield 145, 3, 6), (85, .isub, 0, 0), (86, .iconst (2), 0, 0), (87, .if_icmp .gt 0, 94, 0), (90, .iconst (2), 0, 0), (91, .goto 0, 95, 0)]
abbrev mo_Rd_readWhole_94 : List mmO := [(94, .iconst (5), 0, 0), (95, .nop, 0, 0)]
abbrev mo_Rd_readWhole_95 : List mmO := [(95, .putfield 59, 3, 5), (98, .return_, 0, 0)]
def mb_Rd_readWhole : Nat → List mmO := fun b => match b with
  | 0 => mo_Rd_readWhole_0
  | 15 => mo_Rd_readWhole_15
  | 76 => mo_Rd_readWhole_76
  | 94 => mo_Rd_readWhole_94
  | 95 => mo_Rd_readWhole_95
  | _ => []
abbrev mo_Rd_byteAt_0 : List mmO := [(0, .iload 1, 0, 0), (1, .ifCond .lt 0, 28, 0), (4, .iload 1, 0, 0), (5, .aload 0, 0, 0), (6, .getfield 43, 3, 4), (9, .if_icmp .ge 0, 28, 0), (12, .iload 1, 0, 0), (13, .iconst (600), 0, 0), (16, .if_icmp .ge 0, 28, 0), (19, .aload 0, 0, 0), (20, .getstatic 9, 3, 1), (23, .iload 1, 0, 0), (24, .baload, 0, 0), (25, .goto 0, 29, 0)]
abbrev mo_Rd_byteAt_28 : List mmO := [(28, .iconst (-1), 0, 0), (29, .nop, 0, 0)]
abbrev mo_Rd_byteAt_29 : List mmO := [(29, .ireturn, 0, 0)]
def mb_Rd_byteAt : Nat → List mmO := fun b => match b with
  | 0 => mo_Rd_byteAt_0
  | 28 => mo_Rd_byteAt_28
  | 29 => mo_Rd_byteAt_29
  | _ => []
abbrev mo_Rd_isBlank_0 : List mmO := [(0, .iload 0, 0, 0), (1, .iconst (32), 0, 0), (3, .if_icmp .eq 0, 12, 0), (6, .iload 0, 0, 0), (7, .iconst (10), 0, 0), (9, .if_icmp .ne 0, 16, 0), (12, .nop, 0, 0)]
abbrev mo_Rd_isBlank_12 : List mmO := [(12, .iconst (1), 0, 0), (13, .goto 0, 17, 0)]
abbrev mo_Rd_isBlank_16 : List mmO := [(16, .iconst (0), 0, 0), (17, .nop, 0, 0)]
abbrev mo_Rd_isBlank_17 : List mmO := [(17, .freturn, 0, 0)]
def mb_Rd_isBlank : Nat → List mmO := fun b => match b with
  | 0 => mo_Rd_isBlank_0
  | 12 => mo_Rd_isBlank_12
  | 16 => mo_Rd_isBlank_16
  | 17 => mo_Rd_isBlank_17
  | _ => []
abbrev mo_Rd_isLetter_0 : List mmO := [(0, .iload 0, 0, 0), (1, .iconst (97), 0, 0), (3, .if_icmp .lt 0, 16, 0), (6, .iload 0, 0, 0), (7, .iconst (122), 0, 0), (9, .if_icmp .gt 0, 16, 0), (12, .iconst (1), 0, 0), (13, .goto 0, 17, 0)]
abbrev mo_Rd_isLetter_16 : List mmO := [(16, .iconst (0), 0, 0), (17, .nop, 0, 0)]
abbrev mo_Rd_isLetter_17 : List mmO := [(17, .freturn, 0, 0)]
def mb_Rd_isLetter : Nat → List mmO := fun b => match b with
  | 0 => mo_Rd_isLetter_0
  | 16 => mo_Rd_isLetter_16
  | 17 => mo_Rd_isLetter_17
  | _ => []
abbrev mo_Rd_isDigit_0 : List mmO := [(0, .iload 0, 0, 0), (1, .iconst (48), 0, 0), (3, .if_icmp .lt 0, 16, 0), (6, .iload 0, 0, 0), (7, .iconst (57), 0, 0), (9, .if_icmp .gt 0, 16, 0), (12, .iconst (1), 0, 0), (13, .goto 0, 17, 0)]
abbrev mo_Rd_isDigit_16 : List mmO := [(16, .iconst (0), 0, 0), (17, .nop, 0, 0)]
abbrev mo_Rd_isDigit_17 : List mmO := [(17, .freturn, 0, 0)]
def mb_Rd_isDigit : Nat → List mmO := fun b => match b with
  | 0 => mo_Rd_isDigit_0
  | 16 => mo_Rd_isDigit_16
  | 17 => mo_Rd_isDigit_17
  | _ => []
abbrev mo_Row_clear_0 : List mmO := [(0, .aload 0, 0, 0), (1, .iconst (0), 0, 0), (2, .putfield 24, 4, 4), (5, .aload 0, 0, 0), (6, .iconst (0), 0, 0), (7, .putfield 28, 4, 5), (10, .return_, 0, 0)]
def mb_Row_clear : Nat → List mmO := fun b => match b with
  | 0 => mo_Row_clear_0
  | _ => []
abbrev mo_Row_copyFrom_0 : List mmO := [(0, .aload 1, 0, 0), (1, .getstatic 9, 4, 1), (4, .iconst (0), 0, 0), (5, .aload 0, 0, 0), (6, .getstatic 9, 4, 1), (9, .iconst (0), 0, 0), (10, .iconst (60), 0, 0), (12, .fmul, 0, 0), (15, .aload 1, 0, 0), (16, .getstatic 15, 4, 2), (19, .iconst (0), 0, 0), (20, .aload 0, 0, 0), (21, .getstatic 15, 4, 2), (24, .iconst (0), 0, 0), (25, .iconst (32), 0, 0), (27, .fmul, 0, 0), (30, .aload 1, 0, 0), (31, .getstatic 18, 4, 3), (34, .iconst (0), 0, 0), (35, .aload 0, 0, 0), (36, .getstatic 18, 4, 3), (39, .iconst (0), 0, 0), (40, .iconst (32), 0, 0), (42, .fmul, 0, 0), (45, .aload 0, 0, 0), (46, .aload 1, 0, 0), (47, .getfield 24, 4, 4), (50, .putfield 24, 4, 4), (53, .aload 0, 0, 0), (54, .aload 1, 0, 0), (55, .getfield 28, 4, 5), (58, .putfield 28, 4, 5), (61, .return_, 0, 0)]
def mb_Row_copyFrom : Nat → List mmO := fun b => match b with
  | 0 => mo_Row_copyFrom_0
  | _ => []
abbrev mo_Row_has_0 : List mmO := [(0, .iload 1, 0, 0), (1, .ifCond .lt 0, 16, 0), (4, .iload 1, 0, 0), (5, .aload 0, 0, 0), (6, .getfield 24, 4, 4), (9, .if_icmp .ge 0, 16, 0), (12, .iconst (1), 0, 0), (13, .goto 0, 17, 0)]
abbrev mo_Row_has_16 : List mmO := [(16, .iconst (0), 0, 0), (17, .nop, 0, 0)]
abbrev mo_Row_has_17 : List mmO := [(17, .freturn, 0, 0)]
def mb_Row_has : Nat → List mmO := fun b => match b with
  | 0 => mo_Row_has_0
  | 16 => mo_Row_has_16
  | 17 => mo_Row_has_17
  | _ => []
abbrev mo_Row_hasTime_0 : List mmO := [(0, .iload 1, 0, 0), (1, .ifCond .lt 0, 16, 0), (4, .iload 1, 0, 0), (5, .aload 0, 0, 0), (6, .getfield 28, 4, 5), (9, .if_icmp .gt 0, 16, 0), (12, .iconst (1), 0, 0), (13, .goto 0, 17, 0)]
abbrev mo_Row_hasTime_16 : List mmO := [(16, .iconst (0), 0, 0), (17, .nop, 0, 0)]
abbrev mo_Row_hasTime_17 : List mmO := [(17, .freturn, 0, 0)]
def mb_Row_hasTime : Nat → List mmO := fun b => match b with
  | 0 => mo_Row_hasTime_0
  | 16 => mo_Row_hasTime_16
  | 17 => mo_Row_hasTime_17
  | _ => []
abbrev mo_Row_hasRoomForCell_0 : List mmO := [(0, .aload 0, 0, 0), (1, .getfield 24, 4, 4), (4, .iconst (60), 0, 0), (6, .if_icmp .ge 0, 13, 0), (9, .iconst (1), 0, 0), (10, .goto 0, 14, 0)]
abbrev mo_Row_hasRoomForCell_13 : List mmO := [(13, .iconst (0), 0, 0), (14, .nop, 0, 0)]
abbrev mo_Row_hasRoomForCell_14 : List mmO := [(14, .freturn, 0, 0)]
def mb_Row_hasRoomForCell : Nat → List mmO := fun b => match b with
  | 0 => mo_Row_hasRoomForCell_0
  | 13 => mo_Row_hasRoomForCell_13
  | 14 => mo_Row_hasRoomForCell_14
  | _ => []
abbrev mo_Row_hasRoomForChange_0 : List mmO := [(0, .aload 0, 0, 0), (1, .getfield 28, 4, 5), (4, .iconst (32), 0, 0), (6, .if_icmp .ge 0, 13, 0), (9, .iconst (1), 0, 0), (10, .goto 0, 14, 0)]
abbrev mo_Row_hasRoomForChange_13 : List mmO := [(13, .iconst (0), 0, 0), (14, .nop, 0, 0)]
abbrev mo_Row_hasRoomForChange_14 : List mmO := [(14, .freturn, 0, 0)]
def mb_Row_hasRoomForChange : Nat → List mmO := fun b => match b with
  | 0 => mo_Row_hasRoomForChange_0
  | 13 => mo_Row_hasRoomForChange_13
  | 14 => mo_Row_hasRoomForChange_14
  | _ => []
abbrev mo_Row_addCell_0 : List mmO := [(0, .aload 0, 0, 0), (1, .invokevirtual 37, 405, 1), (4, .ifCond .eq 0, 27, 0), (7, .aload 0, 0, 0), (8, .getstatic 9, 4, 1), (11, .aload 0, 0, 0), (12, .getfield 24, 4, 4), (15, .iload 1, 0, 0), (16, .iastore, 0, 0), (17, .aload 0, 0, 0), (18, .dup, 0, 0), (19, .getfield 24, 4, 4), (22, .iconst (1), 0, 0), (23, .iadd, 0, 0), (24, .putfield 24, 4, 4), (27, .nop, 0, 0)]
abbrev mo_Row_addCell_27 : List mmO := [(27, .return_, 0, 0)]
def mb_Row_addCell : Nat → List mmO := fun b => match b with
  | 0 => mo_Row_addCell_0
  | 27 => mo_Row_addCell_27
  | _ => []
abbrev mo_Row_setCell_0 : List mmO := [(0, .aload 0, 0, 0), (1, .iload 1, 0, 0), (2, .invokevirtual 41, 403, 2), (5, .ifCond .eq 0, 15, 0), (8, .aload 0, 0, 0), (9, .getstatic 9, 4, 1), (12, .iload 1, 0, 0), (13, .iload 2, 0, 0), (14, .iastore, 0, 0), (15, .nop, 0, 0)]
abbrev mo_Row_setCell_15 : List mmO := [(15, .return_, 0, 0)]
def mb_Row_setCell : Nat → List mmO := fun b => match b with
  | 0 => mo_Row_setCell_0
  | 15 => mo_Row_setCell_15
  | _ => []
abbrev mo_Row_addChange_0 : List mmO := [(0, .aload 0, 0, 0), (1, .invokevirtual 45, 406, 1), (4, .ifCond .eq 0, 37, 0), (7, .aload 0, 0, 0), (8, .getstatic 15, 4, 2), (11, .aload 0, 0, 0), (12, .getfield 28, 4, 5), (15, .iload 1, 0, 0), (16, .iastore, 0, 0), (17, .aload 0, 0, 0), (18, .getstatic 18, 4, 3), (21, .aload 0, 0, 0), (22, .getfield 28, 4, 5), (25, .iload 2, 0, 0), (26, .iastore, 0, 0), (27, .aload 0, 0, 0), (28, .dup, 0, 0), (29, .getfield 28, 4, 5), (32, .iconst (1), 0, 0), (33, .iadd, 0, 0), (34, .putfield 28, 4, 5), (37, .nop, 0, 0)]
abbrev mo_Row_addChange_37 : List mmO := [(37, .return_, 0, 0)]
def mb_Row_addChange : Nat → List mmO := fun b => match b with
  | 0 => mo_Row_addChange_0
  | 37 => mo_Row_addChange_37
  | _ => []
abbrev mo_Row_removeLastChange_0 : List mmO := [(0, .aload 0, 0, 0), (1, .getfield 28, 4, 5), (4, .ifCond .le 0, 17, 0), (7, .aload 0, 0, 0), (8, .dup, 0, 0), (9, .getfield 28, 4, 5), (12, .iconst (1), 0, 0), (13, .isub, 0, 0), (14, .putfield 28, 4, 5), (17, .nop, 0, 0)]
abbrev mo_Row_removeLastChange_17 : List mmO := [(17, .return_, 0, 0)]
def mb_Row_removeLastChange : Nat → List mmO := fun b => match b with
  | 0 => mo_Row_removeLastChange_0
  | 17 => mo_Row_removeLastChange_17
  | _ => []
abbrev mo_Row_numberAt_0 : List mmO := [(0, .iload 2, 0, 0), (1, .aload 0, 0, 0), (2, .getfield 28, 4, 5), (5, .fsub, 0, 0), (8, .iconst (1), 0, 0), (9, .isub, 0, 0), (10, .istore 3, 0, 0), (11, .nop, 0, 0)]
abbrev mo_Row_numberAt_11 : List mmO := [(11, .iload 3, 0, 0), (12, .ifCond .lt 0, 38, 0), (15, .aload 0, 0, 0), (16, .getstatic 15, 4, 2), (19, .iload 3, 0, 0), (20, .iaload, 0, 0), (21, .iload 1, 0, 0), (22, .if_icmp .ne 0, 32, 0), (25, .aload 0, 0, 0), (26, .getstatic 18, 4, 3), (29, .iload 3, 0, 0), (30, .iaload, 0, 0), (31, .ireturn, 0, 0)]
abbrev mo_Row_numberAt_32 : List mmO := [(32, .iinc 3 (-1), 0, 0), (35, .goto 0, 11, 0)]
abbrev mo_Row_numberAt_38 : List mmO := [(38, .aload 0, 0, 0), (39, .iload 1, 0, 0), (40, .invokevirtual 41, 403, 2), (43, .ifCond .eq 0, 55, 0), (46, .aload 0, 0, 0), (47, .getstatic 9, 4, 1), (50, .iload 1, 0, 0), (51, .iaload, 0, 0), (52, .goto 0, 56, 0)]
abbrev mo_Row_numberAt_55 : List mmO := [(55, .iconst (-1), 0, 0), (56, .nop, 0, 0)]
abbrev mo_Row_numberAt_56 : List mmO := [(56, .ireturn, 0, 0)]
def mb_Row_numberAt : Nat → List mmO := fun b => match b with
  | 0 => mo_Row_numberAt_0
  | 11 => mo_Row_numberAt_11
  | 32 => mo_Row_numberAt_32
  | 38 => mo_Row_numberAt_38
  | 55 => mo_Row_numberAt_55
  | 56 => mo_Row_numberAt_56
  | _ => []
abbrev mo_Row_asAt_0 : List mmO := [(0, .aload 0, 0, 0), (1, .getstatic 9, 4, 1), (4, .iconst (0), 0, 0), (5, .aload 0, 0, 0), (6, .getstatic 21, 4, 4), (9, .iconst (0), 0, 0), (10, .iconst (60), 0, 0), (12, .fmul, 0, 0), (15, .iconst (0), 0, 0), (16, .istore 2, 0, 0), (17, .nop, 0, 0)]
abbrev mo_Row_asAt_17 : List mmO := [(17, .iload 2, 0, 0), (18, .iload 1, 0, 0), (19, .if_icmp .ge 0, 63, 0), (22, .iload 2, 0, 0), (23, .aload 0, 0, 0), (24, .getfield 28, 4, 5), (27, .if_icmp .ge 0, 63, 0), (30, .aload 0, 0, 0), (31, .getstatic 15, 4, 2), (34, .iload 2, 0, 0), (35, .iaload, 0, 0), (36, .istore 3, 0, 0), (37, .aload 0, 0, 0), (38, .iload 3, 0, 0), (39, .invokevirtual 41, 403, 2), (42, .ifCond .eq 0, 57, 0), (45, .aload 0, 0, 0), (46, .getstatic 21, 4, 4), (49, .iload 3, 0, 0), (50, .aload 0, 0, 0), (51, .getstatic 18, 4, 3), (54, .iload 2, 0, 0), (55, .iaload, 0, 0), (56, .iastore, 0, 0), (57, .nop, 0, 0)]
abbrev mo_Row_asAt_57 : List mmO := [(57, .iinc 2 (1), 0, 0), (60, .goto 0, 17, 0)]
abbrev mo_Row_asAt_63 : List mmO := [(63, .aload 0, 0, 0), (64, .getstatic 21, 4, 4), (67, .areturn, 0, 0)]
def mb_Row_asAt : Nat → List mmO := fun b => match b with
  | 0 => mo_Row_asAt_0
  | 17 => mo_Row_asAt_17
  | 57 => mo_Row_asAt_57
  | 63 => mo_Row_asAt_63
  | _ => []
abbrev mo_Srt_key_0 : List mmO := [(0, .iload 0, 0, 0), (1, .iconst (64), 0, 0), (3, .imul, 0, 0), (4, .iload 1, 0, 0), (5, .iadd, 0, 0), (6, .iconst (64), 0, 0), (8, .imul, 0, 0), (9, .iload 2, 0, 0), (10, .iadd, 0, 0), (11, .iconst (32), 0, 0), (13, .imul, 0, 0), (14, .iload 3, 0, 0), (15, .iadd, 0, 0), (16, .ireturn, 0, 0)]
def mb_Srt_key : Nat → List mmO := fun b => match b with
  | 0 => mo_Srt_key_0
  | _ => []
abbrev mo_Srt_insert_0 : List mmO := [(0, .aload 0, 0, 0), (1, .getfield 15, 5, 1), (4, .iconst (24), 0, 0), (6, .if_icmp .le 0, 10, 0), (9, .return_, 0, 0)]
abbrev mo_Srt_insert_10 : List mmO := [(10, .aload 0, 0, 0), (11, .getfield 15, 5, 1), (14, .istore 2, 0, 0), (15, .nop, 0, 0)]
abbrev mo_Srt_insert_15 : List mmO := [(15, .iload 2, 0, 0), (16, .ifCond .le 0, 51, 0), (19, .aload 0, 0, 0), (20, .getstatic 9, 5, 1), (23, .iload 2, 0, 0), (24, .iconst (1), 0, 0), (25, .isub, 0, 0), (26, .iaload, 0, 0), (27, .iload 1, 0, 0), (28, .if_icmp .le 0, 51, 0), (31, .aload 0, 0, 0), (32, .getstatic 9, 5, 1), (35, .iload 2, 0, 0), (36, .aload 0, 0, 0), (37, .getstatic 9, 5, 1), (40, .iload 2, 0, 0), (41, .iconst (1), 0, 0), (42, .isub, 0, 0), (43, .iaload, 0, 0), (44, .iastore, 0, 0), (45, .iinc 2 (-1), 0, 0), (48, .goto 0, 15, 0)]
abbrev mo_Srt_insert_51 : List mmO := [(51, .aload 0, 0, 0), (52, .getstatic 9, 5, 1), (55, .iload 2, 0, 0), (56, .iload 1, 0, 0), (57, .iastore, 0, 0), (58, .aload 0, 0, 0), (59, .dup, 0, 0), (60, .getfield 15, 5, 1), (63, .iconst (1), 0, 0), (64, .iadd, 0, 0), (65, .putfield 15, 5, 1), (68, .return_, 0, 0)]
def mb_Srt_insert : Nat → List mmO := fun b => match b with
  | 0 => mo_Srt_insert_0
  | 10 => mo_Srt_insert_10
  | 15 => mo_Srt_insert_15
  | 51 => mo_Srt_insert_51
  | _ => []
abbrev mo_Srt_question_0 : List mmO := [(0, .iload 1, 0, 0), (1, .ifCond .lt 0, 24, 0), (4, .iload 1, 0, 0), (5, .aload 0, 0, 0), (6, .getfield 15, 5, 1), (9, .if_icmp .ge 0, 24, 0), (12, .aload 0, 0, 0), (13, .getstatic 9, 5, 1), (16, .iload 1, 0, 0), (17, .iaload, 0, 0), (18, .iconst (32), 0, 0), (20, .irem, 0, 0), (21, .goto 0, 25, 0)]
abbrev mo_Srt_question_24 : List mmO := [(24, .iconst (-1), 0, 0), (25, .nop, 0, 0)]
abbrev mo_Srt_question_25 : List mmO := [(25, .ireturn, 0, 0)]
def mb_Srt_question : Nat → List mmO := fun b => match b with
  | 0 => mo_Srt_question_0
  | 24 => mo_Srt_question_24
  | 25 => mo_Srt_question_25
  | _ => []
abbrev mo_Srt_goesOn_0 : List mmO := [(0, .iconst (2048), 0, 0), (3, .istore 2, 0, 0), (4, .iload 1, 0, 0), (5, .ifCond .le 0, 41, 0), (8, .iload 1, 0, 0), (9, .aload 0, 0, 0), (10, .getfield 15, 5, 1), (13, .if_icmp .ge 0, 41, 0), (16, .aload 0, 0, 0), (17, .getstatic 9, 5, 1), (20, .iload 1, 0, 0), (21, .iaload, 0, 0), (22, .iload 2, 0, 0), (23, .idiv, 0, 0), (24, .aload 0, 0, 0), (25, .getstatic 9, 5, 1), (28, .iload 1, 0, 0), (29, .iconst (1), 0, 0), (30, .isub, 0, 0), (31, .iaload, 0, 0), (32, .iload 2, 0, 0), (33, .idiv, 0, 0), (34, .if_icmp .ne 0, 41, 0), (37, .iconst (1), 0, 0), (38, .goto 0, 42, 0)]
abbrev mo_Srt_goesOn_41 : List mmO := [(41, .iconst (0), 0, 0), (42, .nop, 0, 0)]
abbrev mo_Srt_goesOn_42 : List mmO := [(42, .freturn, 0, 0)]
def mb_Srt_goesOn : Nat → List mmO := fun b => match b with
  | 0 => mo_Srt_goesOn_0
  | 41 => mo_Srt_goesOn_41
  | 42 => mo_Srt_goesOn_42
  | _ => []
abbrev mo_Spl_measure_0 : List mmO := [(0, .aload 0, 0, 0), (1, .aload 1, 0, 0), (2, .getstatic 30, 1, 1), (5, .getfield 36, 5, 1), (8, .iconst (24), 0, 0), (10, .fsub, 0, 0), (13, .putfield 48, 6, 4), (16, .aload 1, 0, 0), (17, .getstatic 49, 1, 3), (20, .invokevirtual 52, 901, 1), (23, .iconst (0), 0, 0), (24, .istore 4, 0, 0), (26, .nop, 0, 0)]
abbrev mo_Spl_measure_26 : List mmO := [(26, .iload 4, 0, 0), (28, .aload 0, 0, 0), (29, .getfield 48, 6, 4), (32, .if_icmp .ge 0, 139, 0), (35, .aload 1, 0, 0), (36, .getstatic 30, 1, 1), (39, .iload 4, 0, 0), (41, .invokevirtual 55, 503, 2), (44, .istore 5, 0, 0), (46, .aload 0, 0, 0), (47, .getstatic 26, 6, 9), (50, .invokevirtual 52, 901, 1), (53, .aload 2, 0, 0), (54, .aload 0, 0, 0), (55, .getstatic 26, 6, 9), (58, .iload 5, 0, 0), (60, .invokevirtual 59, 212, 3), (63, .aload 0, 0, 0), (64, .getstatic 26, 6, 9), (67, .aload 0, 0, 0), (68, .getstatic 26, 6, 9), (71, .invokevirtual 65, 905, 1), (74, .invokevirtual 69, 907, 2), (77, .pop, 0, 0), (78, .aload 0, 0, 0), (79, .getstatic 9, 6, 1), (82, .iload 4, 0, 0), (84, .aload 0, 0, 0), (85, .getstatic 26, 6, 9), (88, .iload 3, 0, 0), (89, .invokevirtual 72, 903, 2), (92, .iastore, 0, 0), (93, .aload 2, 0, 0), (94, .aload 1, 0, 0), (95, .getstatic 49, 1, 3), (98, .iload 5, 0, 0), (100, .invokevirtual 59, 212, 3), (103, .aload 1, 0, 0), (104, .getstatic 49, 1, 3), (107, .aload 1, 0, 0), (108, .getstatic 49, 1, 3), (111, .invokevirtual 65, 905, 1), (114, .invokevirtual 69, 907, 2), (117, .pop, 0, 0), (118, .aload 0, 0, 0), (119, .getstatic 15, 6, 2), (122, .iload 4, 0, 0), (124, .aload 1, 0, 0), (125, .getstatic 49, 1, 3), (128, .iload 3, 0, 0), (129, .invokevirtual 72, 903, 2), (132, .iastore, 0, 0), (133, .iinc 4 (1), 0, 0), (136, .goto 0, 26, 0)]
abbrev mo_Spl_measure_139 : List mmO := [(139, .return_, 0, 0)]
def mb_Spl_measure : Nat → List mmO := fun b => match b with
  | 0 => mo_Spl_measure_0
  | 26 => mo_Spl_measure_26
  | 139 => mo_Spl_measure_139
  | _ => []
abbrev mo_Spl_costOfRow_0 : List mmO := [(0, .iload 1, 0, 0), (1, .ifCond .lt 0, 17, 0), (4, .iload 1, 0, 0), (5, .iload 2, 0, 0), (6, .if_icmp .ge 0, 17, 0), (9, .iload 2, 0, 0), (10, .aload 0, 0, 0), (11, .getfield 48, 6, 4), (14, .if_icmp .le 0, 19, 0), (17, .nop, 0, 0)]
abbrev mo_Spl_costOfRow_17 : List mmO := [(17, .iconst (0), 0, 0), (18, .ireturn, 0, 0)]
abbrev mo_Spl_costOfRow_19 : List mmO := [(19, .aload 0, 0, 0), (20, .getstatic 9, 6, 1), (23, .iload 1, 0, 0), (24, .iaload, 0, 0), (25, .aload 0, 0, 0), (26, .getstatic 15, 6, 2), (29, .iload 2, 0, 0), (30, .iconst (1), 0, 0), (31, .isub, 0, 0), (32, .iaload, 0, 0), (33, .iadd, 0, 0), (34, .aload 0, 0, 0), (35, .getstatic 15, 6, 2), (38, .iload 1, 0, 0), (39, .iaload, 0, 0), (40, .isub, 0, 0), (41, .ireturn, 0, 0)]
def mb_Spl_costOfRow : Nat → List mmO := fun b => match b with
  | 0 => mo_Spl_costOfRow_0
  | 17 => mo_Spl_costOfRow_17
  | 19 => mo_Spl_costOfRow_19
  | _ => []
abbrev mo_Spl_solve_0 : List mmO := [(0, .iconst (0), 0, 0), (1, .istore 2, 0, 0), (2, .nop, 0, 0)]
abbrev mo_Spl_solve_2 : List mmO := [(2, .iload 2, 0, 0), (3, .aload 0, 0, 0), (4, .getfield 48, 6, 4), (7, .if_icmp .gt 0, 38, 0), (10, .aload 0, 0, 0), (11, .getstatic 20, 6, 3), (14, .iconst (0), 0, 0), (15, .aaload, 0, 0), (16, .iload 2, 0, 0), (17, .iload 2, 0, 0), (18, .aload 0, 0, 0), (19, .getfield 48, 6, 4), (22, .if_icmp .ne 0, 29, 0), (25, .iconst (0), 0, 0), (26, .goto 0, 31, 0)]
abbrev mo_Spl_solve_29 : List mmO := [(29, .iconst (1000000000), 0, 0), (31, .nop, 0, 0)]
abbrev mo_Spl_solve_31 : List mmO := [(31, .iastore, 0, 0), (32, .iinc 2 (1), 0, 0), (35, .goto 0, 2, 0)]
abbrev mo_Spl_solve_38 : List mmO := [(38, .iconst (1), 0, 0), (39, .istore 2, 0, 0), (40, .nop, 0, 0)]
abbrev mo_Spl_solve_40 : List mmO := [(40, .iload 2, 0, 0), (41, .iload 1, 0, 0), (42, .if_icmp .gt 0, 86, 0), (45, .iload 2, 0, 0), (46, .iconst (4), 0, 0), (47, .if_icmp .gt 0, 86, 0), (50, .iconst (0), 0, 0), (51, .istore 3, 0, 0), (52, .nop, 0, 0)]
abbrev mo_Spl_solve_52 : List mmO := [(52, .iload 3, 0, 0), (53, .aload 0, 0, 0), (54, .getfield 48, 6, 4), (57, .if_icmp .gt 0, 80, 0), (60, .aload 0, 0, 0), (61, .getstatic 20, 6, 3), (64, .iload 2, 0, 0), (65, .aaload, 0, 0), (66, .iload 3, 0, 0), (67, .aload 0, 0, 0), (68, .iload 2, 0, 0), (69, .iload 3, 0, 0), (70, .invokevirtual 76, 604, 3), (73, .iastore, 0, 0), (74, .iinc 3 (1), 0, 0), (77, .goto 0, 52, 0)]
abbrev mo_Spl_solve_80 : List mmO := [(80, .iinc 2 (1), 0, 0), (83, .goto 0, 40, 0)]
abbrev mo_Spl_solve_86 : List mmO := [(86, .return_, 0, 0)]
def mb_Spl_solve : Nat → List mmO := fun b => match b with
  | 0 => mo_Spl_solve_0
  | 2 => mo_Spl_solve_2
  | 29 => mo_Spl_solve_29
  | 31 => mo_Spl_solve_31
  | 38 => mo_Spl_solve_38
  | 40 => mo_Spl_solve_40
  | 52 => mo_Spl_solve_52
  | 80 => mo_Spl_solve_80
  | 86 => mo_Spl_solve_86
  | _ => []
abbrev mo_Spl_leastFrom_0 : List mmO := [(0, .iconst (1000000000), 0, 0), (2, .istore 3, 0, 0), (3, .iload 2, 0, 0), (4, .istore 4, 0, 0), (6, .nop, 0, 0)]
abbrev mo_Spl_leastFrom_6 : List mmO := [(6, .iload 4, 0, 0), (8, .aload 0, 0, 0), (9, .getfield 48, 6, 4), (12, .if_icmp .gt 0, 47, 0), (15, .iload 3, 0, 0), (16, .aload 0, 0, 0), (17, .iload 2, 0, 0), (18, .iload 4, 0, 0), (20, .invokevirtual 79, 602, 3), (23, .aload 0, 0, 0), (24, .getstatic 20, 6, 3), (27, .iload 1, 0, 0), (28, .iconst (1), 0, 0), (29, .isub, 0, 0), (30, .aaload, 0, 0), (31, .iload 4, 0, 0), (33, .iaload, 0, 0), (34, .fadd, 0, 0), (37, .fsub, 0, 0), (40, .istore 3, 0, 0), (41, .iinc 4 (1), 0, 0), (44, .goto 0, 6, 0)]
abbrev mo_Spl_leastFrom_47 : List mmO := [(47, .iload 3, 0, 0), (48, .ireturn, 0, 0)]
def mb_Spl_leastFrom : Nat → List mmO := fun b => match b with
  | 0 => mo_Spl_leastFrom_0
  | 6 => mo_Spl_leastFrom_6
  | 47 => mo_Spl_leastFrom_47
  | _ => []
abbrev mo_Spl_greatest_0 : List mmO := [(0, .iload 1, 0, 0), (1, .ifCond .lt 0, 20, 0), (4, .iload 1, 0, 0), (5, .iconst (4), 0, 0), (6, .if_icmp .gt 0, 20, 0), (9, .aload 0, 0, 0), (10, .getstatic 20, 6, 3), (13, .iload 1, 0, 0), (14, .aaload, 0, 0), (15, .iconst (0), 0, 0), (16, .iaload, 0, 0), (17, .goto 0, 21, 0)]
abbrev mo_Spl_greatest_20 : List mmO := [(20, .iconst (-1), 0, 0), (21, .nop, 0, 0)]
abbrev mo_Spl_greatest_21 : List mmO := [(21, .ireturn, 0, 0)]
def mb_Spl_greatest : Nat → List mmO := fun b => match b with
  | 0 => mo_Spl_greatest_0
  | 20 => mo_Spl_greatest_20
  | 21 => mo_Spl_greatest_21
  | _ => []
abbrev mo_Spl_share_0 : List mmO := [(0, .aload 0, 0, 0), (1, .iload 1, 0, 0), (2, .invokevirtual 85, 605, 2), (5, .istore 3, 0, 0), (6, .iconst (0), 0, 0), (7, .istore 4, 0, 0), (9, .iconst (0), 0, 0), (10, .istore 5, 0, 0), (12, .iconst (1), 0, 0), (13, .istore 6, 0, 0), (15, .nop, 0, 0)]
abbrev mo_Spl_share_15 : List mmO := [(15, .iload 6, 0, 0), (17, .iload 2, 0, 0), (18, .if_icmp .gt 0, 57, 0), (21, .iload 6, 0, 0), (23, .iload 1, 0, 0), (24, .if_icmp .gt 0, 57, 0), (27, .aload 0, 0, 0), (28, .iload 4, 0, 0), (30, .iload 1, 0, 0), (31, .iload 6, 0, 0), (33, .isub, 0, 0), (34, .iload 3, 0, 0), (35, .invokevirtual 88, 607, 4), (38, .istore 7, 0, 0), (40, .iload 7, 0, 0), (42, .iload 4, 0, 0), (44, .isub, 0, 0), (45, .istore 5, 0, 0), (47, .iload 7, 0, 0), (49, .istore 4, 0, 0), (51, .iinc 6 (1), 0, 0), (54, .goto 0, 15, 0)]
abbrev mo_Spl_share_57 : List mmO := [(57, .iload 5, 0, 0), (59, .ireturn, 0, 0)]
def mb_Spl_share : Nat → List mmO := fun b => match b with
  | 0 => mo_Spl_share_0
  | 15 => mo_Spl_share_15
  | 57 => mo_Spl_share_57
  | _ => []
abbrev mo_Spl_furthest_0 : List mmO := [(0, .aload 0, 0, 0), (1, .getfield 48, 6, 4), (4, .istore 4, 0, 0), (6, .nop, 0, 0)]
abbrev mo_Spl_furthest_6 : List mmO := [(6, .iload 4, 0, 0), (8, .iload 1, 0, 0), (9, .if_icmp .le 0, 45, 0), (12, .aload 0, 0, 0), (13, .iload 1, 0, 0), (14, .iload 4, 0, 0), (16, .invokevirtual 79, 602, 3), (19, .iload 3, 0, 0), (20, .if_icmp .gt 0, 39, 0), (23, .aload 0, 0, 0), (24, .getstatic 20, 6, 3), (27, .iload 2, 0, 0), (28, .aaload, 0, 0), (29, .iload 4, 0, 0), (31, .iaload, 0, 0), (32, .iload 3, 0, 0), (33, .if_icmp .gt 0, 39, 0), (36, .iload 4, 0, 0), (38, .ireturn, 0, 0)]
abbrev mo_Spl_furthest_39 : List mmO := [(39, .iinc 4 (-1), 0, 0), (42, .goto 0, 6, 0)]
abbrev mo_Spl_furthest_45 : List mmO := [(45, .iload 1, 0, 0), (46, .ireturn, 0, 0)]
def mb_Spl_furthest : Nat → List mmO := fun b => match b with
  | 0 => mo_Spl_furthest_0
  | 6 => mo_Spl_furthest_6
  | 39 => mo_Spl_furthest_39
  | 45 => mo_Spl_furthest_45
  | _ => []
abbrev mo_Tal_take_0 : List mmO := [(0, .aload 0, 0, 0), (1, .getstatic 9, 7, 1), (4, .iconst (0), 0, 0), (5, .invokestatic 18, 1500, 2), (8, .iload 2, 0, 0), (9, .iconst (0), 0, 0), (10, .fadd, 0, 0), (13, .istore 4, 0, 0), (15, .nop, 0, 0)]
abbrev mo_Tal_take_15 : List mmO := [(15, .iload 4, 0, 0), (17, .iload 3, 0, 0), (18, .if_icmp .gt 0, 59, 0), (21, .iload 4, 0, 0), (23, .aload 1, 0, 0), (24, .arraylength, 0, 0), (25, .if_icmp .ge 0, 59, 0), (28, .aload 1, 0, 0), (29, .iload 4, 0, 0), (31, .iaload, 0, 0), (32, .istore 5, 0, 0), (34, .iload 5, 0, 0), (36, .invokestatic 30, 1029, 1), (39, .ifCond .eq 0, 53, 0), (42, .aload 0, 0, 0), (43, .getstatic 9, 7, 1), (46, .iload 5, 0, 0), (48, .dup2, 0, 0), (49, .iaload, 0, 0), (50, .iconst (1), 0, 0), (51, .iadd, 0, 0), (52, .iastore, 0, 0), (53, .nop, 0, 0)]
abbrev mo_Tal_take_53 : List mmO := [(53, .iinc 4 (1), 0, 0), (56, .goto 0, 15, 0)]
abbrev mo_Tal_take_59 : List mmO := [(59, .return_, 0, 0)]
def mb_Tal_take : Nat → List mmO := fun b => match b with
  | 0 => mo_Tal_take_0
  | 15 => mo_Tal_take_15
  | 53 => mo_Tal_take_53
  | 59 => mo_Tal_take_59
  | _ => []
abbrev mo_Tal_tell_0 : List mmO := [(0, .iload 1, 0, 0), (1, .lookupswitch 0 #[(0, 44), (1, 49), (2, 54), (3, 65), (4, 71), (5, 76), (6, 81)], 86, 0)]
abbrev mo_Tal_tell_44 : List mmO := [(44, .aload 0, 0, 0), (45, .invokevirtual 34, 703, 1), (48, .lreturn, 0, 0)]
abbrev mo_Tal_tell_49 : List mmO := [(49, .aload 0, 0, 0), (50, .invokevirtual 38, 704, 1), (53, .lreturn, 0, 0)]
abbrev mo_Tal_tell_54 : List mmO := [(54, .aload 0, 0, 0), (55, .getstatic 9, 7, 1), (58, .aload 0, 0, 0), (59, .invokevirtual 41, 705, 1), (62, .iaload, 0, 0), (63, .i2l, 0, 0), (64, .lreturn, 0, 0)]
abbrev mo_Tal_tell_65 : List mmO := [(65, .aload 0, 0, 0), (66, .invokevirtual 41, 705, 1), (69, .i2l, 0, 0), (70, .lreturn, 0, 0)]
abbrev mo_Tal_tell_71 : List mmO := [(71, .aload 0, 0, 0), (72, .invokevirtual 45, 706, 1), (75, .lreturn, 0, 0)]
abbrev mo_Tal_tell_76 : List mmO := [(76, .aload 0, 0, 0), (77, .invokevirtual 48, 707, 1), (80, .lreturn, 0, 0)]
abbrev mo_Tal_tell_81 : List mmO := [(81, .aload 0, 0, 0), (82, .invokevirtual 51, 708, 1), (85, .lreturn, 0, 0)]
abbrev mo_Tal_tell_86 : List mmO := [(86, .aload 0, 0, 0), (87, .invokevirtual 54, 710, 1), (90, .lreturn, 0, 0)]
def mb_Tal_tell : Nat → List mmO := fun b => match b with
  | 0 => mo_Tal_tell_0
  | 44 => mo_Tal_tell_44
  | 49 => mo_Tal_tell_49
  | 54 => mo_Tal_tell_54
  | 65 => mo_Tal_tell_65
  | 71 => mo_Tal_tell_71
  | 76 => mo_Tal_tell_76
  | 81 => mo_Tal_tell_81
  | 86 => mo_Tal_tell_86
  | _ => []
abbrev mo_Tal_sum_0 : List mmO := [(0, .bipush 0, 0, 0), (1, .lstore 1, 0, 0), (2, .iconst (0), 0, 0), (3, .istore 3, 0, 0), (4, .nop, 0, 0)]
abbrev mo_Tal_sum_4 : List mmO := [(4, .iload 3, 0, 0), (5, .iconst (64), 0, 0), (7, .if_icmp .ge 0, 29, 0), (10, .lload 1, 0, 0), (11, .iload 3, 0, 0), (12, .i2l, 0, 0), (13, .aload 0, 0, 0), (14, .getstatic 9, 7, 1), (17, .iload 3, 0, 0), (18, .iaload, 0, 0), (19, .i2l, 0, 0), (20, .lmul, 0, 0), (21, .ladd, 0, 0), (22, .lstore 1, 0, 0), (23, .iinc 3 (1), 0, 0), (26, .goto 0, 4, 0)]
abbrev mo_Tal_sum_29 : List mmO := [(29, .lload 1, 0, 0), (30, .lreturn, 0, 0)]
def mb_Tal_sum : Nat → List mmO := fun b => match b with
  | 0 => mo_Tal_sum_0
  | 4 => mo_Tal_sum_4
  | 29 => mo_Tal_sum_29
  | _ => []
abbrev mo_Tal_unlike_0 : List mmO := [(0, .bipush 0, 0, 0), (1, .lstore 1, 0, 0), (2, .iconst (0), 0, 0), (3, .istore 3, 0, 0), (4, .nop, 0, 0)]
abbrev mo_Tal_unlike_4 : List mmO := [(4, .iload 3, 0, 0), (5, .iconst (64), 0, 0), (7, .if_icmp .ge 0, 29, 0), (10, .aload 0, 0, 0), (11, .getstatic 9, 7, 1), (14, .iload 3, 0, 0), (15, .iaload, 0, 0), (16, .ifCond .le 0, 23, 0), (19, .lload 1, 0, 0), (20, .bipush 1, 0, 0), (21, .ladd, 0, 0), (22, .lstore 1, 0, 0), (23, .nop, 0, 0)]
abbrev mo_Tal_unlike_23 : List mmO := [(23, .iinc 3 (1), 0, 0), (26, .goto 0, 4, 0)]
abbrev mo_Tal_unlike_29 : List mmO := [(29, .lload 1, 0, 0), (30, .lreturn, 0, 0)]
def mb_Tal_unlike : Nat → List mmO := fun b => match b with
  | 0 => mo_Tal_unlike_0
  | 4 => mo_Tal_unlike_4
  | 23 => mo_Tal_unlike_23
  | 29 => mo_Tal_unlike_29
  | _ => []
abbrev mo_Tal_mostFrequent_0 : List mmO := [(0, .iconst (0), 0, 0), (1, .istore 1, 0, 0), (2, .iconst (1), 0, 0), (3, .istore 2, 0, 0), (4, .nop, 0, 0)]
abbrev mo_Tal_mostFrequent_4 : List mmO := [(4, .iload 2, 0, 0), (5, .iconst (64), 0, 0), (7, .if_icmp .ge 0, 33, 0), (10, .aload 0, 0, 0), (11, .getstatic 9, 7, 1), (14, .iload 2, 0, 0), (15, .iaload, 0, 0), (16, .aload 0, 0, 0), (17, .getstatic 9, 7, 1), (20, .iload 1, 0, 0), (21, .iaload, 0, 0), (22, .if_icmp .le 0, 27, 0), (25, .iload 2, 0, 0), (26, .istore 1, 0, 0), (27, .nop, 0, 0)]
abbrev mo_Tal_mostFrequent_27 : List mmO := [(27, .iinc 2 (1), 0, 0), (30, .goto 0, 4, 0)]
abbrev mo_Tal_mostFrequent_33 : List mmO := [(33, .iload 1, 0, 0), (34, .ireturn, 0, 0)]
def mb_Tal_mostFrequent : Nat → List mmO := fun b => match b with
  | 0 => mo_Tal_mostFrequent_0
  | 4 => mo_Tal_mostFrequent_4
  | 27 => mo_Tal_mostFrequent_27
  | 33 => mo_Tal_mostFrequent_33
  | _ => []
abbrev mo_Tal_power_0 : List mmO := [(0, .bipush 0, 0, 0), (1, .lstore 1, 0, 0), (2, .iconst (0), 0, 0), (3, .istore 3, 0, 0), (4, .nop, 0, 0)]
abbrev mo_Tal_power_4 : List mmO := [(4, .iload 3, 0, 0), (5, .iconst (64), 0, 0), (7, .if_icmp .ge 0, 37, 0), (10, .lload 1, 0, 0), (11, .aload 0, 0, 0), (12, .getstatic 9, 7, 1), (15, .iload 3, 0, 0), (16, .iaload, 0, 0), (17, .i2l, 0, 0), (18, .aload 0, 0, 0), (19, .getstatic 9, 7, 1), (22, .iload 3, 0, 0), (23, .iaload, 0, 0), (24, .i2l, 0, 0), (25, .lmul, 0, 0), (26, .iload 3, 0, 0), (27, .i2l, 0, 0), (28, .lmul, 0, 0), (29, .ladd, 0, 0), (30, .lstore 1, 0, 0), (31, .iinc 3 (1), 0, 0), (34, .goto 0, 4, 0)]
abbrev mo_Tal_power_37 : List mmO := [(37, .lload 1, 0, 0), (38, .lreturn, 0, 0)]
def mb_Tal_power : Nat → List mmO := fun b => match b with
  | 0 => mo_Tal_power_0
  | 4 => mo_Tal_power_4
  | 37 => mo_Tal_power_37
  | _ => []
abbrev mo_Tal_missing_0 : List mmO := [(0, .iconst (0), 0, 0), (1, .istore 1, 0, 0), (2, .nop, 0, 0)]
abbrev mo_Tal_missing_2 : List mmO := [(2, .iload 1, 0, 0), (3, .iconst (64), 0, 0), (5, .if_icmp .ge 0, 23, 0), (8, .aload 0, 0, 0), (9, .getstatic 9, 7, 1), (12, .iload 1, 0, 0), (13, .iaload, 0, 0), (14, .ifCond .le 0, 23, 0), (17, .iinc 1 (1), 0, 0), (20, .goto 0, 2, 0)]
abbrev mo_Tal_missing_23 : List mmO := [(23, .iload 1, 0, 0), (24, .i2l, 0, 0), (25, .lreturn, 0, 0)]
def mb_Tal_missing : Nat → List mmO := fun b => match b with
  | 0 => mo_Tal_missing_0
  | 2 => mo_Tal_missing_2
  | 23 => mo_Tal_missing_23
  | _ => []
abbrev mo_Tal_parts_0 : List mmO := [(0, .iconst (0), 0, 0), (1, .istore 1, 0, 0), (2, .nop, 0, 0)]
abbrev mo_Tal_parts_2 : List mmO := [(2, .iload 1, 0, 0), (3, .iconst (8), 0, 0), (5, .if_icmp .ge 0, 21, 0), (8, .aload 0, 0, 0), (9, .getstatic 15, 7, 2), (12, .iload 1, 0, 0), (13, .iload 1, 0, 0), (14, .iastore, 0, 0), (15, .iinc 1 (1), 0, 0), (18, .goto 0, 2, 0)]
abbrev mo_Tal_parts_21 : List mmO := [(21, .bipush (8), 0, 0), (24, .lstore 1, 0, 0), (25, .iconst (0), 0, 0), (26, .istore 3, 0, 0), (27, .nop, 0, 0)]
abbrev mo_Tal_parts_27 : List mmO := [(27, .iload 3, 0, 0), (28, .iconst (64), 0, 0), (30, .if_icmp .ge 0, 67, 0), (33, .aload 0, 0, 0), (34, .getstatic 9, 7, 1), (37, .iload 3, 0, 0), (38, .iaload, 0, 0), (39, .ifCond .le 0, 61, 0), (42, .aload 0, 0, 0), (43, .iload 3, 0, 0), (44, .iconst (8), 0, 0), (46, .idiv, 0, 0), (47, .iload 3, 0, 0), (48, .iconst (8), 0, 0), (50, .irem, 0, 0), (51, .invokevirtual 59, 709, 3), (54, .ifCond .eq 0, 61, 0), (57, .lload 1, 0, 0), (58, .bipush 1, 0, 0), (59, .lsub, 0, 0), (60, .lstore 1, 0, 0), (61, .nop, 0, 0)]
abbrev mo_Tal_parts_61 : List mmO := [(61, .iinc 3 (1), 0, 0), (64, .goto 0, 27, 0)]
abbrev mo_Tal_parts_67 : List mmO := [(67, .lload 1, 0, 0), (68, .lreturn, 0, 0)]
def mb_Tal_parts : Nat → List mmO := fun b => match b with
  | 0 => mo_Tal_parts_0
  | 2 => mo_Tal_parts_2
  | 21 => mo_Tal_parts_21
  | 27 => mo_Tal_parts_27
  | 61 => mo_Tal_parts_61
  | 67 => mo_Tal_parts_67
  | _ => []
abbrev mo_Tal_join_0 : List mmO := [(0, .aload 0, 0, 0), (1, .getstatic 15, 7, 2), (4, .iload 1, 0, 0), (5, .iaload, 0, 0), (6, .istore 3, 0, 0), (7, .aload 0, 0, 0), (8, .getstatic 15, 7, 2), (11, .iload 2, 0, 0), (12, .iaload, 0, 0), (13, .istore 4, 0, 0), (15, .iconst (0), 0, 0), (16, .istore 5, 0, 0), (18, .nop, 0, 0)]
abbrev mo_Tal_join_18 : List mmO := [(18, .iload 5, 0, 0), (20, .iconst (8), 0, 0), (22, .if_icmp .ge 0, 51, 0), (25, .aload 0, 0, 0), (26, .getstatic 15, 7, 2), (29, .iload 5, 0, 0), (31, .iaload, 0, 0), (32, .iload 4, 0, 0), (34, .if_icmp .ne 0, 45, 0), (37, .aload 0, 0, 0), (38, .getstatic 15, 7, 2), (41, .iload 5, 0, 0), (43, .iload 3, 0, 0), (44, .iastore, 0, 0), (45, .nop, 0, 0)]
abbrev mo_Tal_join_45 : List mmO := [(45, .iinc 5 (1), 0, 0), (48, .goto 0, 18, 0)]
abbrev mo_Tal_join_51 : List mmO := [(51, .iload 3, 0, 0), (52, .iload 4, 0, 0), (54, .if_icmp .eq 0, 61, 0), (57, .iconst (1), 0, 0), (58, .goto 0, 62, 0)]
abbrev mo_Tal_join_61 : List mmO := [(61, .iconst (0), 0, 0), (62, .nop, 0, 0)]
abbrev mo_Tal_join_62 : List mmO := [(62, .freturn, 0, 0)]
def mb_Tal_join : Nat → List mmO := fun b => match b with
  | 0 => mo_Tal_join_0
  | 18 => mo_Tal_join_18
  | 45 => mo_Tal_join_45
  | 51 => mo_Tal_join_51
  | 61 => mo_Tal_join_61
  | 62 => mo_Tal_join_62
  | _ => []
abbrev mo_Tal_pairs_0 : List mmO := [(0, .bipush 0, 0, 0), (1, .lstore 1, 0, 0), (2, .iconst (0), 0, 0), (3, .istore 3, 0, 0), (4, .nop, 0, 0)]
abbrev mo_Tal_pairs_4 : List mmO := [(4, .iload 3, 0, 0), (5, .iconst (64), 0, 0), (7, .if_icmp .ge 0, 40, 0), (10, .lload 1, 0, 0), (11, .aload 0, 0, 0), (12, .getstatic 9, 7, 1), (15, .iload 3, 0, 0), (16, .iaload, 0, 0), (17, .i2l, 0, 0), (18, .aload 0, 0, 0), (19, .getstatic 9, 7, 1), (22, .iload 3, 0, 0), (23, .iaload, 0, 0), (24, .iconst (1), 0, 0), (25, .isub, 0, 0), (26, .i2l, 0, 0), (27, .lmul, 0, 0), (28, .bipush (2), 0, 0), (31, .ldiv, 0, 0), (32, .ladd, 0, 0), (33, .lstore 1, 0, 0), (34, .iinc 3 (1), 0, 0), (37, .goto 0, 4, 0)]
abbrev mo_Tal_pairs_40 : List mmO := [(40, .lload 1, 0, 0), (41, .lreturn, 0, 0)]
def mb_Tal_pairs : Nat → List mmO := fun b => match b with
  | 0 => mo_Tal_pairs_0
  | 4 => mo_Tal_pairs_4
  | 40 => mo_Tal_pairs_40
  | _ => []
abbrev mo_Und_lay_0 : List mmO := [(0, .aload 0, 0, 0), (1, .getstatic 10, 8, 1), (4, .iconst (0), 0, 0), (5, .putfield 16, 5, 1), (8, .iload 2, 0, 0), (9, .iconst (1), 0, 0), (10, .if_icmp .ge 0, 14, 0), (13, .return_, 0, 0)]
abbrev mo_Und_lay_14 : List mmO := [(14, .iconst (0), 0, 0), (15, .istore 3, 0, 0), (16, .nop, 0, 0)]
abbrev mo_Und_lay_16 : List mmO := [(16, .iload 3, 0, 0), (17, .aload 1, 0, 0), (18, .getfield 20, 2, 4), (21, .if_icmp .ge 0, 69, 0), (24, .aload 1, 0, 0), (25, .iload 3, 0, 0), (26, .invokevirtual 23, 206, 2), (29, .ifCond .ne 0, 63, 0), (32, .aload 0, 0, 0), (33, .getstatic 10, 8, 1), (36, .aload 1, 0, 0), (37, .getstatic 27, 2, 4), (40, .iload 3, 0, 0), (41, .iaload, 0, 0), (42, .aload 1, 0, 0), (43, .getstatic 31, 2, 2), (46, .iload 3, 0, 0), (47, .iaload, 0, 0), (48, .iload 2, 0, 0), (49, .idiv, 0, 0), (50, .aload 1, 0, 0), (51, .getstatic 34, 2, 3), (54, .iload 3, 0, 0), (55, .iaload, 0, 0), (56, .iload 3, 0, 0), (57, .invokestatic 37, 501, 4), (60, .invokevirtual 41, 502, 2), (63, .nop, 0, 0)]
abbrev mo_Und_lay_63 : List mmO := [(63, .iinc 3 (1), 0, 0), (66, .goto 0, 16, 0)]
abbrev mo_Und_lay_69 : List mmO := [(69, .return_, 0, 0)]
def mb_Und_lay : Nat → List mmO := fun b => match b with
  | 0 => mo_Und_lay_0
  | 14 => mo_Und_lay_14
  | 16 => mo_Und_lay_16
  | 63 => mo_Und_lay_63
  | 69 => mo_Und_lay_69
  | _ => []
abbrev mo_Und_follow_0 : List mmO := [(0, .aload 0, 0, 0), (1, .iconst (0), 0, 0), (2, .putfield 45, 8, 1), (5, .aload 0, 0, 0), (6, .iconst (0), 0, 0), (7, .putfield 48, 8, 2), (10, .aload 0, 0, 0), (11, .iconst (0), 0, 0), (12, .putfield 51, 8, 3), (15, .iconst (0), 0, 0), (16, .istore 4, 0, 0), (18, .iconst (0), 0, 0), (19, .istore 5, 0, 0), (21, .iconst (0), 0, 0), (22, .istore 6, 0, 0), (24, .nop, 0, 0)]
abbrev mo_Und_follow_24 : List mmO := [(24, .iload 6, 0, 0), (26, .aload 0, 0, 0), (27, .getstatic 10, 8, 1), (30, .getfield 16, 5, 1), (33, .if_icmp .ge 0, 126, 0), (36, .iload 2, 0, 0), (37, .ifCond .le 0, 126, 0), (40, .aload 0, 0, 0), (41, .getstatic 10, 8, 1), (44, .iload 6, 0, 0), (46, .invokevirtual 54, 503, 2), (49, .istore 7, 0, 0), (51, .aload 0, 0, 0), (52, .getstatic 10, 8, 1), (55, .iload 6, 0, 0), (57, .invokevirtual 58, 504, 2), (60, .ifCond .ne 0, 96, 0), (63, .aload 0, 0, 0), (64, .dup, 0, 0), (65, .getfield 48, 8, 2), (68, .iconst (1), 0, 0), (69, .iadd, 0, 0), (70, .putfield 48, 8, 2), (73, .iload 3, 0, 0), (74, .aload 1, 0, 0), (75, .getstatic 31, 2, 2), (78, .iload 7, 0, 0), (80, .iaload, 0, 0), (81, .iload 2, 0, 0), (82, .idiv, 0, 0), (83, .iload 2, 0, 0), (84, .imul, 0, 0), (85, .iload 2, 0, 0), (86, .iadd, 0, 0), (87, .fsub, 0, 0), (90, .istore 4, 0, 0), (92, .iload 4, 0, 0), (94, .istore 5, 0, 0), (96, .nop, 0, 0)]
abbrev mo_Und_follow_96 : List mmO := [(96, .aload 0, 0, 0), (97, .aload 1, 0, 0), (98, .getstatic 31, 2, 2), (101, .iload 7, 0, 0), (103, .iaload, 0, 0), (104, .aload 1, 0, 0), (105, .getstatic 34, 2, 3), (108, .iload 7, 0, 0), (110, .iaload, 0, 0), (111, .iload 4, 0, 0), (113, .iload 5, 0, 0), (115, .invokevirtual 67, 803, 5), (118, .istore 5, 0, 0), (120, .iinc 6 (1), 0, 0), (123, .goto 0, 24, 0)]
abbrev mo_Und_follow_126 : List mmO := [(126, .return_, 0, 0)]
def mb_Und_follow : Nat → List mmO := fun b => match b with
  | 0 => mo_Und_follow_0
  | 24 => mo_Und_follow_24
  | 96 => mo_Und_follow_96
  | 126 => mo_Und_follow_126
  | _ => []
abbrev mo_Und_come_0 : List mmO := [(0, .iload 2, 0, 0), (1, .iload 3, 0, 0), (2, .if_icmp .ge 0, 38, 0), (5, .aload 0, 0, 0), (6, .dup, 0, 0), (7, .getfield 45, 8, 1), (10, .iload 2, 0, 0), (11, .iload 1, 0, 0), (12, .isub, 0, 0), (13, .iconst (1), 0, 0), (14, .iadd, 0, 0), (15, .iadd, 0, 0), (16, .putfield 45, 8, 1), (19, .aload 0, 0, 0), (20, .aload 0, 0, 0), (21, .getfield 51, 8, 3), (24, .iload 2, 0, 0), (25, .iload 1, 0, 0), (26, .isub, 0, 0), (27, .iconst (1), 0, 0), (28, .iadd, 0, 0), (29, .fadd, 0, 0), (32, .putfield 51, 8, 3), (35, .iload 4, 0, 0), (37, .ireturn, 0, 0)]
abbrev mo_Und_come_38 : List mmO := [(38, .iload 4, 0, 0), (40, .iload 2, 0, 0), (41, .iconst (1), 0, 0), (42, .iadd, 0, 0), (43, .fadd, 0, 0), (46, .istore 5, 0, 0), (48, .aload 0, 0, 0), (49, .dup, 0, 0), (50, .getfield 45, 8, 1), (53, .iload 5, 0, 0), (55, .iload 4, 0, 0), (57, .isub, 0, 0), (58, .iload 3, 0, 0), (59, .iadd, 0, 0), (60, .iload 1, 0, 0), (61, .isub, 0, 0), (62, .iadd, 0, 0), (63, .putfield 45, 8, 1), (66, .aload 0, 0, 0), (67, .aload 0, 0, 0), (68, .getfield 51, 8, 3), (71, .iload 5, 0, 0), (73, .iload 1, 0, 0), (74, .isub, 0, 0), (75, .fadd, 0, 0), (78, .putfield 51, 8, 3), (81, .iload 5, 0, 0), (83, .ireturn, 0, 0)]
def mb_Und_come : Nat → List mmO := fun b => match b with
  | 0 => mo_Und_come_0
  | 38 => mo_Und_come_38
  | _ => []
abbrev mo_Win_begin_0 : List mmO := [(0, .aload 0, 0, 0), (1, .iconst (0), 0, 0), (2, .putfield 15, 9, 1), (5, .aload 0, 0, 0), (6, .iconst (-1), 0, 0), (7, .putfield 19, 9, 2), (10, .aload 0, 0, 0), (11, .iconst (0), 0, 0), (12, .putfield 22, 9, 3), (15, .aload 0, 0, 0), (16, .iconst (0), 0, 0), (17, .putfield 25, 9, 4), (20, .aload 0, 0, 0), (21, .iconst (0), 0, 0), (22, .putfield 28, 9, 5), (25, .aload 0, 0, 0), (26, .iconst (0), 0, 0), (27, .putfield 31, 9, 6), (30, .return_, 0, 0)]
def mb_Win_begin : Nat → List mmO := fun b => match b with
  | 0 => mo_Win_begin_0
  | _ => []
abbrev mo_Win_has_0 : List mmO := [(0, .aload 0, 0, 0), (1, .getfield 15, 9, 1), (4, .iload 1, 0, 0), (5, .if_icmp .gt 0, 20, 0), (8, .iload 1, 0, 0), (9, .aload 0, 0, 0), (10, .getfield 19, 9, 2), (13, .if_icmp .gt 0, 20, 0), (16, .iconst (1), 0, 0), (17, .goto 0, 21, 0)]
abbrev mo_Win_has_20 : List mmO := [(20, .iconst (0), 0, 0), (21, .nop, 0, 0)]
abbrev mo_Win_has_21 : List mmO := [(21, .freturn, 0, 0)]
def mb_Win_has : Nat → List mmO := fun b => match b with
  | 0 => mo_Win_has_0
  | 20 => mo_Win_has_20
  | 21 => mo_Win_has_21
  | _ => []
abbrev mo_Win_cost_0 : List mmO := [(0, .aload 0, 0, 0), (1, .getfield 25, 9, 4), (4, .iload 1, 0, 0), (5, .aload 0, 0, 0), (6, .getfield 28, 9, 5), (9, .imul, 0, 0), (10, .iadd, 0, 0), (11, .ireturn, 0, 0)]
def mb_Win_cost : Nat → List mmO := fun b => match b with
  | 0 => mo_Win_cost_0
  | _ => []
abbrev mo_Win_aim_0 : List mmO := [(0, .aload 0, 0, 0), (1, .getstatic 9, 9, 1), (4, .iconst (0), 0, 0), (5, .iconst (0), 0, 0), (6, .aload 0, 0, 0), (7, .getfield 15, 9, 1), (10, .iload 1, 0, 0), (11, .isub, 0, 0), (12, .fadd, 0, 0), (15, .iastore, 0, 0), (16, .aload 0, 0, 0), (17, .getstatic 9, 9, 1), (20, .iconst (1), 0, 0), (21, .iconst (0), 0, 0), (22, .iload 2, 0, 0), (23, .aload 0, 0, 0), (24, .getfield 19, 9, 2), (27, .isub, 0, 0), (28, .fadd, 0, 0), (31, .iastore, 0, 0), (32, .aload 0, 0, 0), (33, .getstatic 9, 9, 1), (36, .iconst (2), 0, 0), (37, .iconst (0), 0, 0), (38, .iload 1, 0, 0), (39, .aload 0, 0, 0), (40, .getfield 15, 9, 1), (43, .isub, 0, 0), (44, .fadd, 0, 0), (47, .iastore, 0, 0), (48, .aload 0, 0, 0), (49, .getstatic 9, 9, 1), (52, .iconst (3), 0, 0), (53, .iconst (0), 0, 0), (54, .aload 0, 0, 0), (55, .getfield 19, 9, 2), (58, .iload 2, 0, 0), (59, .isub, 0, 0), (60, .fadd, 0, 0), (63, .iastore, 0, 0), (64, .aload 0, 0, 0), (65, .getstatic 9, 9, 1), (68, .iconst (4), 0, 0), (69, .iconst (0), 0, 0), (70, .iload 3, 0, 0), (71, .aload 0, 0, 0), (72, .getfield 22, 9, 3), (75, .isub, 0, 0), (76, .fadd, 0, 0), (79, .iastore, 0, 0), (80, .aload 0, 0, 0), (81, .getstatic 9, 9, 1), (84, .iconst (5), 0, 0), (85, .iconst (0), 0, 0), (86, .aload 0, 0, 0), (87, .getfield 22, 9, 3), (90, .iload 3, 0, 0), (91, .isub, 0, 0), (92, .fadd, 0, 0), (95, .iastore, 0, 0), (96, .return_, 0, 0)]
def mb_Win_aim : Nat → List mmO := fun b => match b with
  | 0 => mo_Win_aim_0
  | _ => []
abbrev mo_Win_distance_0 : List mmO := [(0, .iconst (0), 0, 0), (1, .istore 1, 0, 0), (2, .iconst (0), 0, 0), (3, .istore 2, 0, 0), (4, .nop, 0, 0)]
abbrev mo_Win_distance_4 : List mmO := [(4, .iload 2, 0, 0), (5, .iconst (6), 0, 0), (7, .if_icmp .ge 0, 25, 0), (10, .iload 1, 0, 0), (11, .aload 0, 0, 0), (12, .getstatic 9, 9, 1), (15, .iload 2, 0, 0), (16, .iaload, 0, 0), (17, .iadd, 0, 0), (18, .istore 1, 0, 0), (19, .iinc 2 (1), 0, 0), (22, .goto 0, 4, 0)]
abbrev mo_Win_distance_25 : List mmO := [(25, .iload 1, 0, 0), (26, .ireturn, 0, 0)]
def mb_Win_distance : Nat → List mmO := fun b => match b with
  | 0 => mo_Win_distance_0
  | 4 => mo_Win_distance_4
  | 25 => mo_Win_distance_25
  | _ => []
abbrev mo_Win_nextKind_0 : List mmO := [(0, .iconst (0), 0, 0), (1, .istore 1, 0, 0), (2, .nop, 0, 0)]
abbrev mo_Win_nextKind_2 : List mmO := [(2, .iload 1, 0, 0), (3, .iconst (6), 0, 0), (5, .if_icmp .ge 0, 25, 0), (8, .aload 0, 0, 0), (9, .getstatic 9, 9, 1), (12, .iload 1, 0, 0), (13, .iaload, 0, 0), (14, .ifCond .le 0, 19, 0), (17, .iload 1, 0, 0), (18, .ireturn, 0, 0)]
abbrev mo_Win_nextKind_19 : List mmO := [(19, .iinc 1 (1), 0, 0), (22, .goto 0, 2, 0)]
abbrev mo_Win_nextKind_25 : List mmO := [(25, .iconst (-1), 0, 0), (26, .ireturn, 0, 0)]
def mb_Win_nextKind : Nat → List mmO := fun b => match b with
  | 0 => mo_Win_nextKind_0
  | 2 => mo_Win_nextKind_2
  | 19 => mo_Win_nextKind_19
  | 25 => mo_Win_nextKind_25
  | _ => []
abbrev mo_Win_make_0 : List mmO := [(0, .iconst (0), 0, 0), (1, .istore 2, 0, 0), (2, .iconst (0), 0, 0), (3, .istore 3, 0, 0), (4, .nop, 0, 0)]
abbrev mo_Win_make_4 : List mmO := [(4, .iload 3, 0, 0), (5, .iconst (6), 0, 0), (7, .if_icmp .ge 0, 51, 0), (10, .aload 0, 0, 0), (11, .getstatic 9, 9, 1), (14, .iload 3, 0, 0), (15, .iaload, 0, 0), (16, .iload 1, 0, 0), (17, .iload 2, 0, 0), (18, .isub, 0, 0), (19, .fsub, 0, 0), (22, .istore 4, 0, 0), (24, .aload 0, 0, 0), (25, .getstatic 9, 9, 1), (28, .iload 3, 0, 0), (29, .dup2, 0, 0), (30, .iaload, 0, 0), (31, .iload 4, 0, 0), (33, .isub, 0, 0), (34, .iastore, 0, 0), (35, .iload 2, 0, 0), (36, .aload 0, 0, 0), (37, .iload 3, 0, 0), (38, .iload 4, 0, 0), (40, .invokevirtual 43, 908, 3), (43, .iadd, 0, 0), (44, .istore 2, 0, 0), (45, .iinc 3 (1), 0, 0), (48, .goto 0, 4, 0)]
abbrev mo_Win_make_51 : List mmO := [(51, .iload 2, 0, 0), (52, .ireturn, 0, 0)]
def mb_Win_make : Nat → List mmO := fun b => match b with
  | 0 => mo_Win_make_0
  | 4 => mo_Win_make_4
  | 51 => mo_Win_make_51
  | _ => []
abbrev mo_Win_shift_0 : List mmO := [(0, .iload 1, 0, 0), (1, .lookupswitch 0 #[(0, 36), (1, 49), (2, 62), (3, 75), (4, 88)], 101, 0)]
abbrev mo_Win_shift_36 : List mmO := [(36, .aload 0, 0, 0), (37, .dup, 0, 0), (38, .getfield 15, 9, 1), (41, .iload 2, 0, 0), (42, .isub, 0, 0), (43, .putfield 15, 9, 1), (46, .goto 0, 111, 0)]
abbrev mo_Win_shift_49 : List mmO := [(49, .aload 0, 0, 0), (50, .dup, 0, 0), (51, .getfield 19, 9, 2), (54, .iload 2, 0, 0), (55, .iadd, 0, 0), (56, .putfield 19, 9, 2), (59, .goto 0, 111, 0)]
abbrev mo_Win_shift_62 : List mmO := [(62, .aload 0, 0, 0), (63, .dup, 0, 0), (64, .getfield 15, 9, 1), (67, .iload 2, 0, 0), (68, .iadd, 0, 0), (69, .putfield 15, 9, 1), (72, .goto 0, 111, 0)]
abbrev mo_Win_shift_75 : List mmO := [(75, .aload 0, 0, 0), (76, .dup, 0, 0), (77, .getfield 19, 9, 2), (80, .iload 2, 0, 0), (81, .isub, 0, 0), (82, .putfield 19, 9, 2), (85, .goto 0, 111, 0)]
abbrev mo_Win_shift_88 : List mmO := [(88, .aload 0, 0, 0), (89, .dup, 0, 0), (90, .getfield 22, 9, 3), (93, .iload 2, 0, 0), (94, .iadd, 0, 0), (95, .putfield 22, 9, 3), (98, .goto 0, 111, 0)]
abbrev mo_Win_shift_101 : List mmO := [(101, .aload 0, 0, 0), (102, .dup, 0, 0), (103, .getfield 22, 9, 3), (106, .iload 2, 0, 0), (107, .isub, 0, 0), (108, .putfield 22, 9, 3), (111, .nop, 0, 0)]
abbrev mo_Win_shift_111 : List mmO := [(111, .iload 1, 0, 0), (112, .iconst (4), 0, 0), (113, .if_icmp .eq 0, 121, 0), (116, .iload 1, 0, 0), (117, .iconst (5), 0, 0), (118, .if_icmp .ne 0, 134, 0), (121, .nop, 0, 0)]
abbrev mo_Win_shift_121 : List mmO := [(121, .aload 0, 0, 0), (122, .dup, 0, 0), (123, .getfield 28, 9, 5), (126, .iload 2, 0, 0), (127, .iadd, 0, 0), (128, .putfield 28, 9, 5), (131, .goto 0, 144, 0)]
abbrev mo_Win_shift_134 : List mmO := [(134, .aload 0, 0, 0), (135, .dup, 0, 0), (136, .getfield 25, 9, 4), (139, .iload 2, 0, 0), (140, .iadd, 0, 0), (141, .putfield 25, 9, 4), (144, .nop, 0, 0)]
abbrev mo_Win_shift_144 : List mmO := [(144, .iload 2, 0, 0), (145, .ireturn, 0, 0)]
def mb_Win_shift : Nat → List mmO := fun b => match b with
  | 0 => mo_Win_shift_0
  | 36 => mo_Win_shift_36
  | 49 => mo_Win_shift_49
  | 62 => mo_Win_shift_62
  | 75 => mo_Win_shift_75
  | 88 => mo_Win_shift_88
  | 101 => mo_Win_shift_101
  | 111 => mo_Win_shift_111
  | 121 => mo_Win_shift_121
  | 134 => mo_Win_shift_134
  | 144 => mo_Win_shift_144
  | _ => []
abbrev mo_Win_movedBy_0 : List mmO := [(0, .iload 1, 0, 0), (1, .lookupswitch 0 #[(0, 36), (1, 43), (2, 50), (3, 55), (4, 60)], 65, 0)]
abbrev mo_Win_movedBy_36 : List mmO := [(36, .aload 0, 0, 0), (37, .getfield 15, 9, 1), (40, .iconst (1), 0, 0), (41, .isub, 0, 0), (42, .ireturn, 0, 0)]
abbrev mo_Win_movedBy_43 : List mmO := [(43, .aload 0, 0, 0), (44, .getfield 19, 9, 2), (47, .iconst (1), 0, 0), (48, .iadd, 0, 0), (49, .ireturn, 0, 0)]
abbrev mo_Win_movedBy_50 : List mmO := [(50, .aload 0, 0, 0), (51, .getfield 15, 9, 1), (54, .ireturn, 0, 0)]
abbrev mo_Win_movedBy_55 : List mmO := [(55, .aload 0, 0, 0), (56, .getfield 19, 9, 2), (59, .ireturn, 0, 0)]
abbrev mo_Win_movedBy_60 : List mmO := [(60, .aload 0, 0, 0), (61, .getfield 22, 9, 3), (64, .ireturn, 0, 0)]
abbrev mo_Win_movedBy_65 : List mmO := [(65, .aload 0, 0, 0), (66, .getfield 22, 9, 3), (69, .iconst (1), 0, 0), (70, .isub, 0, 0), (71, .ireturn, 0, 0)]
def mb_Win_movedBy : Nat → List mmO := fun b => match b with
  | 0 => mo_Win_movedBy_0
  | 36 => mo_Win_movedBy_36
  | 43 => mo_Win_movedBy_43
  | 50 => mo_Win_movedBy_50
  | 55 => mo_Win_movedBy_55
  | 60 => mo_Win_movedBy_60
  | 65 => mo_Win_movedBy_65
  | _ => []
abbrev mo_P_feed_0 : List mmO := [(0, .aload 0, 0, 0), (1, .getstatic 10, 10, 1), (4, .getfield 85, 3, 3), (7, .iconst (20), 0, 0), (9, .iadd, 0, 0), (10, .iconst (600), 0, 0), (13, .if_icmp .le 0, 18, 0), (16, .iconst (-1), 0, 0), (17, .ireturn, 0, 0)]
abbrev mo_P_feed_18 : List mmO := [(18, .aload 0, 0, 0), (19, .getstatic 10, 10, 1), (22, .iload 1, 0, 0), (23, .invokevirtual 86, 301, 2), (26, .aload 0, 0, 0), (27, .getstatic 10, 10, 1), (30, .iload 2, 0, 0), (31, .invokevirtual 86, 301, 2), (34, .aload 0, 0, 0), (35, .getstatic 10, 10, 1), (38, .iload 3, 0, 0), (39, .invokevirtual 86, 301, 2), (42, .aload 0, 0, 0), (43, .getstatic 10, 10, 1), (46, .iload 4, 0, 0), (48, .invokevirtual 86, 301, 2), (51, .aload 0, 0, 0), (52, .getstatic 10, 10, 1), (55, .iload 5, 0, 0), (57, .invokevirtual 86, 301, 2), (60, .aload 0, 0, 0), (61, .getstatic 10, 10, 1), (64, .getfield 85, 3, 3), (67, .ireturn, 0, 0)]
def mb_P_feed : Nat → List mmO := fun b => match b with
  | 0 => mo_P_feed_0
  | 18 => mo_P_feed_18
  | _ => []
abbrev mo_P_text_0 : List mmO := [(0, .iload 1, 0, 0), (1, .ifCond .lt 0, 15, 0), (4, .iload 1, 0, 0), (5, .aload 0, 0, 0), (6, .getstatic 10, 10, 1), (9, .getfield 85, 3, 3), (12, .if_icmp .le 0, 17, 0), (15, .nop, 0, 0)]
abbrev mo_P_text_15 : List mmO := [(15, .iconst (-1), 0, 0), (16, .ireturn, 0, 0)]
abbrev mo_P_text_17 : List mmO := [(17, .aload 0, 0, 0), (18, .getstatic 10, 10, 1), (21, .iload 1, 0, 0), (22, .invokevirtual 90, 302, 2), (25, .istore 2, 0, 0), (26, .aload 0, 0, 0), (27, .getstatic 10, 10, 1), (30, .iconst (0), 0, 0), (31, .putfield 85, 3, 3), (34, .iload 2, 0, 0), (35, .ifCond .ge 0, 40, 0), (38, .iload 2, 0, 0), (39, .ireturn, 0, 0)]
abbrev mo_P_text_40 : List mmO := [(40, .aload 0, 0, 0), (41, .getstatic 19, 10, 13), (44, .aload 0, 0, 0), (45, .getstatic 10, 10, 1), (48, .getstatic 94, 3, 2), (51, .invokevirtual 95, 402, 2), (54, .aload 0, 0, 0), (55, .getstatic 26, 10, 18), (58, .aload 0, 0, 0), (59, .getstatic 10, 10, 1), (62, .getstatic 99, 3, 7), (65, .invokevirtual 100, 202, 2), (68, .aload 0, 0, 0), (69, .getstatic 61, 10, 45), (72, .invokevirtual 103, 901, 1), (75, .aload 0, 0, 0), (76, .getstatic 68, 10, 47), (79, .iconst (0), 0, 0), (80, .putfield 106, 0, 2), (83, .aload 0, 0, 0), (84, .iconst (1), 0, 0), (85, .putfield 72, 10, 9), (88, .aload 0, 0, 0), (89, .iconst (1), 0, 0), (90, .putfield 76, 10, 10), (93, .aload 0, 0, 0), (94, .iconst (4), 0, 0), (95, .putfield 79, 10, 11), (98, .iload 2, 0, 0), (99, .ireturn, 0, 0)]
def mb_P_text : Nat → List mmO := fun b => match b with
  | 0 => mo_P_text_0
  | 15 => mo_P_text_15
  | 17 => mo_P_text_17
  | 40 => mo_P_text_40
  | _ => []
abbrev mo_P_cell_0 : List mmO := [(0, .aload 0, 0, 0), (1, .getstatic 19, 10, 13), (4, .iload 1, 0, 0), (5, .invokevirtual 107, 403, 2), (8, .ifCond .eq 0, 42, 0), (11, .iload 2, 0, 0), (12, .invokestatic 111, 1029, 1), (15, .ifCond .eq 0, 42, 0), (18, .aload 0, 0, 0), (19, .getstatic 19, 10, 13), (22, .getstatic 114, 4, 1), (25, .iload 1, 0, 0), (26, .iaload, 0, 0), (27, .iload 2, 0, 0), (28, .if_icmp .eq 0, 42, 0), (31, .aload 0, 0, 0), (32, .getstatic 61, 10, 45), (35, .iload 1, 0, 0), (36, .invokevirtual 118, 902, 2), (39, .ifCond .eq 0, 44, 0), (42, .nop, 0, 0)]
abbrev mo_P_cell_42 : List mmO := [(42, .iconst (-1), 0, 0), (43, .ireturn, 0, 0)]
abbrev mo_P_cell_44 : List mmO := [(44, .aload 0, 0, 0), (45, .getstatic 19, 10, 13), (48, .getstatic 114, 4, 1), (51, .iload 1, 0, 0), (52, .iaload, 0, 0), (53, .istore 3, 0, 0), (54, .aload 0, 0, 0), (55, .getstatic 19, 10, 13), (58, .getstatic 114, 4, 1), (61, .iload 1, 0, 0), (62, .iload 2, 0, 0), (63, .iastore, 0, 0), (64, .aload 0, 0, 0), (65, .getstatic 68, 10, 47), (68, .iconst (5), 0, 0), (69, .iload 1, 0, 0), (70, .iload 3, 0, 0), (71, .iconst (0), 0, 0), (72, .iconst (0), 0, 0), (73, .invokevirtual 119, 1, 6), (76, .iload 3, 0, 0), (77, .ireturn, 0, 0)]
def mb_P_cell : Nat → List mmO := fun b => match b with
  | 0 => mo_P_cell_0
  | 42 => mo_P_cell_42
  | 44 => mo_P_cell_44
  | _ => []
abbrev mo_P_change_0 : List mmO := [(0, .aload 0, 0, 0), (1, .getstatic 19, 10, 13), (4, .iload 1, 0, 0), (5, .invokevirtual 107, 403, 2), (8, .ifCond .eq 0, 28, 0), (11, .iload 2, 0, 0), (12, .invokestatic 111, 1029, 1), (15, .ifCond .eq 0, 28, 0), (18, .aload 0, 0, 0), (19, .getstatic 19, 10, 13), (22, .invokevirtual 123, 406, 1), (25, .ifCond .ne 0, 30, 0), (28, .nop, 0, 0)]
abbrev mo_P_change_28 : List mmO := [(28, .iconst (-1), 0, 0), (29, .ireturn, 0, 0)]
abbrev mo_P_change_30 : List mmO := [(30, .aload 0, 0, 0), (31, .getstatic 19, 10, 13), (34, .iload 1, 0, 0), (35, .iload 2, 0, 0), (36, .invokevirtual 127, 409, 3), (39, .aload 0, 0, 0), (40, .getstatic 68, 10, 47), (43, .iconst (0), 0, 0), (44, .iconst (0), 0, 0), (45, .iconst (0), 0, 0), (46, .iconst (0), 0, 0), (47, .iconst (0), 0, 0), (48, .invokevirtual 119, 1, 6), (51, .aload 0, 0, 0), (52, .getstatic 19, 10, 13), (55, .getfield 131, 4, 5), (58, .ireturn, 0, 0)]
def mb_P_change : Nat → List mmO := fun b => match b with
  | 0 => mo_P_change_0
  | 28 => mo_P_change_28
  | 30 => mo_P_change_30
  | _ => []
abbrev mo_P_ask_0 : List mmO := [(0, .aload 0, 0, 0), (1, .iload 1, 0, 0), (2, .iload 2, 0, 0), (3, .iload 3, 0, 0), (4, .iload 4, 0, 0), (6, .invokevirtual 134, 1033, 5), (9, .ifCond .eq 0, 24, 0), (12, .aload 0, 0, 0), (13, .getstatic 26, 10, 18), (16, .getfield 138, 2, 4), (19, .iconst (24), 0, 0), (21, .if_icmp .lt 0, 26, 0), (24, .nop, 0, 0)]
abbrev mo_P_ask_24 : List mmO := [(24, .iconst (-1), 0, 0), (25, .ireturn, 0, 0)]
abbrev mo_P_ask_26 : List mmO := [(26, .aload 0, 0, 0), (27, .getstatic 26, 10, 18), (30, .iload 1, 0, 0), (31, .iload 2, 0, 0), (32, .iload 3, 0, 0), (33, .aload 0, 0, 0), (34, .iload 4, 0, 0), (36, .invokevirtual 139, 1034, 2), (39, .invokevirtual 142, 204, 5), (42, .aload 0, 0, 0), (43, .getstatic 68, 10, 47), (46, .iconst (1), 0, 0), (47, .iconst (0), 0, 0), (48, .iconst (0), 0, 0), (49, .iconst (0), 0, 0), (50, .iconst (0), 0, 0), (51, .invokevirtual 119, 1, 6), (54, .aload 0, 0, 0), (55, .getstatic 26, 10, 18), (58, .getfield 138, 2, 4), (61, .iconst (1), 0, 0), (62, .isub, 0, 0), (63, .ireturn, 0, 0)]
def mb_P_ask : Nat → List mmO := fun b => match b with
  | 0 => mo_P_ask_0
  | 24 => mo_P_ask_24
  | 26 => mo_P_ask_26
  | _ => []
abbrev mo_P_drop_0 : List mmO := [(0, .aload 0, 0, 0), (1, .getstatic 26, 10, 18), (4, .getfield 138, 2, 4), (7, .iconst (1), 0, 0), (8, .isub, 0, 0), (9, .istore 1, 0, 0), (10, .aload 0, 0, 0), (11, .getstatic 26, 10, 18), (14, .iload 1, 0, 0), (15, .invokevirtual 146, 203, 2), (18, .ifCond .ne 0, 23, 0), (21, .iconst (-1), 0, 0), (22, .ireturn, 0, 0)]
abbrev mo_P_drop_23 : List mmO := [(23, .aload 0, 0, 0), (24, .getstatic 68, 10, 47), (27, .iconst (2), 0, 0), (28, .aload 0, 0, 0), (29, .getstatic 26, 10, 18), (32, .getstatic 147, 2, 1), (35, .iload 1, 0, 0), (36, .iaload, 0, 0), (37, .aload 0, 0, 0), (38, .getstatic 26, 10, 18), (41, .getstatic 150, 2, 2), (44, .iload 1, 0, 0), (45, .iaload, 0, 0), (46, .aload 0, 0, 0), (47, .getstatic 26, 10, 18), (50, .getstatic 153, 2, 3), (53, .iload 1, 0, 0), (54, .iaload, 0, 0), (55, .aload 0, 0, 0), (56, .getstatic 26, 10, 18), (59, .getstatic 156, 2, 4), (62, .iload 1, 0, 0), (63, .iaload, 0, 0), (64, .invokevirtual 119, 1, 6), (67, .aload 0, 0, 0), (68, .getstatic 26, 10, 18), (71, .invokevirtual 159, 205, 1), (74, .aload 0, 0, 0), (75, .getstatic 26, 10, 18), (78, .getfield 138, 2, 4), (81, .ireturn, 0, 0)]
def mb_P_drop : Nat → List mmO := fun b => match b with
  | 0 => mo_P_drop_0
  | 23 => mo_P_drop_23
  | _ => []
abbrev mo_P_weight_0 : List mmO := [(0, .iload 1, 0, 0), (1, .ifCond .lt 0, 10, 0), (4, .iload 1, 0, 0), (5, .iconst (9), 0, 0), (7, .if_icmp .le 0, 12, 0), (10, .nop, 0, 0)]
abbrev mo_P_weight_10 : List mmO := [(10, .iconst (-1), 0, 0), (11, .ireturn, 0, 0)]
abbrev mo_P_weight_12 : List mmO := [(12, .aload 0, 0, 0), (13, .getfield 72, 10, 9), (16, .istore 2, 0, 0), (17, .aload 0, 0, 0), (18, .iload 1, 0, 0), (19, .putfield 72, 10, 9), (22, .aload 0, 0, 0), (23, .getstatic 68, 10, 47), (26, .iconst (3), 0, 0), (27, .iload 2, 0, 0), (28, .iconst (0), 0, 0), (29, .iconst (0), 0, 0), (30, .iconst (0), 0, 0), (31, .invokevirtual 119, 1, 6), (34, .iload 2, 0, 0), (35, .ireturn, 0, 0)]
def mb_P_weight : Nat → List mmO := fun b => match b with
  | 0 => mo_P_weight_0
  | 10 => mo_P_weight_10
  | 12 => mo_P_weight_12
  | _ => []
abbrev mo_P_set_0 : List mmO := [(0, .iload 1, 0, 0), (1, .iload 2, 0, 0), (2, .invokestatic 162, 1032, 2), (5, .ifCond .ne 0, 10, 0), (8, .iconst (-1), 0, 0), (9, .ireturn, 0, 0)]
abbrev mo_P_set_10 : List mmO := [(10, .iconst (100), 0, 0), (12, .aload 0, 0, 0), (13, .getfield 76, 10, 10), (16, .imul, 0, 0), (17, .aload 0, 0, 0), (18, .getfield 79, 10, 11), (21, .iadd, 0, 0), (22, .istore 3, 0, 0), (23, .aload 0, 0, 0), (24, .getstatic 68, 10, 47), (27, .iconst (4), 0, 0), (28, .aload 0, 0, 0), (29, .getfield 76, 10, 10), (32, .aload 0, 0, 0), (33, .getfield 79, 10, 11), (36, .iconst (0), 0, 0), (37, .iconst (0), 0, 0), (38, .invokevirtual 119, 1, 6), (41, .aload 0, 0, 0), (42, .iload 1, 0, 0), (43, .putfield 76, 10, 10), (46, .aload 0, 0, 0), (47, .iload 2, 0, 0), (48, .putfield 79, 10, 11), (51, .iload 3, 0, 0), (52, .ireturn, 0, 0)]
def mb_P_set : Nat → List mmO := fun b => match b with
  | 0 => mo_P_set_0
  | 10 => mo_P_set_10
  | _ => []
abbrev mo_P_back_0 : List mmO := [(0, .aload 0, 0, 0), (1, .getstatic 68, 10, 47), (4, .invokevirtual 166, 2, 1), (7, .istore 1, 0, 0), (8, .iload 1, 0, 0), (9, .iconst (-1), 0, 0), (10, .if_icmp .ne 0, 15, 0), (13, .iconst (0), 0, 0), (14, .freturn, 0, 0)]
abbrev mo_P_back_15 : List mmO := [(15, .aload 0, 0, 0), (16, .getstatic 68, 10, 47), (19, .getstatic 170, 0, 2), (22, .iload 1, 0, 0), (23, .aaload, 0, 0), (24, .astore 2, 0, 0), (25, .aload 0, 0, 0), (26, .getstatic 68, 10, 47), (29, .getstatic 174, 0, 1), (32, .iload 1, 0, 0), (33, .iaload, 0, 0), (34, .lookupswitch 0 #[(0, 68), (1, 75), (2, 85), (3, 107), (4, 117)], 134, 0)]
abbrev mo_P_back_68 : List mmO := [(68, .aload 0, 0, 0), (69, .invokevirtual 175, 1035, 1), (72, .goto 0, 147, 0)]
abbrev mo_P_back_75 : List mmO := [(75, .aload 0, 0, 0), (76, .getstatic 26, 10, 18), (79, .invokevirtual 159, 205, 1), (82, .goto 0, 147, 0)]
abbrev mo_P_back_85 : List mmO := [(85, .aload 0, 0, 0), (86, .getstatic 26, 10, 18), (89, .aload 2, 0, 0), (90, .iconst (0), 0, 0), (91, .iaload, 0, 0), (92, .aload 2, 0, 0), (93, .iconst (1), 0, 0), (94, .iaload, 0, 0), (95, .aload 2, 0, 0), (96, .iconst (2), 0, 0), (97, .iaload, 0, 0), (98, .aload 2, 0, 0), (99, .iconst (3), 0, 0), (100, .iaload, 0, 0), (101, .invokevirtual 142, 204, 5), (104, .goto 0, 147, 0)]
abbrev mo_P_back_107 : List mmO := [(107, .aload 0, 0, 0), (108, .aload 2, 0, 0), (109, .iconst (0), 0, 0), (110, .iaload, 0, 0), (111, .putfield 72, 10, 9), (114, .goto 0, 147, 0)]
abbrev mo_P_back_117 : List mmO := [(117, .aload 0, 0, 0), (118, .aload 2, 0, 0), (119, .iconst (0), 0, 0), (120, .iaload, 0, 0), (121, .putfield 76, 10, 10), (124, .aload 0, 0, 0), (125, .aload 2, 0, 0), (126, .iconst (1), 0, 0), (127, .iaload, 0, 0), (128, .putfield 79, 10, 11), (131, .goto 0, 147, 0)]
abbrev mo_P_back_134 : List mmO := [(134, .aload 0, 0, 0), (135, .getstatic 19, 10, 13), (138, .aload 2, 0, 0), (139, .iconst (0), 0, 0), (140, .iaload, 0, 0), (141, .aload 2, 0, 0), (142, .iconst (1), 0, 0), (143, .iaload, 0, 0), (144, .invokevirtual 178, 408, 3), (147, .nop, 0, 0)]
abbrev mo_P_back_147 : List mmO := [(147, .iconst (1), 0, 0), (148, .freturn, 0, 0)]
def mb_P_back : Nat → List mmO := fun b => match b with
  | 0 => mo_P_back_0
  | 15 => mo_P_back_15
  | 68 => mo_P_back_68
  | 75 => mo_P_back_75
  | 85 => mo_P_back_85
  | 107 => mo_P_back_107
  | 117 => mo_P_back_117
  | 134 => mo_P_back_134
  | 147 => mo_P_back_147
  | _ => []
abbrev mo_P_at_0 : List mmO := [(0, .aload 0, 0, 0), (1, .getstatic 19, 10, 13), (4, .iload 1, 0, 0), (5, .invokevirtual 107, 403, 2), (8, .ifCond .eq 0, 34, 0), (11, .aload 0, 0, 0), (12, .getstatic 19, 10, 13), (15, .iload 2, 0, 0), (16, .invokevirtual 192, 404, 2), (19, .ifCond .eq 0, 34, 0), (22, .aload 0, 0, 0), (23, .getstatic 19, 10, 13), (26, .iload 1, 0, 0), (27, .iload 2, 0, 0), (28, .invokevirtual 195, 411, 3), (31, .goto 0, 35, 0)]
abbrev mo_P_at_34 : List mmO := [(34, .iconst (-1), 0, 0), (35, .nop, 0, 0)]
abbrev mo_P_at_35 : List mmO := [(35, .ireturn, 0, 0)]
def mb_P_at : Nat → List mmO := fun b => match b with
  | 0 => mo_P_at_0
  | 34 => mo_P_at_34
  | 35 => mo_P_at_35
  | _ => []
abbrev mo_P_of_0 : List mmO := [(0, .aload 0, 0, 0), (1, .getstatic 26, 10, 18), (4, .iload 1, 0, 0), (5, .invokevirtual 146, 203, 2), (8, .ifCond .ne 0, 13, 0), (11, .iconst (-1), 0, 0), (12, .ireturn, 0, 0)]
abbrev mo_P_of_13 : List mmO := [(13, .iload 2, 0, 0), (14, .lookupswitch 0 #[(0, 52), (1, 62), (2, 72), (3, 82), (4, 92), (5, 101)], 110, 0)]
abbrev mo_P_of_52 : List mmO := [(52, .aload 0, 0, 0), (53, .getstatic 26, 10, 18), (56, .getstatic 147, 2, 1), (59, .iload 1, 0, 0), (60, .iaload, 0, 0), (61, .ireturn, 0, 0)]
abbrev mo_P_of_62 : List mmO := [(62, .aload 0, 0, 0), (63, .getstatic 26, 10, 18), (66, .getstatic 150, 2, 2), (69, .iload 1, 0, 0), (70, .iaload, 0, 0), (71, .ireturn, 0, 0)]
abbrev mo_P_of_72 : List mmO := [(72, .aload 0, 0, 0), (73, .getstatic 26, 10, 18), (76, .getstatic 153, 2, 3), (79, .iload 1, 0, 0), (80, .iaload, 0, 0), (81, .ireturn, 0, 0)]
abbrev mo_P_of_82 : List mmO := [(82, .aload 0, 0, 0), (83, .getstatic 26, 10, 18), (86, .getstatic 156, 2, 4), (89, .iload 1, 0, 0), (90, .iaload, 0, 0), (91, .ireturn, 0, 0)]
abbrev mo_P_of_92 : List mmO := [(92, .aload 0, 0, 0), (93, .getstatic 26, 10, 18), (96, .iload 1, 0, 0), (97, .invokevirtual 199, 208, 2), (100, .ireturn, 0, 0)]
abbrev mo_P_of_101 : List mmO := [(101, .aload 0, 0, 0), (102, .getstatic 26, 10, 18), (105, .iload 1, 0, 0), (106, .invokevirtual 202, 209, 2), (109, .ireturn, 0, 0)]
abbrev mo_P_of_110 : List mmO := [(110, .iconst (-1), 0, 0), (111, .ireturn, 0, 0)]
def mb_P_of : Nat → List mmO := fun b => match b with
  | 0 => mo_P_of_0
  | 13 => mo_P_of_13
  | 52 => mo_P_of_52
  | 62 => mo_P_of_62
  | 72 => mo_P_of_72
  | 82 => mo_P_of_82
  | 92 => mo_P_of_92
  | 101 => mo_P_of_101
  | 110 => mo_P_of_110
  | _ => []
abbrev mo_P_planned_0 : List mmO := [(0, .iload 1, 0, 0), (1, .iload 2, 0, 0), (2, .invokestatic 162, 1032, 2), (5, .ifCond .ne 0, 10, 0), (8, .iconst (-1), 0, 0), (9, .ireturn, 0, 0)]
abbrev mo_P_planned_10 : List mmO := [(10, .aload 0, 0, 0), (11, .getstatic 40, 10, 26), (14, .aload 0, 0, 0), (15, .getstatic 26, 10, 18), (18, .iload 1, 0, 0), (19, .iload 2, 0, 0), (20, .iconst (-1), 0, 0), (21, .invokevirtual 205, 101, 5), (24, .iload 3, 0, 0), (25, .iconst (-1), 0, 0), (26, .if_icmp .ne 0, 42, 0), (29, .aload 0, 0, 0), (30, .getstatic 40, 10, 26), (33, .getstatic 209, 1, 1), (36, .getfield 213, 5, 1), (39, .goto 0, 53, 0)]
abbrev mo_P_planned_42 : List mmO := [(42, .aload 0, 0, 0), (43, .getstatic 40, 10, 26), (46, .getstatic 209, 1, 1), (49, .iload 3, 0, 0), (50, .invokevirtual 216, 503, 2), (53, .nop, 0, 0)]
abbrev mo_P_planned_53 : List mmO := [(53, .ireturn, 0, 0)]
def mb_P_planned : Nat → List mmO := fun b => match b with
  | 0 => mo_P_planned_0
  | 10 => mo_P_planned_10
  | 42 => mo_P_planned_42
  | 53 => mo_P_planned_53
  | _ => []
abbrev mo_P_moves_0 : List mmO := [(0, .iload 1, 0, 0), (1, .iload 2, 0, 0), (2, .invokestatic 162, 1032, 2), (5, .ifCond .ne 0, 10, 0), (8, .iconst (-1), 0, 0), (9, .ireturn, 0, 0)]
abbrev mo_P_moves_10 : List mmO := [(10, .aload 0, 0, 0), (11, .getstatic 40, 10, 26), (14, .aload 0, 0, 0), (15, .getstatic 26, 10, 18), (18, .iload 1, 0, 0), (19, .iload 2, 0, 0), (20, .iconst (-1), 0, 0), (21, .invokevirtual 205, 101, 5), (24, .aload 0, 0, 0), (25, .getstatic 40, 10, 26), (28, .aload 0, 0, 0), (29, .getstatic 26, 10, 18), (32, .invokevirtual 219, 105, 2), (35, .iload 3, 0, 0), (36, .lookupswitch 0 #[(0, 72), (1, 83), (2, 94), (3, 109), (4, 117)], 132, 0)]
abbrev mo_P_moves_72 : List mmO := [(72, .aload 0, 0, 0), (73, .getstatic 40, 10, 26), (76, .getstatic 222, 1, 3), (79, .getfield 225, 9, 4), (82, .ireturn, 0, 0)]
abbrev mo_P_moves_83 : List mmO := [(83, .aload 0, 0, 0), (84, .getstatic 40, 10, 26), (87, .getstatic 222, 1, 3), (90, .getfield 228, 9, 5), (93, .ireturn, 0, 0)]
abbrev mo_P_moves_94 : List mmO := [(94, .aload 0, 0, 0), (95, .getstatic 40, 10, 26), (98, .getstatic 222, 1, 3), (101, .aload 0, 0, 0), (102, .getfield 72, 10, 9), (105, .invokevirtual 231, 903, 2), (108, .ireturn, 0, 0)]
abbrev mo_P_moves_109 : List mmO := [(109, .aload 0, 0, 0), (110, .getstatic 40, 10, 26), (113, .getfield 234, 1, 2), (116, .ireturn, 0, 0)]
abbrev mo_P_moves_117 : List mmO := [(117, .iload 1, 0, 0), (118, .iconst (1), 0, 0), (119, .if_icmp .ne 0, 130, 0), (122, .aload 0, 0, 0), (123, .iload 2, 0, 0), (124, .invokevirtual 237, 1039, 2), (127, .goto 0, 131, 0)]
abbrev mo_P_moves_130 : List mmO := [(130, .iconst (-1), 0, 0), (131, .nop, 0, 0)]
abbrev mo_P_moves_131 : List mmO := [(131, .ireturn, 0, 0)]
abbrev mo_P_moves_132 : List mmO := [(132, .iconst (-1), 0, 0), (133, .ireturn, 0, 0)]
def mb_P_moves : Nat → List mmO := fun b => match b with
  | 0 => mo_P_moves_0
  | 10 => mo_P_moves_10
  | 72 => mo_P_moves_72
  | 83 => mo_P_moves_83
  | 94 => mo_P_moves_94
  | 109 => mo_P_moves_109
  | 117 => mo_P_moves_117
  | 130 => mo_P_moves_130
  | 131 => mo_P_moves_131
  | 132 => mo_P_moves_132
  | _ => []
abbrev mo_P_best_0 : List mmO := [(0, .iload 1, 0, 0), (1, .iconst (1), 0, 0), (2, .invokestatic 162, 1032, 2), (5, .ifCond .eq 0, 17, 0), (8, .iload 2, 0, 0), (9, .ifCond .lt 0, 17, 0), (12, .iload 2, 0, 0), (13, .iconst (1), 0, 0), (14, .if_icmp .le 0, 19, 0), (17, .nop, 0, 0)]
abbrev mo_P_best_17 : List mmO := [(17, .iconst (-1), 0, 0), (18, .ireturn, 0, 0)]
abbrev mo_P_best_19 : List mmO := [(19, .iconst (1), 0, 0), (20, .istore 3, 0, 0), (21, .aload 0, 0, 0), (22, .iload 1, 0, 0), (23, .iconst (1), 0, 0), (24, .iconst (-1), 0, 0), (25, .invokevirtual 240, 1038, 4), (28, .istore 4, 0, 0), (30, .iconst (2), 0, 0), (31, .istore 5, 0, 0), (33, .nop, 0, 0)]
abbrev mo_P_best_33 : List mmO := [(33, .iload 5, 0, 0), (35, .aload 0, 0, 0), (36, .getstatic 19, 10, 13), (39, .getfield 82, 4, 4), (42, .if_icmp .gt 0, 75, 0), (45, .aload 0, 0, 0), (46, .iload 1, 0, 0), (47, .iload 5, 0, 0), (49, .iconst (-1), 0, 0), (50, .invokevirtual 240, 1038, 4), (53, .istore 6, 0, 0), (55, .iload 6, 0, 0), (57, .iload 4, 0, 0), (59, .if_icmp .ge 0, 69, 0), (62, .iload 5, 0, 0), (64, .istore 3, 0, 0), (65, .iload 6, 0, 0), (67, .istore 4, 0, 0), (69, .nop, 0, 0)]
abbrev mo_P_best_69 : List mmO := [(69, .iinc 5 (1), 0, 0), (72, .goto 0, 33, 0)]
abbrev mo_P_best_75 : List mmO := [(75, .iload 2, 0, 0), (76, .ifCond .ne 0, 83, 0), (79, .iload 3, 0, 0), (80, .goto 0, 85, 0)]
abbrev mo_P_best_83 : List mmO := [(83, .iload 4, 0, 0), (85, .nop, 0, 0)]
abbrev mo_P_best_85 : List mmO := [(85, .ireturn, 0, 0)]
def mb_P_best : Nat → List mmO := fun b => match b with
  | 0 => mo_P_best_0
  | 17 => mo_P_best_17
  | 19 => mo_P_best_19
  | 33 => mo_P_best_33
  | 69 => mo_P_best_69
  | 75 => mo_P_best_75
  | 83 => mo_P_best_83
  | 85 => mo_P_best_85
  | _ => []
abbrev mo_P_split_0 : List mmO := [(0, .iload 1, 0, 0), (1, .iconst (1), 0, 0), (2, .if_icmp .lt 0, 19, 0), (5, .iload 1, 0, 0), (6, .iconst (4), 0, 0), (7, .if_icmp .gt 0, 19, 0), (10, .iload 2, 0, 0), (11, .ifCond .lt 0, 19, 0), (14, .iload 2, 0, 0), (15, .iload 1, 0, 0), (16, .if_icmp .le 0, 21, 0), (19, .nop, 0, 0)]
abbrev mo_P_split_19 : List mmO := [(19, .iconst (-1), 0, 0), (20, .ireturn, 0, 0)]
abbrev mo_P_split_21 : List mmO := [(21, .aload 0, 0, 0), (22, .getstatic 40, 10, 26), (25, .aload 0, 0, 0), (26, .getstatic 26, 10, 18), (29, .aload 0, 0, 0), (30, .getfield 76, 10, 10), (33, .aload 0, 0, 0), (34, .getfield 79, 10, 11), (37, .iconst (-1), 0, 0), (38, .invokevirtual 205, 101, 5), (41, .aload 0, 0, 0), (42, .getstatic 47, 10, 31), (45, .aload 0, 0, 0), (46, .getstatic 40, 10, 26), (49, .aload 0, 0, 0), (50, .getstatic 26, 10, 18), (53, .aload 0, 0, 0), (54, .getfield 72, 10, 9), (57, .invokevirtual 244, 601, 4), (60, .aload 0, 0, 0), (61, .getstatic 47, 10, 31), (64, .iload 1, 0, 0), (65, .invokevirtual 248, 603, 2), (68, .iload 2, 0, 0), (69, .ifCond .ne 0, 83, 0), (72, .aload 0, 0, 0), (73, .getstatic 47, 10, 31), (76, .iload 1, 0, 0), (77, .invokevirtual 251, 605, 2), (80, .goto 0, 92, 0)]
abbrev mo_P_split_83 : List mmO := [(83, .aload 0, 0, 0), (84, .getstatic 47, 10, 31), (87, .iload 1, 0, 0), (88, .iload 2, 0, 0), (89, .invokevirtual 254, 606, 3), (92, .nop, 0, 0)]
abbrev mo_P_split_92 : List mmO := [(92, .ireturn, 0, 0)]
def mb_P_split : Nat → List mmO := fun b => match b with
  | 0 => mo_P_split_0
  | 19 => mo_P_split_19
  | 21 => mo_P_split_21
  | 83 => mo_P_split_83
  | 92 => mo_P_split_92
  | _ => []
abbrev mo_P_move_0 : List mmO := [(0, .iload 1, 0, 0), (1, .ifCond .lt 0, 13, 0), (4, .iload 2, 0, 0), (5, .ifCond .lt 0, 13, 0), (8, .iload 2, 0, 0), (9, .iconst (2), 0, 0), (10, .if_icmp .le 0, 15, 0), (13, .nop, 0, 0)]
abbrev mo_P_move_13 : List mmO := [(13, .iconst (-1), 0, 0), (14, .ireturn, 0, 0)]
abbrev mo_P_move_15 : List mmO := [(15, .aload 0, 0, 0), (16, .getstatic 40, 10, 26), (19, .aload 0, 0, 0), (20, .getstatic 26, 10, 18), (23, .aload 0, 0, 0), (24, .getfield 76, 10, 10), (27, .aload 0, 0, 0), (28, .getfield 79, 10, 11), (31, .iconst (-1), 0, 0), (32, .invokevirtual 205, 101, 5), (35, .aload 0, 0, 0), (36, .getstatic 40, 10, 26), (39, .aload 0, 0, 0), (40, .getstatic 26, 10, 18), (43, .iload 1, 0, 0), (44, .invokevirtual 257, 106, 3), (47, .istore 3, 0, 0), (48, .iload 3, 0, 0), (49, .iconst (-1), 0, 0), (50, .if_icmp .eq 0, 58, 0), (53, .iload 2, 0, 0), (54, .iconst (2), 0, 0), (55, .if_icmp .ne 0, 60, 0), (58, .nop, 0, 0)]
abbrev mo_P_move_58 : List mmO := [(58, .iload 3, 0, 0), (59, .ireturn, 0, 0)]
abbrev mo_P_move_60 : List mmO := [(60, .aload 0, 0, 0), (61, .getstatic 40, 10, 26), (64, .getstatic 222, 1, 3), (67, .invokevirtual 261, 906, 1), (70, .istore 4, 0, 0), (72, .iload 2, 0, 0), (73, .ifCond .ne 0, 81, 0), (76, .iload 4, 0, 0), (78, .goto 0, 93, 0)]
abbrev mo_P_move_81 : List mmO := [(81, .aload 0, 0, 0), (82, .getstatic 40, 10, 26), (85, .getstatic 222, 1, 3), (88, .iload 4, 0, 0), (90, .invokevirtual 264, 909, 2), (93, .nop, 0, 0)]
abbrev mo_P_move_93 : List mmO := [(93, .ireturn, 0, 0)]
def mb_P_move : Nat → List mmO := fun b => match b with
  | 0 => mo_P_move_0
  | 13 => mo_P_move_13
  | 15 => mo_P_move_15
  | 58 => mo_P_move_58
  | 60 => mo_P_move_60
  | 81 => mo_P_move_81
  | 93 => mo_P_move_93
  | _ => []
abbrev mo_P_saves_0 : List mmO := [(0, .aload 0, 0, 0), (1, .getstatic 26, 10, 18), (4, .iload 1, 0, 0), (5, .invokevirtual 146, 203, 2), (8, .ifCond .ne 0, 15, 0), (11, .iconst (-100000), 0, 0), (14, .ireturn, 0, 0)]
abbrev mo_P_saves_15 : List mmO := [(15, .aload 0, 0, 0), (16, .aload 0, 0, 0), (17, .getfield 76, 10, 10), (20, .aload 0, 0, 0), (21, .getfield 79, 10, 11), (24, .iconst (-1), 0, 0), (25, .invokevirtual 240, 1038, 4), (28, .aload 0, 0, 0), (29, .aload 0, 0, 0), (30, .getfield 76, 10, 10), (33, .aload 0, 0, 0), (34, .getfield 79, 10, 11), (37, .iload 1, 0, 0), (38, .invokevirtual 240, 1038, 4), (41, .isub, 0, 0), (42, .ireturn, 0, 0)]
def mb_P_saves : Nat → List mmO := fun b => match b with
  | 0 => mo_P_saves_0
  | 15 => mo_P_saves_15
  | _ => []
abbrev mo_P_would_0 : List mmO := [(0, .aload 0, 0, 0), (1, .iload 1, 0, 0), (2, .iload 2, 0, 0), (3, .iload 3, 0, 0), (4, .iload 4, 0, 0), (6, .invokevirtual 134, 1033, 5), (9, .ifCond .ne 0, 16, 0), (12, .iconst (-100000), 0, 0), (15, .ireturn, 0, 0)]
abbrev mo_P_would_16 : List mmO := [(16, .aload 0, 0, 0), (17, .aload 0, 0, 0), (18, .getfield 76, 10, 10), (21, .aload 0, 0, 0), (22, .getfield 79, 10, 11), (25, .iconst (-1), 0, 0), (26, .invokevirtual 240, 1038, 4), (29, .istore 5, 0, 0), (31, .aload 0, 0, 0), (32, .getstatic 26, 10, 18), (35, .iload 1, 0, 0), (36, .iload 2, 0, 0), (37, .iload 3, 0, 0), (38, .aload 0, 0, 0), (39, .iload 4, 0, 0), (41, .invokevirtual 139, 1034, 2), (44, .invokevirtual 142, 204, 5), (47, .aload 0, 0, 0), (48, .aload 0, 0, 0), (49, .getfield 76, 10, 10), (52, .aload 0, 0, 0), (53, .getfield 79, 10, 11), (56, .iconst (-1), 0, 0), (57, .invokevirtual 240, 1038, 4), (60, .istore 6, 0, 0), (62, .aload 0, 0, 0), (63, .getstatic 26, 10, 18), (66, .invokevirtual 159, 205, 1), (69, .iload 6, 0, 0), (71, .iload 5, 0, 0), (73, .isub, 0, 0), (74, .ireturn, 0, 0)]
def mb_P_would : Nat → List mmO := fun b => match b with
  | 0 => mo_P_would_0
  | 16 => mo_P_would_16
  | _ => []
abbrev mo_P_undone_0 : List mmO := [(0, .iload 1, 0, 0), (1, .invokestatic 268, 1031, 1), (4, .ifCond .ne 0, 9, 0), (7, .iconst (-1), 0, 0), (8, .ireturn, 0, 0)]
abbrev mo_P_undone_9 : List mmO := [(9, .aload 0, 0, 0), (10, .getstatic 54, 10, 42), (13, .aload 0, 0, 0), (14, .getstatic 26, 10, 18), (17, .iload 1, 0, 0), (18, .invokevirtual 271, 801, 3), (21, .iload 2, 0, 0), (22, .iconst (-1), 0, 0), (23, .if_icmp .ne 0, 39, 0), (26, .aload 0, 0, 0), (27, .getstatic 54, 10, 42), (30, .getstatic 274, 8, 1), (33, .getfield 213, 5, 1), (36, .goto 0, 50, 0)]
abbrev mo_P_undone_39 : List mmO := [(39, .aload 0, 0, 0), (40, .getstatic 54, 10, 42), (43, .getstatic 274, 8, 1), (46, .iload 2, 0, 0), (47, .invokevirtual 216, 503, 2), (50, .nop, 0, 0)]
abbrev mo_P_undone_50 : List mmO := [(50, .ireturn, 0, 0)]
def mb_P_undone : Nat → List mmO := fun b => match b with
  | 0 => mo_P_undone_0
  | 9 => mo_P_undone_9
  | 39 => mo_P_undone_39
  | 50 => mo_P_undone_50
  | _ => []
abbrev mo_P_adds_0 : List mmO := [(0, .iload 1, 0, 0), (1, .invokestatic 268, 1031, 1), (4, .ifCond .ne 0, 9, 0), (7, .iconst (-1), 0, 0), (8, .ireturn, 0, 0)]
abbrev mo_P_adds_9 : List mmO := [(9, .aload 0, 0, 0), (10, .getstatic 54, 10, 42), (13, .aload 0, 0, 0), (14, .getstatic 26, 10, 18), (17, .iload 1, 0, 0), (18, .invokevirtual 271, 801, 3), (21, .aload 0, 0, 0), (22, .getstatic 54, 10, 42), (25, .aload 0, 0, 0), (26, .getstatic 26, 10, 18), (29, .iload 1, 0, 0), (30, .aload 0, 0, 0), (31, .getstatic 19, 10, 13), (34, .getfield 82, 4, 4), (37, .invokevirtual 275, 802, 4), (40, .iload 2, 0, 0), (41, .lookupswitch 0 #[(0, 68), (1, 76), (2, 84)], 92, 0)]
abbrev mo_P_adds_68 : List mmO := [(68, .aload 0, 0, 0), (69, .getstatic 54, 10, 42), (72, .getfield 278, 8, 1), (75, .ireturn, 0, 0)]
abbrev mo_P_adds_76 : List mmO := [(76, .aload 0, 0, 0), (77, .getstatic 54, 10, 42), (80, .getfield 281, 8, 2), (83, .ireturn, 0, 0)]
abbrev mo_P_adds_84 : List mmO := [(84, .aload 0, 0, 0), (85, .getstatic 54, 10, 42), (88, .getfield 284, 8, 3), (91, .ireturn, 0, 0)]
abbrev mo_P_adds_92 : List mmO := [(92, .iconst (-1), 0, 0), (93, .ireturn, 0, 0)]
def mb_P_adds : Nat → List mmO := fun b => match b with
  | 0 => mo_P_adds_0
  | 9 => mo_P_adds_9
  | 68 => mo_P_adds_68
  | 76 => mo_P_adds_76
  | 84 => mo_P_adds_84
  | 92 => mo_P_adds_92
  | _ => []
abbrev mo_P_walk_0 : List mmO := [(0, .iload 1, 0, 0), (1, .iconst (1), 0, 0), (2, .if_icmp .lt 0, 12, 0), (5, .iload 1, 0, 0), (6, .iconst (400), 0, 0), (9, .if_icmp .le 0, 14, 0), (12, .nop, 0, 0)]
abbrev mo_P_walk_12 : List mmO := [(12, .iconst (-1), 0, 0), (13, .ireturn, 0, 0)]
abbrev mo_P_walk_14 : List mmO := [(14, .aload 0, 0, 0), (15, .getstatic 40, 10, 26), (18, .aload 0, 0, 0), (19, .getstatic 26, 10, 18), (22, .aload 0, 0, 0), (23, .getfield 76, 10, 10), (26, .aload 0, 0, 0), (27, .getfield 79, 10, 11), (30, .iconst (-1), 0, 0), (31, .invokevirtual 205, 101, 5), (34, .aload 0, 0, 0), (35, .getstatic 61, 10, 45), (38, .aload 0, 0, 0), (39, .getstatic 61, 10, 45), (42, .getfield 287, 9, 6), (45, .aload 0, 0, 0), (46, .getstatic 40, 10, 26), (49, .getstatic 209, 1, 1), (52, .getfield 213, 5, 1), (55, .fsub, 0, 0), (58, .putfield 287, 9, 6), (61, .iconst (0), 0, 0), (62, .istore 2, 0, 0), (63, .aload 0, 0, 0), (64, .getstatic 61, 10, 45), (67, .getfield 287, 9, 6), (70, .istore 3, 0, 0), (71, .nop, 0, 0)]
abbrev mo_P_walk_71 : List mmO := [(71, .iload 3, 0, 0), (72, .aload 0, 0, 0), (73, .getstatic 40, 10, 26), (76, .getstatic 209, 1, 1), (79, .getfield 213, 5, 1), (82, .if_icmp .ge 0, 149, 0), (85, .aload 0, 0, 0), (86, .getstatic 26, 10, 18), (89, .aload 0, 0, 0), (90, .getstatic 61, 10, 45), (93, .aload 0, 0, 0), (94, .getstatic 40, 10, 26), (97, .getstatic 209, 1, 1), (100, .iload 3, 0, 0), (101, .invokevirtual 216, 503, 2), (104, .invokevirtual 295, 212, 3), (107, .iload 2, 0, 0), (108, .aload 0, 0, 0), (109, .getstatic 61, 10, 45), (112, .iload 1, 0, 0), (113, .iload 2, 0, 0), (114, .isub, 0, 0), (115, .invokevirtual 299, 907, 2), (118, .iadd, 0, 0), (119, .istore 2, 0, 0), (120, .aload 0, 0, 0), (121, .getstatic 61, 10, 45), (124, .invokevirtual 302, 905, 1), (127, .ifCond .le 0, 133, 0), (130, .goto 0, 149, 0)]
abbrev mo_P_walk_133 : List mmO := [(133, .aload 0, 0, 0), (134, .getstatic 61, 10, 45), (137, .iload 3, 0, 0), (138, .iconst (1), 0, 0), (139, .iadd, 0, 0), (140, .putfield 287, 9, 6), (143, .iinc 3 (1), 0, 0), (146, .goto 0, 71, 0)]
abbrev mo_P_walk_149 : List mmO := [(149, .iload 2, 0, 0), (150, .ireturn, 0, 0)]
def mb_P_walk : Nat → List mmO := fun b => match b with
  | 0 => mo_P_walk_0
  | 12 => mo_P_walk_12
  | 14 => mo_P_walk_14
  | 71 => mo_P_walk_71
  | 133 => mo_P_walk_133
  | 149 => mo_P_walk_149
  | _ => []
abbrev mo_P_home_0 : List mmO := [(0, .aload 0, 0, 0), (1, .getstatic 61, 10, 45), (4, .iconst (3), 0, 0), (5, .aload 0, 0, 0), (6, .getstatic 61, 10, 45), (9, .getfield 305, 9, 2), (12, .aload 0, 0, 0), (13, .getstatic 61, 10, 45), (16, .getfield 308, 9, 1), (19, .isub, 0, 0), (20, .iconst (1), 0, 0), (21, .iadd, 0, 0), (22, .invokevirtual 311, 908, 3), (25, .istore 1, 0, 0), (26, .iload 1, 0, 0), (27, .aload 0, 0, 0), (28, .getstatic 61, 10, 45), (31, .iconst (0), 0, 0), (32, .aload 0, 0, 0), (33, .getstatic 61, 10, 45), (36, .getfield 308, 9, 1), (39, .invokevirtual 311, 908, 3), (42, .iadd, 0, 0), (43, .istore 1, 0, 0), (44, .iload 1, 0, 0), (45, .aload 0, 0, 0), (46, .getstatic 61, 10, 45), (49, .iconst (3), 0, 0), (50, .aload 0, 0, 0), (51, .getstatic 61, 10, 45), (54, .getfield 305, 9, 2), (57, .iconst (1), 0, 0), (58, .iadd, 0, 0), (59, .invokevirtual 311, 908, 3), (62, .iadd, 0, 0), (63, .istore 1, 0, 0), (64, .iload 1, 0, 0), (65, .aload 0, 0, 0), (66, .getstatic 61, 10, 45), (69, .iconst (5), 0, 0), (70, .aload 0, 0, 0), (71, .getstatic 61, 10, 45), (74, .getfield 314, 9, 3), (77, .invokevirtual 311, 908, 3), (80, .iadd, 0, 0), (81, .istore 1, 0, 0), (82, .aload 0, 0, 0), (83, .getstatic 61, 10, 45), (86, .iconst (0), 0, 0), (87, .putfield 287, 9, 6), (90, .iload 1, 0, 0), (91, .ireturn, 0, 0)]
def mb_P_home : Nat → List mmO := fun b => match b with
  | 0 => mo_P_home_0
  | _ => []
abbrev mo_P_window_0 : List mmO := [(0, .iload 1, 0, 0), (1, .lookupswitch 0 #[(0, 48), (1, 56), (2, 64), (3, 72), (4, 113), (5, 151), (6, 159), (7, 167)], 181, 0)]
abbrev mo_P_window_48 : List mmO := [(48, .aload 0, 0, 0), (49, .getstatic 61, 10, 45), (52, .getfield 308, 9, 1), (55, .ireturn, 0, 0)]
abbrev mo_P_window_56 : List mmO := [(56, .aload 0, 0, 0), (57, .getstatic 61, 10, 45), (60, .getfield 305, 9, 2), (63, .ireturn, 0, 0)]
abbrev mo_P_window_64 : List mmO := [(64, .aload 0, 0, 0), (65, .getstatic 61, 10, 45), (68, .getfield 314, 9, 3), (71, .ireturn, 0, 0)]
abbrev mo_P_window_72 : List mmO := [(72, .aload 0, 0, 0), (73, .getstatic 40, 10, 26), (76, .aload 0, 0, 0), (77, .getstatic 26, 10, 18), (80, .aload 0, 0, 0), (81, .getfield 76, 10, 10), (84, .aload 0, 0, 0), (85, .getfield 79, 10, 11), (88, .iconst (-1), 0, 0), (89, .invokevirtual 205, 101, 5), (92, .aload 0, 0, 0), (93, .getstatic 61, 10, 45), (96, .getfield 287, 9, 6), (99, .aload 0, 0, 0), (100, .getstatic 40, 10, 26), (103, .getstatic 209, 1, 1), (106, .getfield 213, 5, 1), (109, .fsub, 0, 0), (112, .ireturn, 0, 0)]
abbrev mo_P_window_113 : List mmO := [(113, .aload 0, 0, 0), (114, .getstatic 40, 10, 26), (117, .aload 0, 0, 0), (118, .getstatic 26, 10, 18), (121, .aload 0, 0, 0), (122, .getfield 76, 10, 10), (125, .aload 0, 0, 0), (126, .getfield 79, 10, 11), (129, .iconst (-1), 0, 0), (130, .invokevirtual 205, 101, 5), (133, .aload 0, 0, 0), (134, .getstatic 40, 10, 26), (137, .getstatic 209, 1, 1), (140, .aload 0, 0, 0), (141, .getstatic 61, 10, 45), (144, .getfield 287, 9, 6), (147, .invokevirtual 216, 503, 2), (150, .ireturn, 0, 0)]
abbrev mo_P_window_151 : List mmO := [(151, .aload 0, 0, 0), (152, .getstatic 61, 10, 45), (155, .getfield 225, 9, 4), (158, .ireturn, 0, 0)]
abbrev mo_P_window_159 : List mmO := [(159, .aload 0, 0, 0), (160, .getstatic 61, 10, 45), (163, .getfield 228, 9, 5), (166, .ireturn, 0, 0)]
abbrev mo_P_window_167 : List mmO := [(167, .aload 0, 0, 0), (168, .invokevirtual 317, 1037, 1), (171, .aload 0, 0, 0), (172, .getstatic 33, 10, 23), (175, .iconst (1), 0, 0), (176, .invokevirtual 320, 702, 2), (179, .l2i, 0, 0), (180, .ireturn, 0, 0)]
abbrev mo_P_window_181 : List mmO := [(181, .iconst (-1), 0, 0), (182, .ireturn, 0, 0)]
def mb_P_window : Nat → List mmO := fun b => match b with
  | 0 => mo_P_window_0
  | 48 => mo_P_window_48
  | 56 => mo_P_window_56
  | 64 => mo_P_window_64
  | 72 => mo_P_window_72
  | 113 => mo_P_window_113
  | 151 => mo_P_window_151
  | 159 => mo_P_window_159
  | 167 => mo_P_window_167
  | 181 => mo_P_window_181
  | _ => []
abbrev mo_P_holds_0 : List mmO := [(0, .iload 1, 0, 0), (1, .invokestatic 111, 1029, 1), (4, .ifCond .ne 0, 9, 0), (7, .iconst (-1), 0, 0), (8, .ireturn, 0, 0)]
abbrev mo_P_holds_9 : List mmO := [(9, .aload 0, 0, 0), (10, .invokevirtual 317, 1037, 1), (13, .aload 0, 0, 0), (14, .getstatic 33, 10, 23), (17, .getstatic 323, 7, 1), (20, .iload 1, 0, 0), (21, .iaload, 0, 0), (22, .ireturn, 0, 0)]
def mb_P_holds : Nat → List mmO := fun b => match b with
  | 0 => mo_P_holds_0
  | 9 => mo_P_holds_9
  | _ => []
abbrev mo_P_tells_0 : List mmO := [(0, .iload 1, 0, 0), (1, .invokestatic 326, 1030, 1), (4, .ifCond .eq 0, 14, 0), (7, .iload 1, 0, 0), (8, .invokestatic 329, 201, 1), (11, .ifCond .ne 0, 18, 0), (14, .nop, 0, 0)]
abbrev mo_P_tells_14 : List mmO := [(14, .bipush (-1), 0, 0), (17, .lreturn, 0, 0)]
abbrev mo_P_tells_18 : List mmO := [(18, .aload 0, 0, 0), (19, .invokevirtual 317, 1037, 1), (22, .aload 0, 0, 0), (23, .getstatic 33, 10, 23), (26, .iload 1, 0, 0), (27, .invokevirtual 320, 702, 2), (30, .lreturn, 0, 0)]
def mb_P_tells : Nat → List mmO := fun b => match b with
  | 0 => mo_P_tells_0
  | 14 => mo_P_tells_14
  | 18 => mo_P_tells_18
  | _ => []
abbrev mo_P_touched_0 : List mmO := [(0, .aload 0, 0, 0), (1, .getstatic 19, 10, 13), (4, .iload 1, 0, 0), (5, .invokevirtual 107, 403, 2), (8, .ifCond .eq 0, 18, 0), (11, .iload 2, 0, 0), (12, .invokestatic 111, 1029, 1), (15, .ifCond .ne 0, 20, 0), (18, .nop, 0, 0)]
abbrev mo_P_touched_18 : List mmO := [(18, .iconst (-1), 0, 0), (19, .ireturn, 0, 0)]
abbrev mo_P_touched_20 : List mmO := [(20, .aload 0, 0, 0), (21, .getstatic 19, 10, 13), (24, .getstatic 114, 4, 1), (27, .iload 1, 0, 0), (28, .iaload, 0, 0), (29, .istore 3, 0, 0), (30, .iconst (0), 0, 0), (31, .istore 4, 0, 0), (33, .iconst (0), 0, 0), (34, .istore 5, 0, 0), (36, .nop, 0, 0)]
abbrev mo_P_touched_36 : List mmO := [(36, .iload 5, 0, 0), (38, .aload 0, 0, 0), (39, .getstatic 26, 10, 18), (42, .getfield 138, 2, 4), (45, .if_icmp .ge 0, 95, 0), (48, .aload 0, 0, 0), (49, .iload 5, 0, 0), (51, .invokevirtual 188, 1036, 2), (54, .lstore 6, 0, 0), (56, .aload 0, 0, 0), (57, .getstatic 19, 10, 13), (60, .iload 1, 0, 0), (61, .iload 2, 0, 0), (62, .invokevirtual 178, 408, 3), (65, .aload 0, 0, 0), (66, .iload 5, 0, 0), (68, .invokevirtual 188, 1036, 2), (71, .lload 6, 0, 0), (73, .lcmp, 0, 0), (74, .ifCond .eq 0, 80, 0), (77, .iinc 4 (1), 0, 0), (80, .nop, 0, 0)]
abbrev mo_P_touched_80 : List mmO := [(80, .aload 0, 0, 0), (81, .getstatic 19, 10, 13), (84, .iload 1, 0, 0), (85, .iload 3, 0, 0), (86, .invokevirtual 178, 408, 3), (89, .iinc 5 (1), 0, 0), (92, .goto 0, 36, 0)]
abbrev mo_P_touched_95 : List mmO := [(95, .iload 4, 0, 0), (97, .ireturn, 0, 0)]
def mb_P_touched : Nat → List mmO := fun b => match b with
  | 0 => mo_P_touched_0
  | 18 => mo_P_touched_18
  | 20 => mo_P_touched_20
  | 36 => mo_P_touched_36
  | 80 => mo_P_touched_80
  | 95 => mo_P_touched_95
  | _ => []
abbrev mo_P_count_0 : List mmO := [(0, .iload 1, 0, 0), (1, .lookupswitch 0 #[(0, 60), (1, 68), (2, 76), (3, 84), (4, 89), (5, 94), (6, 99), (7, 107), (8, 119), (9, 124), (10, 132)], 140, 0)]
abbrev mo_P_count_60 : List mmO := [(60, .aload 0, 0, 0), (61, .getstatic 19, 10, 13), (64, .getfield 82, 4, 4), (67, .ireturn, 0, 0)]
abbrev mo_P_count_68 : List mmO := [(68, .aload 0, 0, 0), (69, .getstatic 19, 10, 13), (72, .getfield 131, 4, 5), (75, .ireturn, 0, 0)]
abbrev mo_P_count_76 : List mmO := [(76, .aload 0, 0, 0), (77, .getstatic 26, 10, 18), (80, .getfield 138, 2, 4), (83, .ireturn, 0, 0)]
abbrev mo_P_count_84 : List mmO := [(84, .aload 0, 0, 0), (85, .getfield 72, 10, 9), (88, .ireturn, 0, 0)]
abbrev mo_P_count_89 : List mmO := [(89, .aload 0, 0, 0), (90, .getfield 76, 10, 10), (93, .ireturn, 0, 0)]
abbrev mo_P_count_94 : List mmO := [(94, .aload 0, 0, 0), (95, .getfield 79, 10, 11), (98, .ireturn, 0, 0)]
abbrev mo_P_count_99 : List mmO := [(99, .aload 0, 0, 0), (100, .getstatic 26, 10, 18), (103, .invokevirtual 334, 210, 1), (106, .ireturn, 0, 0)]
abbrev mo_P_count_107 : List mmO := [(107, .aload 0, 0, 0), (108, .getstatic 26, 10, 18), (111, .aload 0, 0, 0), (112, .invokevirtual 337, 1040, 1), (115, .invokevirtual 340, 211, 2), (118, .ireturn, 0, 0)]
abbrev mo_P_count_119 : List mmO := [(119, .aload 0, 0, 0), (120, .invokevirtual 337, 1040, 1), (123, .ireturn, 0, 0)]
abbrev mo_P_count_124 : List mmO := [(124, .aload 0, 0, 0), (125, .getstatic 68, 10, 47), (128, .getfield 106, 0, 2), (131, .ireturn, 0, 0)]
abbrev mo_P_count_132 : List mmO := [(132, .aload 0, 0, 0), (133, .getstatic 10, 10, 1), (136, .getfield 85, 3, 3), (139, .ireturn, 0, 0)]
abbrev mo_P_count_140 : List mmO := [(140, .iconst (-1), 0, 0), (141, .ireturn, 0, 0)]
def mb_P_count : Nat → List mmO := fun b => match b with
  | 0 => mo_P_count_0
  | 60 => mo_P_count_60
  | 68 => mo_P_count_68
  | 76 => mo_P_count_76
  | 84 => mo_P_count_84
  | 89 => mo_P_count_89
  | 94 => mo_P_count_94
  | 99 => mo_P_count_99
  | 107 => mo_P_count_107
  | 119 => mo_P_count_119
  | 124 => mo_P_count_124
  | 132 => mo_P_count_132
  | 140 => mo_P_count_140
  | _ => []
abbrev mo_P_isNumber_0 : List mmO := [(0, .iload 0, 0, 0), (1, .ifCond .lt 0, 14, 0), (4, .iload 0, 0, 0), (5, .iconst (64), 0, 0), (7, .if_icmp .ge 0, 14, 0), (10, .iconst (1), 0, 0), (11, .goto 0, 15, 0)]
abbrev mo_P_isNumber_14 : List mmO := [(14, .iconst (0), 0, 0), (15, .nop, 0, 0)]
abbrev mo_P_isNumber_15 : List mmO := [(15, .freturn, 0, 0)]
def mb_P_isNumber : Nat → List mmO := fun b => match b with
  | 0 => mo_P_isNumber_0
  | 14 => mo_P_isNumber_14
  | 15 => mo_P_isNumber_15
  | _ => []
abbrev mo_P_isKind_0 : List mmO := [(0, .iload 0, 0, 0), (1, .ifCond .lt 0, 14, 0), (4, .iload 0, 0, 0), (5, .iconst (8), 0, 0), (7, .if_icmp .ge 0, 14, 0), (10, .iconst (1), 0, 0), (11, .goto 0, 15, 0)]
abbrev mo_P_isKind_14 : List mmO := [(14, .iconst (0), 0, 0), (15, .nop, 0, 0)]
abbrev mo_P_isKind_15 : List mmO := [(15, .freturn, 0, 0)]
def mb_P_isKind : Nat → List mmO := fun b => match b with
  | 0 => mo_P_isKind_0
  | 14 => mo_P_isKind_14
  | 15 => mo_P_isKind_15
  | _ => []
abbrev mo_P_isBlock_0 : List mmO := [(0, .iload 0, 0, 0), (1, .iconst (1), 0, 0), (2, .if_icmp .lt 0, 15, 0), (5, .iload 0, 0, 0), (6, .iconst (60), 0, 0), (8, .if_icmp .gt 0, 15, 0), (11, .iconst (1), 0, 0), (12, .goto 0, 16, 0)]
abbrev mo_P_isBlock_15 : List mmO := [(15, .iconst (0), 0, 0), (16, .nop, 0, 0)]
abbrev mo_P_isBlock_16 : List mmO := [(16, .freturn, 0, 0)]
def mb_P_isBlock : Nat → List mmO := fun b => match b with
  | 0 => mo_P_isBlock_0
  | 15 => mo_P_isBlock_15
  | 16 => mo_P_isBlock_16
  | _ => []
abbrev mo_P_isPlan_0 : List mmO := [(0, .iload 0, 0, 0), (1, .ifCond .lt 0, 20, 0), (4, .iload 0, 0, 0), (5, .iconst (3), 0, 0), (6, .if_icmp .ge 0, 20, 0), (9, .iload 1, 0, 0), (10, .invokestatic 268, 1031, 1), (13, .ifCond .eq 0, 20, 0), (16, .iconst (1), 0, 0), (17, .goto 0, 21, 0)]
abbrev mo_P_isPlan_20 : List mmO := [(20, .iconst (0), 0, 0), (21, .nop, 0, 0)]
abbrev mo_P_isPlan_21 : List mmO := [(21, .freturn, 0, 0)]
def mb_P_isPlan : Nat → List mmO := fun b => match b with
  | 0 => mo_P_isPlan_0
  | 20 => mo_P_isPlan_20
  | 21 => mo_P_isPlan_21
  | _ => []
abbrev mo_P_isQuestion_0 : List mmO := [(0, .iload 1, 0, 0), (1, .invokestatic 326, 1030, 1), (4, .ifCond .eq 0, 56, 0), (7, .aload 0, 0, 0), (8, .getstatic 19, 10, 13), (11, .iload 2, 0, 0), (12, .invokevirtual 107, 403, 2), (15, .ifCond .eq 0, 56, 0), (18, .aload 0, 0, 0), (19, .getstatic 19, 10, 13), (22, .iload 3, 0, 0), (23, .invokevirtual 107, 403, 2), (26, .ifCond .eq 0, 56, 0), (29, .iload 2, 0, 0), (30, .iload 3, 0, 0), (31, .if_icmp .gt 0, 56, 0), (34, .iload 4, 0, 0), (36, .iconst (-1), 0, 0), (37, .if_icmp .eq 0, 52, 0), (40, .aload 0, 0, 0), (41, .getstatic 19, 10, 13), (44, .iload 4, 0, 0), (46, .invokevirtual 192, 404, 2), (49, .ifCond .eq 0, 56, 0), (52, .nop, 0, 0)]
abbrev mo_P_isQuestion_52 : List mmO := [(52, .iconst (1), 0, 0), (53, .goto 0, 57, 0)]
abbrev mo_P_isQuestion_56 : List mmO := [(56, .iconst (0), 0, 0), (57, .nop, 0, 0)]
abbrev mo_P_isQuestion_57 : List mmO := [(57, .freturn, 0, 0)]
def mb_P_isQuestion : Nat → List mmO := fun b => match b with
  | 0 => mo_P_isQuestion_0
  | 52 => mo_P_isQuestion_52
  | 56 => mo_P_isQuestion_56
  | 57 => mo_P_isQuestion_57
  | _ => []
abbrev mo_P_timeMeant_0 : List mmO := [(0, .iload 1, 0, 0), (1, .iconst (-1), 0, 0), (2, .if_icmp .ne 0, 15, 0), (5, .aload 0, 0, 0), (6, .getstatic 19, 10, 13), (9, .getfield 131, 4, 5), (12, .goto 0, 16, 0)]
abbrev mo_P_timeMeant_15 : List mmO := [(15, .iload 1, 0, 0), (16, .nop, 0, 0)]
abbrev mo_P_timeMeant_16 : List mmO := [(16, .ireturn, 0, 0)]
def mb_P_timeMeant : Nat → List mmO := fun b => match b with
  | 0 => mo_P_timeMeant_0
  | 15 => mo_P_timeMeant_15
  | 16 => mo_P_timeMeant_16
  | _ => []
abbrev mo_P_takeBackChange_0 : List mmO := [(0, .aload 0, 0, 0), (1, .getstatic 61, 10, 45), (4, .getfield 314, 9, 3), (7, .aload 0, 0, 0), (8, .getstatic 19, 10, 13), (11, .getfield 131, 4, 5), (14, .if_icmp .lt 0, 27, 0), (17, .aload 0, 0, 0), (18, .getstatic 61, 10, 45), (21, .iconst (5), 0, 0), (22, .iconst (1), 0, 0), (23, .invokevirtual 311, 908, 3), (26, .pop, 0, 0), (27, .nop, 0, 0)]
abbrev mo_P_takeBackChange_27 : List mmO := [(27, .aload 0, 0, 0), (28, .getstatic 19, 10, 13), (31, .invokevirtual 343, 410, 1), (34, .return_, 0, 0)]
def mb_P_takeBackChange : Nat → List mmO := fun b => match b with
  | 0 => mo_P_takeBackChange_0
  | 27 => mo_P_takeBackChange_27
  | _ => []
abbrev mo_P_answerOf_0 : List mmO := [(0, .aload 0, 0, 0), (1, .getstatic 19, 10, 13), (4, .aload 0, 0, 0), (5, .getstatic 26, 10, 18), (8, .getstatic 156, 2, 4), (11, .iload 1, 0, 0), (12, .iaload, 0, 0), (13, .invokevirtual 346, 412, 2), (16, .astore 2, 0, 0), (17, .aload 0, 0, 0), (18, .getstatic 33, 10, 23), (21, .aload 2, 0, 0), (22, .aload 0, 0, 0), (23, .getstatic 26, 10, 18), (26, .getstatic 150, 2, 2), (29, .iload 1, 0, 0), (30, .iaload, 0, 0), (31, .aload 0, 0, 0), (32, .getstatic 26, 10, 18), (35, .getstatic 153, 2, 3), (38, .iload 1, 0, 0), (39, .iaload, 0, 0), (40, .invokevirtual 350, 701, 4), (43, .aload 0, 0, 0), (44, .getstatic 33, 10, 23), (47, .aload 0, 0, 0), (48, .getstatic 26, 10, 18), (51, .getstatic 147, 2, 1), (54, .iload 1, 0, 0), (55, .iaload, 0, 0), (56, .invokevirtual 320, 702, 2), (59, .lreturn, 0, 0)]
def mb_P_answerOf : Nat → List mmO := fun b => match b with
  | 0 => mo_P_answerOf_0
  | _ => []
abbrev mo_P_tallyWindow_0 : List mmO := [(0, .aload 0, 0, 0), (1, .getstatic 33, 10, 23), (4, .aload 0, 0, 0), (5, .getstatic 19, 10, 13), (8, .aload 0, 0, 0), (9, .getstatic 61, 10, 45), (12, .getfield 314, 9, 3), (15, .invokevirtual 346, 412, 2), (18, .aload 0, 0, 0), (19, .getstatic 61, 10, 45), (22, .getfield 308, 9, 1), (25, .aload 0, 0, 0), (26, .getstatic 61, 10, 45), (29, .getfield 305, 9, 2), (32, .invokevirtual 350, 701, 4), (35, .return_, 0, 0)]
def mb_P_tallyWindow : Nat → List mmO := fun b => match b with
  | 0 => mo_P_tallyWindow_0
  | _ => []
abbrev mo_P_costOf_0 : List mmO := [(0, .aload 0, 0, 0), (1, .getstatic 40, 10, 26), (4, .aload 0, 0, 0), (5, .getstatic 26, 10, 18), (8, .iload 1, 0, 0), (9, .iload 2, 0, 0), (10, .iload 3, 0, 0), (11, .invokevirtual 205, 101, 5), (14, .aload 0, 0, 0), (15, .getstatic 40, 10, 26), (18, .aload 0, 0, 0), (19, .getstatic 26, 10, 18), (22, .invokevirtual 219, 105, 2), (25, .aload 0, 0, 0), (26, .getstatic 40, 10, 26), (29, .getstatic 222, 1, 3), (32, .aload 0, 0, 0), (33, .getfield 72, 10, 9), (36, .invokevirtual 231, 903, 2), (39, .ireturn, 0, 0)]
def mb_P_costOf : Nat → List mmO := fun b => match b with
  | 0 => mo_P_costOf_0
  | _ => []
abbrev mo_P_bound_0 : List mmO := [(0, .iload 1, 0, 0), (1, .iconst (1), 0, 0), (2, .if_icmp .ge 0, 7, 0), (5, .iconst (-1), 0, 0), (6, .ireturn, 0, 0)]
abbrev mo_P_bound_7 : List mmO := [(7, .aload 0, 0, 0), (8, .getstatic 19, 10, 13), (11, .getfield 82, 4, 4), (14, .iload 1, 0, 0), (15, .iadd, 0, 0), (16, .iconst (1), 0, 0), (17, .isub, 0, 0), (18, .iload 1, 0, 0), (19, .idiv, 0, 0), (20, .istore 2, 0, 0), (21, .iconst (3), 0, 0), (22, .iload 1, 0, 0), (23, .imul, 0, 0), (24, .aload 0, 0, 0), (25, .getstatic 40, 10, 26), (28, .getstatic 209, 1, 1), (31, .getfield 213, 5, 1), (34, .imul, 0, 0), (35, .iconst (2), 0, 0), (36, .iload 2, 0, 0), (37, .iconst (1), 0, 0), (38, .iadd, 0, 0), (39, .imul, 0, 0), (40, .aload 0, 0, 0), (41, .getstatic 19, 10, 13), (44, .getfield 82, 4, 4), (47, .iload 1, 0, 0), (48, .iadd, 0, 0), (49, .imul, 0, 0), (50, .iadd, 0, 0), (51, .ireturn, 0, 0)]
def mb_P_bound : Nat → List mmO := fun b => match b with
  | 0 => mo_P_bound_0
  | 7 => mo_P_bound_7
  | _ => []
abbrev mo_P_busiestCell_0 : List mmO := [(0, .iconst (0), 0, 0), (1, .istore 1, 0, 0), (2, .iconst (1), 0, 0), (3, .istore 2, 0, 0), (4, .nop, 0, 0)]
abbrev mo_P_busiestCell_4 : List mmO := [(4, .iload 2, 0, 0), (5, .aload 0, 0, 0), (6, .getstatic 19, 10, 13), (9, .getfield 82, 4, 4), (12, .if_icmp .ge 0, 42, 0), (15, .aload 0, 0, 0), (16, .getstatic 26, 10, 18), (19, .iload 2, 0, 0), (20, .invokevirtual 340, 211, 2), (23, .aload 0, 0, 0), (24, .getstatic 26, 10, 18), (27, .iload 1, 0, 0), (28, .invokevirtual 340, 211, 2), (31, .if_icmp .le 0, 36, 0), (34, .iload 2, 0, 0), (35, .istore 1, 0, 0), (36, .nop, 0, 0)]
abbrev mo_P_busiestCell_36 : List mmO := [(36, .iinc 2 (1), 0, 0), (39, .goto 0, 4, 0)]
abbrev mo_P_busiestCell_42 : List mmO := [(42, .iload 1, 0, 0), (43, .ireturn, 0, 0)]
def mb_P_busiestCell : Nat → List mmO := fun b => match b with
  | 0 => mo_P_busiestCell_0
  | 4 => mo_P_busiestCell_4
  | 36 => mo_P_busiestCell_36
  | 42 => mo_P_busiestCell_42
  | _ => []
abbrev mo_M_thrown_0 : List mmO := [(0, .aload 0, 0, 0), (1, .getfield 72, 11, 0), (4, .ireturn, 0, 0)]
def mb_M_thrown : Nat → List mmO := fun b => match b with
  | 0 => mo_M_thrown_0
  | _ => []
abbrev mo_M_within_0 : List mmO := [(0, .lload 0, 0, 0), (1, .lload 2, 0, 0), (2, .lcmp, 0, 0), (3, .ifCond .lt 0, 17, 0), (6, .lload 0, 0, 0), (7, .lload 4, 0, 0), (9, .lcmp, 0, 0), (10, .ifCond .gt 0, 17, 0), (13, .iconst (1), 0, 0), (14, .goto 0, 18, 0)]
abbrev mo_M_within_17 : List mmO := [(17, .iconst (0), 0, 0), (18, .nop, 0, 0)]
abbrev mo_M_within_18 : List mmO := [(18, .freturn, 0, 0)]
def mb_M_within : Nat → List mmO := fun b => match b with
  | 0 => mo_M_within_0
  | 17 => mo_M_within_17
  | 18 => mo_M_within_18
  | _ => []
abbrev mo_M_feed_0 : List mmO := [(0, .aload 0, 0, 0), (1, .iconst (0), 0, 0), (2, .putfield 72, 11, 0), (5, .aload 0, 0, 0), (6, .getfield 75, 11, 2), (9, .iconst (20), 0, 0), (11, .iadd, 0, 0), (12, .iconst (600), 0, 0), (15, .if_icmp .le 0, 20, 0), (18, .iconst (-1), 0, 0), (19, .ireturn, 0, 0)]
abbrev mo_M_feed_20 : List mmO := [(20, .aload 0, 0, 0), (21, .iload 1, 0, 0), (22, .invokevirtual 78, 1104, 2), (25, .aload 0, 0, 0), (26, .iload 2, 0, 0), (27, .invokevirtual 78, 1104, 2), (30, .aload 0, 0, 0), (31, .iload 3, 0, 0), (32, .invokevirtual 78, 1104, 2), (35, .aload 0, 0, 0), (36, .iload 4, 0, 0), (38, .invokevirtual 78, 1104, 2), (41, .aload 0, 0, 0), (42, .iload 5, 0, 0), (44, .invokevirtual 78, 1104, 2), (47, .aload 0, 0, 0), (48, .getfield 75, 11, 2), (51, .ireturn, 0, 0)]
def mb_M_feed : Nat → List mmO := fun b => match b with
  | 0 => mo_M_feed_0
  | 20 => mo_M_feed_20
  | _ => []
abbrev mo_M_puts_0 : List mmO := [(0, .iconst (24), 0, 0), (2, .istore 2, 0, 0), (3, .nop, 0, 0)]
abbrev mo_M_puts_3 : List mmO := [(3, .iload 2, 0, 0), (4, .ifCond .lt 0, 36, 0), (7, .aload 0, 0, 0), (8, .getstatic 7, 11, 1), (11, .aload 0, 0, 0), (12, .getfield 75, 11, 2), (15, .iload 1, 0, 0), (16, .iload 2, 0, 0), (17, .ishr, 0, 0), (18, .i2b, 0, 0), (19, .bastore, 0, 0), (20, .aload 0, 0, 0), (21, .dup, 0, 0), (22, .getfield 75, 11, 2), (25, .iconst (1), 0, 0), (26, .iadd, 0, 0), (27, .putfield 75, 11, 2), (30, .iinc 2 (-8), 0, 0), (33, .goto 0, 3, 0)]
abbrev mo_M_puts_36 : List mmO := [(36, .return_, 0, 0)]
def mb_M_puts : Nat → List mmO := fun b => match b with
  | 0 => mo_M_puts_0
  | 3 => mo_M_puts_3
  | 36 => mo_M_puts_36
  | _ => []
abbrev mo_M_byteAt_0 : List mmO := [(0, .iload 1, 0, 0), (1, .aload 0, 0, 0), (2, .getfield 82, 11, 20), (5, .if_icmp .ge 0, 21, 0), (8, .aload 0, 0, 0), (9, .getstatic 7, 11, 1), (12, .iload 1, 0, 0), (13, .baload, 0, 0), (14, .iconst (255), 0, 0), (17, .iand, 0, 0), (18, .goto 0, 22, 0)]
abbrev mo_M_byteAt_21 : List mmO := [(21, .iconst (-1), 0, 0), (22, .nop, 0, 0)]
abbrev mo_M_byteAt_22 : List mmO := [(22, .ireturn, 0, 0)]
def mb_M_byteAt : Nat → List mmO := fun b => match b with
  | 0 => mo_M_byteAt_0
  | 21 => mo_M_byteAt_21
  | 22 => mo_M_byteAt_22
  | _ => []
abbrev mo_M_isLetter_0 : List mmO := [(0, .iload 0, 0, 0), (1, .i2l, 0, 0), (2, .bipush (97), 0, 0), (5, .bipush (122), 0, 0), (8, .invokestatic 89, 1102, 3), (11, .freturn, 0, 0)]
def mb_M_isLetter : Nat → List mmO := fun b => match b with
  | 0 => mo_M_isLetter_0
  | _ => []
abbrev mo_M_isDigit_0 : List mmO := [(0, .iload 0, 0, 0), (1, .i2l, 0, 0), (2, .bipush (48), 0, 0), (5, .bipush (57), 0, 0), (8, .invokestatic 89, 1102, 3), (11, .freturn, 0, 0)]
def mb_M_isDigit : Nat → List mmO := fun b => match b with
  | 0 => mo_M_isDigit_0
  | _ => []
abbrev mo_M_go_0 : List mmO := [(0, .aload 0, 0, 0), (1, .aload 0, 0, 0), (2, .getfield 97, 11, 22), (5, .invokevirtual 100, 1105, 2), (8, .iconst (32), 0, 0), (10, .if_icmp .eq 0, 26, 0), (13, .aload 0, 0, 0), (14, .aload 0, 0, 0), (15, .getfield 97, 11, 22), (18, .invokevirtual 100, 1105, 2), (21, .iconst (10), 0, 0), (23, .if_icmp .ne 0, 39, 0), (26, .nop, 0, 0)]
abbrev mo_M_go_26 : List mmO := [(26, .aload 0, 0, 0), (27, .dup, 0, 0), (28, .getfield 97, 11, 22), (31, .iconst (1), 0, 0), (32, .iadd, 0, 0), (33, .putfield 97, 11, 22), (36, .goto 0, 0, 0)]
abbrev mo_M_go_39 : List mmO := [(39, .aload 0, 0, 0), (40, .aload 0, 0, 0), (41, .getfield 97, 11, 22), (44, .putfield 104, 11, 21), (47, .aload 0, 0, 0), (48, .aload 0, 0, 0), (49, .getfield 97, 11, 22), (52, .invokevirtual 100, 1105, 2), (55, .istore 1, 0, 0), (56, .iload 1, 0, 0), (57, .ifCond .ge 0, 68, 0), (60, .aload 0, 0, 0), (61, .iconst (0), 0, 0), (62, .putfield 107, 11, 23), (65, .goto 0, 271, 0)]
abbrev mo_M_go_68 : List mmO := [(68, .iload 1, 0, 0), (69, .invokestatic 110, 1106, 1), (72, .ifCond .eq 0, 128, 0), (75, .nop, 0, 0)]
abbrev mo_M_go_75 : List mmO := [(75, .aload 0, 0, 0), (76, .aload 0, 0, 0), (77, .getfield 97, 11, 22), (80, .invokevirtual 100, 1105, 2), (83, .invokestatic 110, 1106, 1), (86, .ifCond .eq 0, 102, 0), (89, .aload 0, 0, 0), (90, .dup, 0, 0), (91, .getfield 97, 11, 22), (94, .iconst (1), 0, 0), (95, .iadd, 0, 0), (96, .putfield 97, 11, 22), (99, .goto 0, 75, 0)]
abbrev mo_M_go_102 : List mmO := [(102, .aload 0, 0, 0), (103, .aload 0, 0, 0), (104, .getfield 97, 11, 22), (107, .aload 0, 0, 0), (108, .getfield 104, 11, 21), (111, .isub, 0, 0), (112, .iconst (7), 0, 0), (114, .if_icmp .gt 0, 121, 0), (117, .iconst (1), 0, 0), (118, .goto 0, 122, 0)]
abbrev mo_M_go_121 : List mmO := [(121, .iconst (4), 0, 0), (122, .nop, 0, 0)]
abbrev mo_M_go_122 : List mmO := [(122, .putfield 107, 11, 23), (125, .goto 0, 271, 0)]
abbrev mo_M_go_128 : List mmO := [(128, .iload 1, 0, 0), (129, .invokestatic 114, 1107, 1), (132, .ifCond .eq 0, 235, 0), (135, .aload 0, 0, 0), (136, .iconst (0), 0, 0), (137, .putfield 117, 11, 24), (140, .nop, 0, 0)]
abbrev mo_M_go_140 : List mmO := [(140, .aload 0, 0, 0), (141, .aload 0, 0, 0), (142, .getfield 97, 11, 22), (145, .invokevirtual 100, 1105, 2), (148, .invokestatic 114, 1107, 1), (151, .ifCond .eq 0, 210, 0), (154, .aload 0, 0, 0), (155, .aload 0, 0, 0), (156, .getfield 97, 11, 22), (159, .aload 0, 0, 0), (160, .getfield 104, 11, 21), (163, .isub, 0, 0), (164, .iconst (2), 0, 0), (165, .if_icmp .ge 0, 190, 0), (168, .iconst (10), 0, 0), (170, .aload 0, 0, 0), (171, .getfield 117, 11, 24), (174, .imul, 0, 0), (175, .aload 0, 0, 0), (176, .aload 0, 0, 0), (177, .getfield 97, 11, 22), (180, .invokevirtual 100, 1105, 2), (183, .iadd, 0, 0), (184, .iconst (48), 0, 0), (186, .isub, 0, 0), (187, .goto 0, 194, 0)]
abbrev mo_M_go_190 : List mmO := [(190, .aload 0, 0, 0), (191, .getfield 117, 11, 24), (194, .nop, 0, 0)]
abbrev mo_M_go_194 : List mmO := [(194, .putfield 117, 11, 24), (197, .aload 0, 0, 0), (198, .dup, 0, 0), (199, .getfield 97, 11, 22), (202, .iconst (1), 0, 0), (203, .iadd, 0, 0), (204, .putfield 97, 11, 22), (207, .goto 0, 140, 0)]
abbrev mo_M_go_210 : List mmO := [(210, .aload 0, 0, 0), (211, .aload 0, 0, 0), (212, .getfield 97, 11, 22), (215, .aload 0, 0, 0), (216, .getfield 104, 11, 21), (219, .isub, 0, 0), (220, .iconst (2), 0, 0), (221, .if_icmp .gt 0, 228, 0), (224, .iconst (2), 0, 0), (225, .goto 0, 229, 0)]
abbrev mo_M_go_228 : List mmO := [(228, .iconst (4), 0, 0), (229, .nop, 0, 0)]
abbrev mo_M_go_229 : List mmO := [(229, .putfield 107, 11, 23), (232, .goto 0, 271, 0)]
abbrev mo_M_go_235 : List mmO := [(235, .aload 0, 0, 0), (236, .iload 1, 0, 0), (237, .putfield 120, 11, 25), (240, .aload 0, 0, 0), (241, .iload 1, 0, 0), (242, .iconst (59), 0, 0), (244, .if_icmp .eq 0, 253, 0), (247, .iload 1, 0, 0), (248, .iconst (44), 0, 0), (250, .if_icmp .ne 0, 257, 0), (253, .nop, 0, 0)]
abbrev mo_M_go_253 : List mmO := [(253, .iconst (3), 0, 0), (254, .goto 0, 258, 0)]
abbrev mo_M_go_257 : List mmO := [(257, .iconst (4), 0, 0), (258, .nop, 0, 0)]
abbrev mo_M_go_258 : List mmO := [(258, .putfield 107, 11, 23), (261, .aload 0, 0, 0), (262, .dup, 0, 0), (263, .getfield 97, 11, 22), (266, .iconst (1), 0, 0), (267, .iadd, 0, 0), (268, .putfield 97, 11, 22), (271, .nop, 0, 0)]
abbrev mo_M_go_271 : List mmO := [(271, .return_, 0, 0)]
def mb_M_go : Nat → List mmO := fun b => match b with
  | 0 => mo_M_go_0
  | 26 => mo_M_go_26
  | 39 => mo_M_go_39
  | 68 => mo_M_go_68
  | 75 => mo_M_go_75
  | 102 => mo_M_go_102
  | 121 => mo_M_go_121
  | 122 => mo_M_go_122
  | 128 => mo_M_go_128
  | 140 => mo_M_go_140
  | 190 => mo_M_go_190
  | 194 => mo_M_go_194
  | 210 => mo_M_go_210
  | 228 => mo_M_go_228
  | 229 => mo_M_go_229
  | 235 => mo_M_go_235
  | 253 => mo_M_go_253
  | 257 => mo_M_go_257
  | 258 => mo_M_go_258
  | 271 => mo_M_go_271
  | _ => []
abbrev mo_M_wrong_0 : List mmO := [(0, .aload 0, 0, 0), (1, .aload 0, 0, 0), (2, .getfield 123, 11, 26), (5, .ifCond .ne 0, 20, 0), (8, .iconst (8), 0, 0), (10, .aload 0, 0, 0), (11, .getfield 104, 11, 21), (14, .imul, 0, 0), (15, .iload 1, 0, 0), (16, .iadd, 0, 0), (17, .goto 0, 24, 0)]
abbrev mo_M_wrong_20 : List mmO := [(20, .aload 0, 0, 0), (21, .getfield 123, 11, 26), (24, .nop, 0, 0)]
abbrev mo_M_wrong_24 : List mmO := [(24, .putfield 123, 11, 26), (27, .iconst (0), 0, 0), (28, .freturn, 0, 0)]
def mb_M_wrong : Nat → List mmO := fun b => match b with
  | 0 => mo_M_wrong_0
  | 20 => mo_M_wrong_20
  | 24 => mo_M_wrong_24
  | _ => []
abbrev mo_M_isSign_0 : List mmO := [(0, .aload 0, 0, 0), (1, .getfield 107, 11, 23), (4, .iconst (3), 0, 0), (5, .if_icmp .ne 0, 20, 0), (8, .aload 0, 0, 0), (9, .getfield 120, 11, 25), (12, .iload 1, 0, 0), (13, .if_icmp .ne 0, 20, 0), (16, .iconst (1), 0, 0), (17, .goto 0, 21, 0)]
abbrev mo_M_isSign_20 : List mmO := [(20, .iconst (0), 0, 0), (21, .nop, 0, 0)]
abbrev mo_M_isSign_21 : List mmO := [(21, .freturn, 0, 0)]
def mb_M_isSign : Nat → List mmO := fun b => match b with
  | 0 => mo_M_isSign_0
  | 20 => mo_M_isSign_20
  | 21 => mo_M_isSign_21
  | _ => []
abbrev mo_M_isWord_0 : List mmO := [(0, .aload 0, 0, 0), (1, .getfield 107, 11, 23), (4, .iconst (1), 0, 0), (5, .if_icmp .ne 0, 39, 0), (8, .aload 0, 0, 0), (9, .iconst (0), 0, 0), (10, .invokevirtual 126, 1112, 2), (13, .iload 1, 0, 0), (14, .if_icmp .ne 0, 39, 0), (17, .aload 0, 0, 0), (18, .iconst (1), 0, 0), (19, .invokevirtual 126, 1112, 2), (22, .iload 2, 0, 0), (23, .if_icmp .ne 0, 39, 0), (26, .aload 0, 0, 0), (27, .iconst (2), 0, 0), (28, .invokevirtual 126, 1112, 2), (31, .iload 3, 0, 0), (32, .if_icmp .ne 0, 39, 0), (35, .iconst (1), 0, 0), (36, .goto 0, 40, 0)]
abbrev mo_M_isWord_39 : List mmO := [(39, .iconst (0), 0, 0), (40, .nop, 0, 0)]
abbrev mo_M_isWord_40 : List mmO := [(40, .istore 8, 0, 0), (42, .iload 8, 0, 0), (44, .ifCond .eq 0, 92, 0), (47, .aload 0, 0, 0), (48, .iconst (3), 0, 0), (49, .invokevirtual 126, 1112, 2), (52, .iload 4, 0, 0), (54, .if_icmp .ne 0, 92, 0), (57, .aload 0, 0, 0), (58, .iconst (4), 0, 0), (59, .invokevirtual 126, 1112, 2), (62, .iload 5, 0, 0), (64, .if_icmp .ne 0, 92, 0), (67, .aload 0, 0, 0), (68, .iconst (5), 0, 0), (69, .invokevirtual 126, 1112, 2), (72, .iload 6, 0, 0), (74, .if_icmp .ne 0, 92, 0), (77, .aload 0, 0, 0), (78, .iconst (6), 0, 0), (80, .invokevirtual 126, 1112, 2), (83, .iload 7, 0, 0), (85, .if_icmp .ne 0, 92, 0), (88, .iconst (1), 0, 0), (89, .goto 0, 93, 0)]
abbrev mo_M_isWord_92 : List mmO := [(92, .iconst (0), 0, 0), (93, .nop, 0, 0)]
abbrev mo_M_isWord_93 : List mmO := [(93, .freturn, 0, 0)]
def mb_M_isWord : Nat → List mmO := fun b => match b with
  | 0 => mo_M_isWord_0
  | 39 => mo_M_isWord_39
  | 40 => mo_M_isWord_40
  | 92 => mo_M_isWord_92
  | 93 => mo_M_isWord_93
  | _ => []
abbrev mo_M_byteOf_0 : List mmO := [(0, .aload 0, 0, 0), (1, .getfield 104, 11, 21), (4, .iload 1, 0, 0), (5, .iadd, 0, 0), (6, .aload 0, 0, 0), (7, .getfield 97, 11, 22), (10, .if_icmp .ge 0, 26, 0), (13, .aload 0, 0, 0), (14, .aload 0, 0, 0), (15, .getfield 104, 11, 21), (18, .iload 1, 0, 0), (19, .iadd, 0, 0), (20, .invokevirtual 100, 1105, 2), (23, .goto 0, 27, 0)]
abbrev mo_M_byteOf_26 : List mmO := [(26, .iconst (0), 0, 0), (27, .nop, 0, 0)]
abbrev mo_M_byteOf_27 : List mmO := [(27, .ireturn, 0, 0)]
def mb_M_byteOf : Nat → List mmO := fun b => match b with
  | 0 => mo_M_byteOf_0
  | 26 => mo_M_byteOf_26
  | 27 => mo_M_byteOf_27
  | _ => []
abbrev mo_M_isSet_0 : List mmO := [(0, .aload 0, 0, 0), (1, .iconst (115), 0, 0), (3, .iconst (101), 0, 0), (5, .iconst (116), 0, 0), (7, .iconst (0), 0, 0), (8, .iconst (0), 0, 0), (9, .iconst (0), 0, 0), (10, .iconst (0), 0, 0), (11, .invokevirtual 129, 1111, 8), (14, .freturn, 0, 0)]
def mb_M_isSet : Nat → List mmO := fun b => match b with
  | 0 => mo_M_isSet_0
  | _ => []
abbrev mo_M_isAsk_0 : List mmO := [(0, .aload 0, 0, 0), (1, .iconst (97), 0, 0), (3, .iconst (115), 0, 0), (5, .iconst (107), 0, 0), (7, .iconst (0), 0, 0), (8, .iconst (0), 0, 0), (9, .iconst (0), 0, 0), (10, .iconst (0), 0, 0), (11, .invokevirtual 129, 1111, 8), (14, .freturn, 0, 0)]
def mb_M_isAsk : Nat → List mmO := fun b => match b with
  | 0 => mo_M_isAsk_0
  | _ => []
abbrev mo_M_isRow_0 : List mmO := [(0, .aload 0, 0, 0), (1, .iconst (114), 0, 0), (3, .iconst (111), 0, 0), (5, .iconst (119), 0, 0), (7, .iconst (0), 0, 0), (8, .iconst (0), 0, 0), (9, .iconst (0), 0, 0), (10, .iconst (0), 0, 0), (11, .invokevirtual 129, 1111, 8), (14, .freturn, 0, 0)]
def mb_M_isRow : Nat → List mmO := fun b => match b with
  | 0 => mo_M_isRow_0
  | _ => []
abbrev mo_M_kindHere_0 : List mmO := [(0, .aload 0, 0, 0), (1, .iconst (115), 0, 0), (3, .iconst (117), 0, 0), (5, .iconst (109), 0, 0), (7, .iconst (0), 0, 0), (8, .iconst (0), 0, 0), (9, .iconst (0), 0, 0), (10, .iconst (0), 0, 0), (11, .invokevirtual 129, 1111, 8), (14, .ifCond .eq 0, 19, 0), (17, .iconst (0), 0, 0), (18, .ireturn, 0, 0)]
abbrev mo_M_kindHere_19 : List mmO := [(19, .aload 0, 0, 0), (20, .iconst (117), 0, 0), (22, .iconst (110), 0, 0), (24, .iconst (108), 0, 0), (26, .iconst (105), 0, 0), (28, .iconst (107), 0, 0), (30, .iconst (101), 0, 0), (32, .iconst (0), 0, 0), (33, .invokevirtual 129, 1111, 8), (36, .ifCond .eq 0, 41, 0), (39, .iconst (1), 0, 0), (40, .ireturn, 0, 0)]
abbrev mo_M_kindHere_41 : List mmO := [(41, .aload 0, 0, 0), (42, .iconst (111), 0, 0), (44, .iconst (102), 0, 0), (46, .iconst (116), 0, 0), (48, .iconst (101), 0, 0), (50, .iconst (110), 0, 0), (52, .iconst (0), 0, 0), (53, .iconst (0), 0, 0), (54, .invokevirtual 129, 1111, 8), (57, .ifCond .eq 0, 62, 0), (60, .iconst (2), 0, 0), (61, .ireturn, 0, 0)]
abbrev mo_M_kindHere_62 : List mmO := [(62, .aload 0, 0, 0), (63, .iconst (119), 0, 0), (65, .iconst (104), 0, 0), (67, .iconst (105), 0, 0), (69, .iconst (99), 0, 0), (71, .iconst (104), 0, 0), (73, .iconst (0), 0, 0), (74, .iconst (0), 0, 0), (75, .invokevirtual 129, 1111, 8), (78, .ifCond .eq 0, 83, 0), (81, .iconst (3), 0, 0), (82, .ireturn, 0, 0)]
abbrev mo_M_kindHere_83 : List mmO := [(83, .aload 0, 0, 0), (84, .iconst (112), 0, 0), (86, .iconst (111), 0, 0), (88, .iconst (119), 0, 0), (90, .iconst (101), 0, 0), (92, .iconst (114), 0, 0), (94, .iconst (0), 0, 0), (95, .iconst (0), 0, 0), (96, .invokevirtual 129, 1111, 8), (99, .ifCond .eq 0, 104, 0), (102, .iconst (4), 0, 0), (103, .ireturn, 0, 0)]
abbrev mo_M_kindHere_104 : List mmO := [(104, .aload 0, 0, 0), (105, .iconst (109), 0, 0), (107, .iconst (105), 0, 0), (109, .iconst (115), 0, 0), (111, .iconst (115), 0, 0), (113, .iconst (105), 0, 0), (115, .iconst (110), 0, 0), (117, .iconst (103), 0, 0), (119, .invokevirtual 129, 1111, 8), (122, .ifCond .eq 0, 127, 0), (125, .iconst (5), 0, 0), (126, .ireturn, 0, 0)]
abbrev mo_M_kindHere_127 : List mmO := [(127, .aload 0, 0, 0), (128, .iconst (112), 0, 0), (130, .iconst (97), 0, 0), (132, .iconst (114), 0, 0), (134, .iconst (116), 0, 0), (136, .iconst (115), 0, 0), (138, .iconst (0), 0, 0), (139, .iconst (0), 0, 0), (140, .invokevirtual 129, 1111, 8), (143, .ifCond .eq 0, 149, 0), (146, .iconst (6), 0, 0), (148, .ireturn, 0, 0)]
abbrev mo_M_kindHere_149 : List mmO := [(149, .aload 0, 0, 0), (150, .iconst (112), 0, 0), (152, .iconst (97), 0, 0), (154, .iconst (105), 0, 0), (156, .iconst (114), 0, 0), (158, .iconst (115), 0, 0), (160, .iconst (0), 0, 0), (161, .iconst (0), 0, 0), (162, .invokevirtual 129, 1111, 8), (165, .ifCond .eq 0, 173, 0), (168, .iconst (7), 0, 0), (170, .goto 0, 174, 0)]
abbrev mo_M_kindHere_173 : List mmO := [(173, .iconst (-1), 0, 0), (174, .nop, 0, 0)]
abbrev mo_M_kindHere_174 : List mmO := [(174, .ireturn, 0, 0)]
def mb_M_kindHere : Nat → List mmO := fun b => match b with
  | 0 => mo_M_kindHere_0
  | 19 => mo_M_kindHere_19
  | 41 => mo_M_kindHere_41
  | 62 => mo_M_kindHere_62
  | 83 => mo_M_kindHere_83
  | 104 => mo_M_kindHere_104
  | 127 => mo_M_kindHere_127
  | 149 => mo_M_kindHere_149
  | 173 => mo_M_kindHere_173
  | 174 => mo_M_kindHere_174
  | _ => []
abbrev mo_M_number_0 : List mmO := [(0, .aload 0, 0, 0), (1, .getfield 107, 11, 23), (4, .iconst (2), 0, 0), (5, .if_icmp .eq 0, 14, 0), (8, .aload 0, 0, 0), (9, .iconst (1), 0, 0), (10, .invokevirtual 133, 1109, 2), (13, .freturn, 0, 0)]
abbrev mo_M_number_14 : List mmO := [(14, .aload 0, 0, 0), (15, .getfield 117, 11, 24), (18, .i2l, 0, 0), (19, .iload 1, 0, 0), (20, .i2l, 0, 0), (21, .iload 2, 0, 0), (22, .i2l, 0, 0), (23, .invokestatic 89, 1102, 3), (26, .ifCond .ne 0, 35, 0), (29, .aload 0, 0, 0), (30, .iconst (2), 0, 0), (31, .invokevirtual 133, 1109, 2), (34, .freturn, 0, 0)]
abbrev mo_M_number_35 : List mmO := [(35, .aload 0, 0, 0), (36, .aload 0, 0, 0), (37, .getfield 117, 11, 24), (40, .putfield 136, 11, 27), (43, .aload 0, 0, 0), (44, .invokevirtual 139, 1108, 1), (47, .iconst (1), 0, 0), (48, .freturn, 0, 0)]
def mb_M_number : Nat → List mmO := fun b => match b with
  | 0 => mo_M_number_0
  | 14 => mo_M_number_14
  | 35 => mo_M_number_35
  | _ => []
abbrev mo_M_rowCell_0 : List mmO := [(0, .aload 0, 0, 0), (1, .getfield 107, 11, 23), (4, .iconst (2), 0, 0), (5, .if_icmp .ne 0, 32, 0), (8, .aload 0, 0, 0), (9, .getfield 117, 11, 24), (12, .iconst (64), 0, 0), (14, .if_icmp .ge 0, 32, 0), (17, .aload 0, 0, 0), (18, .getfield 142, 11, 13), (21, .iconst (60), 0, 0), (23, .if_icmp .ne 0, 32, 0), (26, .aload 0, 0, 0), (27, .iconst (4), 0, 0), (28, .invokevirtual 133, 1109, 2), (31, .freturn, 0, 0)]
abbrev mo_M_rowCell_32 : List mmO := [(32, .aload 0, 0, 0), (33, .iconst (0), 0, 0), (34, .iconst (63), 0, 0), (36, .invokevirtual 145, 1117, 3), (39, .ifCond .ne 0, 44, 0), (42, .iconst (0), 0, 0), (43, .freturn, 0, 0)]
abbrev mo_M_rowCell_44 : List mmO := [(44, .aload 0, 0, 0), (45, .getstatic 39, 11, 6), (48, .aload 0, 0, 0), (49, .getfield 142, 11, 13), (52, .aload 0, 0, 0), (53, .getfield 136, 11, 27), (56, .iastore, 0, 0), (57, .aload 0, 0, 0), (58, .dup, 0, 0), (59, .getfield 142, 11, 13), (62, .iconst (1), 0, 0), (63, .iadd, 0, 0), (64, .putfield 142, 11, 13), (67, .iconst (1), 0, 0), (68, .freturn, 0, 0)]
def mb_M_rowCell : Nat → List mmO := fun b => match b with
  | 0 => mo_M_rowCell_0
  | 32 => mo_M_rowCell_32
  | 44 => mo_M_rowCell_44
  | _ => []
abbrev mo_M_rowLine_0 : List mmO := [(0, .aload 0, 0, 0), (1, .getfield 142, 11, 13), (4, .ifCond .le 0, 13, 0), (7, .aload 0, 0, 0), (8, .iconst (3), 0, 0), (9, .invokevirtual 133, 1109, 2), (12, .freturn, 0, 0)]
abbrev mo_M_rowLine_13 : List mmO := [(13, .aload 0, 0, 0), (14, .invokevirtual 139, 1108, 1), (17, .aload 0, 0, 0), (18, .invokevirtual 149, 1118, 1), (21, .istore 1, 0, 0), (22, .nop, 0, 0)]
abbrev mo_M_rowLine_22 : List mmO := [(22, .iload 1, 0, 0), (23, .ifCond .eq 0, 47, 0), (26, .aload 0, 0, 0), (27, .iconst (44), 0, 0), (29, .invokevirtual 153, 1110, 2), (32, .ifCond .eq 0, 47, 0), (35, .aload 0, 0, 0), (36, .invokevirtual 139, 1108, 1), (39, .aload 0, 0, 0), (40, .invokevirtual 149, 1118, 1), (43, .istore 1, 0, 0), (44, .goto 0, 22, 0)]
abbrev mo_M_rowLine_47 : List mmO := [(47, .aload 0, 0, 0), (48, .getfield 107, 11, 23), (51, .ifCond .eq 0, 63, 0), (54, .aload 0, 0, 0), (55, .iconst (59), 0, 0), (57, .invokevirtual 153, 1110, 2), (60, .ifCond .eq 0, 67, 0), (63, .nop, 0, 0)]
abbrev mo_M_rowLine_63 : List mmO := [(63, .iconst (1), 0, 0), (64, .goto 0, 68, 0)]
abbrev mo_M_rowLine_67 : List mmO := [(67, .iconst (0), 0, 0), (68, .nop, 0, 0)]
abbrev mo_M_rowLine_68 : List mmO := [(68, .istore 2, 0, 0), (69, .iload 1, 0, 0), (70, .ifCond .eq 0, 97, 0), (73, .aload 0, 0, 0), (74, .getfield 142, 11, 13), (77, .iconst (1), 0, 0), (78, .if_icmp .gt 0, 93, 0), (81, .iload 2, 0, 0), (82, .ifCond .eq 0, 93, 0), (85, .aload 0, 0, 0), (86, .iconst (5), 0, 0), (87, .invokevirtual 133, 1109, 2), (90, .ifCond .eq 0, 97, 0), (93, .nop, 0, 0)]
abbrev mo_M_rowLine_93 : List mmO := [(93, .iconst (1), 0, 0), (94, .goto 0, 98, 0)]
abbrev mo_M_rowLine_97 : List mmO := [(97, .iconst (0), 0, 0), (98, .nop, 0, 0)]
abbrev mo_M_rowLine_98 : List mmO := [(98, .freturn, 0, 0)]
def mb_M_rowLine : Nat → List mmO := fun b => match b with
  | 0 => mo_M_rowLine_0
  | 13 => mo_M_rowLine_13
  | 22 => mo_M_rowLine_22
  | 47 => mo_M_rowLine_47
  | 63 => mo_M_rowLine_63
  | 67 => mo_M_rowLine_67
  | 68 => mo_M_rowLine_68
  | 93 => mo_M_rowLine_93
  | 97 => mo_M_rowLine_97
  | 98 => mo_M_rowLine_98
  | _ => []
abbrev mo_M_setLine_0 : List mmO := [(0, .aload 0, 0, 0), (1, .getfield 142, 11, 13), (4, .ifCond .ne 0, 13, 0), (7, .aload 0, 0, 0), (8, .iconst (5), 0, 0), (9, .invokevirtual 133, 1109, 2), (12, .freturn, 0, 0)]
abbrev mo_M_setLine_13 : List mmO := [(13, .aload 0, 0, 0), (14, .getfield 156, 11, 15), (17, .iconst (32), 0, 0), (19, .if_icmp .ne 0, 28, 0), (22, .aload 0, 0, 0), (23, .iconst (4), 0, 0), (24, .invokevirtual 133, 1109, 2), (27, .freturn, 0, 0)]
abbrev mo_M_setLine_28 : List mmO := [(28, .aload 0, 0, 0), (29, .invokevirtual 139, 1108, 1), (32, .aload 0, 0, 0), (33, .iconst (0), 0, 0), (34, .aload 0, 0, 0), (35, .getfield 142, 11, 13), (38, .iconst (1), 0, 0), (39, .isub, 0, 0), (40, .invokevirtual 145, 1117, 3), (43, .ifCond .ne 0, 48, 0), (46, .iconst (0), 0, 0), (47, .freturn, 0, 0)]
abbrev mo_M_setLine_48 : List mmO := [(48, .aload 0, 0, 0), (49, .getstatic 42, 11, 7), (52, .aload 0, 0, 0), (53, .getfield 156, 11, 15), (56, .aload 0, 0, 0), (57, .getfield 136, 11, 27), (60, .iastore, 0, 0), (61, .aload 0, 0, 0), (62, .iconst (0), 0, 0), (63, .iconst (63), 0, 0), (65, .invokevirtual 145, 1117, 3), (68, .ifCond .ne 0, 73, 0), (71, .iconst (0), 0, 0), (72, .freturn, 0, 0)]
abbrev mo_M_setLine_73 : List mmO := [(73, .aload 0, 0, 0), (74, .getstatic 45, 11, 8), (77, .aload 0, 0, 0), (78, .getfield 156, 11, 15), (81, .aload 0, 0, 0), (82, .getfield 136, 11, 27), (85, .iastore, 0, 0), (86, .aload 0, 0, 0), (87, .dup, 0, 0), (88, .getfield 156, 11, 15), (91, .iconst (1), 0, 0), (92, .iadd, 0, 0), (93, .putfield 156, 11, 15), (96, .iconst (1), 0, 0), (97, .freturn, 0, 0)]
def mb_M_setLine : Nat → List mmO := fun b => match b with
  | 0 => mo_M_setLine_0
  | 13 => mo_M_setLine_13
  | 28 => mo_M_setLine_28
  | 48 => mo_M_setLine_48
  | 73 => mo_M_setLine_73
  | _ => []
abbrev mo_M_askLine_0 : List mmO := [(0, .aload 0, 0, 0), (1, .getfield 142, 11, 13), (4, .ifCond .ne 0, 13, 0), (7, .aload 0, 0, 0), (8, .iconst (5), 0, 0), (9, .invokevirtual 133, 1109, 2), (12, .freturn, 0, 0)]
abbrev mo_M_askLine_13 : List mmO := [(13, .aload 0, 0, 0), (14, .getfield 159, 11, 18), (17, .iconst (24), 0, 0), (19, .if_icmp .ne 0, 28, 0), (22, .aload 0, 0, 0), (23, .iconst (4), 0, 0), (24, .invokevirtual 133, 1109, 2), (27, .freturn, 0, 0)]
abbrev mo_M_askLine_28 : List mmO := [(28, .aload 0, 0, 0), (29, .invokevirtual 139, 1108, 1), (32, .iconst (4), 0, 0), (33, .aload 0, 0, 0), (34, .getfield 159, 11, 18), (37, .imul, 0, 0), (38, .istore 1, 0, 0), (39, .aload 0, 0, 0), (40, .invokevirtual 162, 1116, 1), (43, .istore 2, 0, 0), (44, .iload 2, 0, 0), (45, .ifCond .ge 0, 54, 0), (48, .aload 0, 0, 0), (49, .iconst (1), 0, 0), (50, .invokevirtual 133, 1109, 2), (53, .freturn, 0, 0)]
abbrev mo_M_askLine_54 : List mmO := [(54, .aload 0, 0, 0), (55, .getstatic 48, 11, 9), (58, .iload 1, 0, 0), (59, .iload 2, 0, 0), (60, .iastore, 0, 0), (61, .aload 0, 0, 0), (62, .invokevirtual 139, 1108, 1), (65, .aload 0, 0, 0), (66, .iconst (0), 0, 0), (67, .aload 0, 0, 0), (68, .getfield 142, 11, 13), (71, .iconst (1), 0, 0), (72, .isub, 0, 0), (73, .invokevirtual 145, 1117, 3), (76, .ifCond .ne 0, 81, 0), (79, .iconst (0), 0, 0), (80, .freturn, 0, 0)]
abbrev mo_M_askLine_81 : List mmO := [(81, .aload 0, 0, 0), (82, .getstatic 48, 11, 9), (85, .iload 1, 0, 0), (86, .iconst (1), 0, 0), (87, .iadd, 0, 0), (88, .aload 0, 0, 0), (89, .getfield 136, 11, 27), (92, .iastore, 0, 0), (93, .aload 0, 0, 0), (94, .aload 0, 0, 0), (95, .getstatic 48, 11, 9), (98, .iload 1, 0, 0), (99, .iconst (1), 0, 0), (100, .iadd, 0, 0), (101, .iaload, 0, 0), (102, .aload 0, 0, 0), (103, .getfield 142, 11, 13), (106, .iconst (1), 0, 0), (107, .isub, 0, 0), (108, .invokevirtual 145, 1117, 3), (111, .ifCond .ne 0, 116, 0), (114, .iconst (0), 0, 0), (115, .freturn, 0, 0)]
abbrev mo_M_askLine_116 : List mmO := [(116, .aload 0, 0, 0), (117, .getstatic 48, 11, 9), (120, .iload 1, 0, 0), (121, .iconst (2), 0, 0), (122, .iadd, 0, 0), (123, .aload 0, 0, 0), (124, .getfield 136, 11, 27), (127, .iastore, 0, 0), (128, .aload 0, 0, 0), (129, .getstatic 48, 11, 9), (132, .iload 1, 0, 0), (133, .iconst (3), 0, 0), (134, .iadd, 0, 0), (135, .aload 0, 0, 0), (136, .getfield 156, 11, 15), (139, .iastore, 0, 0), (140, .aload 0, 0, 0), (141, .iconst (97), 0, 0), (143, .iconst (116), 0, 0), (145, .iconst (0), 0, 0), (146, .iconst (0), 0, 0), (147, .iconst (0), 0, 0), (148, .iconst (0), 0, 0), (149, .iconst (0), 0, 0), (150, .invokevirtual 129, 1111, 8), (153, .ifCond .eq 0, 186, 0), (156, .aload 0, 0, 0), (157, .invokevirtual 139, 1108, 1), (160, .aload 0, 0, 0), (161, .iconst (0), 0, 0), (162, .aload 0, 0, 0), (163, .getfield 156, 11, 15), (166, .invokevirtual 145, 1117, 3), (169, .ifCond .ne 0, 174, 0), (172, .iconst (0), 0, 0), (173, .freturn, 0, 0)]
abbrev mo_M_askLine_174 : List mmO := [(174, .aload 0, 0, 0), (175, .getstatic 48, 11, 9), (178, .iload 1, 0, 0), (179, .iconst (3), 0, 0), (180, .iadd, 0, 0), (181, .aload 0, 0, 0), (182, .getfield 136, 11, 27), (185, .iastore, 0, 0), (186, .nop, 0, 0)]
abbrev mo_M_askLine_186 : List mmO := [(186, .aload 0, 0, 0), (187, .dup, 0, 0), (188, .getfield 159, 11, 18), (191, .iconst (1), 0, 0), (192, .iadd, 0, 0), (193, .putfield 159, 11, 18), (196, .iconst (1), 0, 0), (197, .freturn, 0, 0)]
def mb_M_askLine : Nat → List mmO := fun b => match b with
  | 0 => mo_M_askLine_0
  | 13 => mo_M_askLine_13
  | 28 => mo_M_askLine_28
  | 54 => mo_M_askLine_54
  | 81 => mo_M_askLine_81
  | 116 => mo_M_askLine_116
  | 174 => mo_M_askLine_174
  | 186 => mo_M_askLine_186
  | _ => []
abbrev mo_M_line_0 : List mmO := [(0, .aload 0, 0, 0), (1, .invokevirtual 166, 1115, 1), (4, .ifCond .eq 0, 14, 0), (7, .aload 0, 0, 0), (8, .invokevirtual 169, 1119, 1), (11, .goto 0, 47, 0)]
abbrev mo_M_line_14 : List mmO := [(14, .aload 0, 0, 0), (15, .invokevirtual 172, 1113, 1), (18, .ifCond .eq 0, 28, 0), (21, .aload 0, 0, 0), (22, .invokevirtual 175, 1120, 1), (25, .goto 0, 47, 0)]
abbrev mo_M_line_28 : List mmO := [(28, .aload 0, 0, 0), (29, .invokevirtual 178, 1114, 1), (32, .ifCond .eq 0, 42, 0), (35, .aload 0, 0, 0), (36, .invokevirtual 181, 1121, 1), (39, .goto 0, 47, 0)]
abbrev mo_M_line_42 : List mmO := [(42, .aload 0, 0, 0), (43, .iconst (1), 0, 0), (44, .invokevirtual 133, 1109, 2), (47, .nop, 0, 0)]
abbrev mo_M_line_47 : List mmO := [(47, .freturn, 0, 0)]
def mb_M_line : Nat → List mmO := fun b => match b with
  | 0 => mo_M_line_0
  | 14 => mo_M_line_14
  | 28 => mo_M_line_28
  | 42 => mo_M_line_42
  | 47 => mo_M_line_47
  | _ => []
abbrev mo_M_text_0 : List mmO := [(0, .aload 0, 0, 0), (1, .iconst (0), 0, 0), (2, .putfield 72, 11, 0), (5, .iload 1, 0, 0), (6, .i2l, 0, 0), (7, .bipush 0, 0, 0), (8, .aload 0, 0, 0), (9, .getfield 75, 11, 2), (12, .i2l, 0, 0), (13, .invokestatic 89, 1102, 3), (16, .ifCond .ne 0, 21, 0), (19, .iconst (-1), 0, 0), (20, .ireturn, 0, 0)]
abbrev mo_M_text_21 : List mmO := [(21, .aload 0, 0, 0), (22, .iload 1, 0, 0), (23, .putfield 82, 11, 20), (26, .aload 0, 0, 0), (27, .iconst (0), 0, 0), (28, .putfield 75, 11, 2), (31, .aload 0, 0, 0), (32, .iconst (0), 0, 0), (33, .putfield 97, 11, 22), (36, .aload 0, 0, 0), (37, .iconst (0), 0, 0), (38, .putfield 123, 11, 26), (41, .aload 0, 0, 0), (42, .iconst (0), 0, 0), (43, .putfield 142, 11, 13), (46, .aload 0, 0, 0), (47, .iconst (0), 0, 0), (48, .putfield 156, 11, 15), (51, .aload 0, 0, 0), (52, .iconst (0), 0, 0), (53, .putfield 159, 11, 18), (56, .aload 0, 0, 0), (57, .invokevirtual 139, 1108, 1), (60, .iconst (1), 0, 0), (61, .istore 2, 0, 0), (62, .aload 0, 0, 0), (63, .invokevirtual 184, 1122, 1), (66, .istore 3, 0, 0), (67, .nop, 0, 0)]
abbrev mo_M_text_67 : List mmO := [(67, .iload 3, 0, 0), (68, .ifCond .eq 0, 95, 0), (71, .aload 0, 0, 0), (72, .iconst (59), 0, 0), (74, .invokevirtual 153, 1110, 2), (77, .ifCond .eq 0, 95, 0), (80, .aload 0, 0, 0), (81, .invokevirtual 139, 1108, 1), (84, .aload 0, 0, 0), (85, .invokevirtual 184, 1122, 1), (88, .istore 3, 0, 0), (89, .iinc 2 (1), 0, 0), (92, .goto 0, 67, 0)]
abbrev mo_M_text_95 : List mmO := [(95, .iload 3, 0, 0), (96, .ifCond .eq 0, 112, 0), (99, .aload 0, 0, 0), (100, .getfield 107, 11, 23), (103, .ifCond .eq 0, 112, 0), (106, .aload 0, 0, 0), (107, .iconst (1), 0, 0), (108, .invokevirtual 133, 1109, 2), (111, .istore 3, 0, 0), (112, .nop, 0, 0)]
abbrev mo_M_text_112 : List mmO := [(112, .iload 3, 0, 0), (113, .ifCond .ne 0, 124, 0), (116, .iconst (-2), 0, 0), (118, .aload 0, 0, 0), (119, .getfield 123, 11, 26), (122, .isub, 0, 0), (123, .ireturn, 0, 0)]
abbrev mo_M_text_124 : List mmO := [(124, .aload 0, 0, 0), (125, .invokevirtual 187, 1124, 1), (128, .iload 2, 0, 0), (129, .ireturn, 0, 0)]
def mb_M_text : Nat → List mmO := fun b => match b with
  | 0 => mo_M_text_0
  | 21 => mo_M_text_21
  | 67 => mo_M_text_67
  | 95 => mo_M_text_95
  | 112 => mo_M_text_112
  | 124 => mo_M_text_124
  | _ => []
abbrev mo_M_takes_0 : List mmO := [(0, .aload 0, 0, 0), (1, .aload 0, 0, 0), (2, .getfield 142, 11, 13), (5, .putfield 13, 11, 3), (8, .aload 0, 0, 0), (9, .aload 0, 0, 0), (10, .getfield 156, 11, 15), (13, .putfield 190, 11, 5), (16, .aload 0, 0, 0), (17, .aload 0, 0, 0), (18, .getfield 159, 11, 18), (21, .putfield 193, 11, 8), (24, .iconst (0), 0, 0), (25, .istore 1, 0, 0), (26, .nop, 0, 0)]
abbrev mo_M_takes_26 : List mmO := [(26, .iload 1, 0, 0), (27, .aload 0, 0, 0), (28, .getfield 13, 11, 3), (31, .if_icmp .ge 0, 52, 0), (34, .aload 0, 0, 0), (35, .getstatic 17, 11, 2), (38, .iload 1, 0, 0), (39, .aload 0, 0, 0), (40, .getstatic 39, 11, 6), (43, .iload 1, 0, 0), (44, .iaload, 0, 0), (45, .iastore, 0, 0), (46, .iinc 1 (1), 0, 0), (49, .goto 0, 26, 0)]
abbrev mo_M_takes_52 : List mmO := [(52, .iconst (0), 0, 0), (53, .istore 1, 0, 0), (54, .nop, 0, 0)]
abbrev mo_M_takes_54 : List mmO := [(54, .iload 1, 0, 0), (55, .aload 0, 0, 0), (56, .getfield 190, 11, 5), (59, .if_icmp .ge 0, 92, 0), (62, .aload 0, 0, 0), (63, .getstatic 21, 11, 3), (66, .iload 1, 0, 0), (67, .aload 0, 0, 0), (68, .getstatic 42, 11, 7), (71, .iload 1, 0, 0), (72, .iaload, 0, 0), (73, .iastore, 0, 0), (74, .aload 0, 0, 0), (75, .getstatic 24, 11, 4), (78, .iload 1, 0, 0), (79, .aload 0, 0, 0), (80, .getstatic 45, 11, 8), (83, .iload 1, 0, 0), (84, .iaload, 0, 0), (85, .iastore, 0, 0), (86, .iinc 1 (1), 0, 0), (89, .goto 0, 54, 0)]
abbrev mo_M_takes_92 : List mmO := [(92, .iconst (0), 0, 0), (93, .istore 1, 0, 0), (94, .nop, 0, 0)]
abbrev mo_M_takes_94 : List mmO := [(94, .iload 1, 0, 0), (95, .iconst (4), 0, 0), (96, .aload 0, 0, 0), (97, .getfield 193, 11, 8), (100, .imul, 0, 0), (101, .if_icmp .ge 0, 122, 0), (104, .aload 0, 0, 0), (105, .getstatic 27, 11, 5), (108, .iload 1, 0, 0), (109, .aload 0, 0, 0), (110, .getstatic 48, 11, 9), (113, .iload 1, 0, 0), (114, .iaload, 0, 0), (115, .iastore, 0, 0), (116, .iinc 1 (1), 0, 0), (119, .goto 0, 94, 0)]
abbrev mo_M_takes_122 : List mmO := [(122, .aload 0, 0, 0), (123, .iconst (1), 0, 0), (124, .putfield 30, 11, 10), (127, .aload 0, 0, 0), (128, .iconst (1), 0, 0), (129, .putfield 33, 11, 11), (132, .aload 0, 0, 0), (133, .iconst (4), 0, 0), (134, .putfield 36, 11, 12), (137, .aload 0, 0, 0), (138, .iconst (0), 0, 0), (139, .putfield 196, 11, 39), (142, .aload 0, 0, 0), (143, .iconst (-1), 0, 0), (144, .putfield 69, 11, 40), (147, .aload 0, 0, 0), (148, .iconst (0), 0, 0), (149, .putfield 199, 11, 41), (152, .aload 0, 0, 0), (153, .iconst (0), 0, 0), (154, .putfield 202, 11, 42), (157, .aload 0, 0, 0), (158, .iconst (0), 0, 0), (159, .putfield 205, 11, 43), (162, .aload 0, 0, 0), (163, .iconst (0), 0, 0), (164, .putfield 208, 11, 44), (167, .aload 0, 0, 0), (168, .iconst (0), 0, 0), (169, .putfield 211, 11, 29), (172, .return_, 0, 0)]
def mb_M_takes : Nat → List mmO := fun b => match b with
  | 0 => mo_M_takes_0
  | 26 => mo_M_takes_26
  | 52 => mo_M_takes_52
  | 54 => mo_M_takes_54
  | 92 => mo_M_takes_92
  | 94 => mo_M_takes_94
  | 122 => mo_M_takes_122
  | _ => []
abbrev mo_M_keeps_0 : List mmO := [(0, .aload 0, 0, 0), (1, .getfield 211, 11, 29), (4, .iconst (12), 0, 0), (6, .if_icmp .ne 0, 51, 0), (9, .iconst (0), 0, 0), (10, .istore 6, 0, 0), (12, .nop, 0, 0)]
abbrev mo_M_keeps_12 : List mmO := [(12, .iload 6, 0, 0), (14, .iconst (55), 0, 0), (16, .if_icmp .ge 0, 41, 0), (19, .aload 0, 0, 0), (20, .getstatic 51, 11, 10), (23, .iload 6, 0, 0), (25, .aload 0, 0, 0), (26, .getstatic 51, 11, 10), (29, .iload 6, 0, 0), (31, .iconst (5), 0, 0), (32, .iadd, 0, 0), (33, .iaload, 0, 0), (34, .iastore, 0, 0), (35, .iinc 6 (1), 0, 0), (38, .goto 0, 12, 0)]
abbrev mo_M_keeps_41 : List mmO := [(41, .aload 0, 0, 0), (42, .dup, 0, 0), (43, .getfield 211, 11, 29), (46, .iconst (1), 0, 0), (47, .isub, 0, 0), (48, .putfield 211, 11, 29), (51, .nop, 0, 0)]
abbrev mo_M_keeps_51 : List mmO := [(51, .iconst (5), 0, 0), (52, .aload 0, 0, 0), (53, .getfield 211, 11, 29), (56, .imul, 0, 0), (57, .istore 6, 0, 0), (59, .aload 0, 0, 0), (60, .getstatic 51, 11, 10), (63, .iload 6, 0, 0), (65, .iload 1, 0, 0), (66, .iastore, 0, 0), (67, .aload 0, 0, 0), (68, .getstatic 51, 11, 10), (71, .iload 6, 0, 0), (73, .iconst (1), 0, 0), (74, .iadd, 0, 0), (75, .iload 2, 0, 0), (76, .iastore, 0, 0), (77, .aload 0, 0, 0), (78, .getstatic 51, 11, 10), (81, .iload 6, 0, 0), (83, .iconst (2), 0, 0), (84, .iadd, 0, 0), (85, .iload 3, 0, 0), (86, .iastore, 0, 0), (87, .aload 0, 0, 0), (88, .getstatic 51, 11, 10), (91, .iload 6, 0, 0), (93, .iconst (3), 0, 0), (94, .iadd, 0, 0), (95, .iload 4, 0, 0), (97, .iastore, 0, 0), (98, .aload 0, 0, 0), (99, .getstatic 51, 11, 10), (102, .iload 6, 0, 0), (104, .iconst (4), 0, 0), (105, .iadd, 0, 0), (106, .iload 5, 0, 0), (108, .iastore, 0, 0), (109, .aload 0, 0, 0), (110, .dup, 0, 0), (111, .getfield 211, 11, 29), (114, .iconst (1), 0, 0), (115, .iadd, 0, 0), (116, .putfield 211, 11, 29), (119, .return_, 0, 0)]
def mb_M_keeps : Nat → List mmO := fun b => match b with
  | 0 => mo_M_keeps_0
  | 12 => mo_M_keeps_12
  | 41 => mo_M_keeps_41
  | 51 => mo_M_keeps_51
  | _ => []
abbrev mo_M_isCell_0 : List mmO := [(0, .iload 1, 0, 0), (1, .ifCond .lt 0, 16, 0), (4, .iload 1, 0, 0), (5, .aload 0, 0, 0), (6, .getfield 13, 11, 3), (9, .if_icmp .ge 0, 16, 0), (12, .iconst (1), 0, 0), (13, .goto 0, 17, 0)]
abbrev mo_M_isCell_16 : List mmO := [(16, .iconst (0), 0, 0), (17, .nop, 0, 0)]
abbrev mo_M_isCell_17 : List mmO := [(17, .freturn, 0, 0)]
def mb_M_isCell : Nat → List mmO := fun b => match b with
  | 0 => mo_M_isCell_0
  | 16 => mo_M_isCell_16
  | 17 => mo_M_isCell_17
  | _ => []
abbrev mo_M_isQuestion_0 : List mmO := [(0, .iload 1, 0, 0), (1, .ifCond .lt 0, 16, 0), (4, .iload 1, 0, 0), (5, .aload 0, 0, 0), (6, .getfield 193, 11, 8), (9, .if_icmp .ge 0, 16, 0), (12, .iconst (1), 0, 0), (13, .goto 0, 17, 0)]
abbrev mo_M_isQuestion_16 : List mmO := [(16, .iconst (0), 0, 0), (17, .nop, 0, 0)]
abbrev mo_M_isQuestion_17 : List mmO := [(17, .freturn, 0, 0)]
def mb_M_isQuestion : Nat → List mmO := fun b => match b with
  | 0 => mo_M_isQuestion_0
  | 16 => mo_M_isQuestion_16
  | 17 => mo_M_isQuestion_17
  | _ => []
abbrev mo_M_cell_0 : List mmO := [(0, .aload 0, 0, 0), (1, .iconst (0), 0, 0), (2, .putfield 72, 11, 0), (5, .aload 0, 0, 0), (6, .iload 1, 0, 0), (7, .invokevirtual 214, 1126, 2), (10, .ifCond .eq 0, 53, 0), (13, .iload 2, 0, 0), (14, .i2l, 0, 0), (15, .bipush 0, 0, 0), (16, .bipush (63), 0, 0), (19, .invokestatic 89, 1102, 3), (22, .ifCond .eq 0, 53, 0), (25, .aload 0, 0, 0), (26, .getstatic 17, 11, 2), (29, .iload 1, 0, 0), (30, .iaload, 0, 0), (31, .iload 2, 0, 0), (32, .if_icmp .eq 0, 53, 0), (35, .iload 1, 0, 0), (36, .i2l, 0, 0), (37, .aload 0, 0, 0), (38, .getfield 196, 11, 39), (41, .i2l, 0, 0), (42, .aload 0, 0, 0), (43, .getfield 69, 11, 40), (46, .i2l, 0, 0), (47, .invokestatic 89, 1102, 3), (50, .ifCond .eq 0, 55, 0), (53, .nop, 0, 0)]
abbrev mo_M_cell_53 : List mmO := [(53, .iconst (-1), 0, 0), (54, .ireturn, 0, 0)]
abbrev mo_M_cell_55 : List mmO := [(55, .aload 0, 0, 0), (56, .getstatic 17, 11, 2), (59, .iload 1, 0, 0), (60, .iaload, 0, 0), (61, .istore 3, 0, 0), (62, .aload 0, 0, 0), (63, .iconst (5), 0, 0), (64, .iload 1, 0, 0), (65, .iload 3, 0, 0), (66, .iconst (0), 0, 0), (67, .iconst (0), 0, 0), (68, .invokevirtual 219, 1125, 6), (71, .aload 0, 0, 0), (72, .getstatic 17, 11, 2), (75, .iload 1, 0, 0), (76, .iload 2, 0, 0), (77, .iastore, 0, 0), (78, .iload 3, 0, 0), (79, .ireturn, 0, 0)]
def mb_M_cell : Nat → List mmO := fun b => match b with
  | 0 => mo_M_cell_0
  | 53 => mo_M_cell_53
  | 55 => mo_M_cell_55
  | _ => []
abbrev mo_M_change_0 : List mmO := [(0, .aload 0, 0, 0), (1, .iconst (0), 0, 0), (2, .putfield 72, 11, 0), (5, .aload 0, 0, 0), (6, .iload 1, 0, 0), (7, .invokevirtual 214, 1126, 2), (10, .ifCond .eq 0, 34, 0), (13, .iload 2, 0, 0), (14, .i2l, 0, 0), (15, .bipush 0, 0, 0), (16, .bipush (63), 0, 0), (19, .invokestatic 89, 1102, 3), (22, .ifCond .eq 0, 34, 0), (25, .aload 0, 0, 0), (26, .getfield 190, 11, 5), (29, .iconst (32), 0, 0), (31, .if_icmp .ne 0, 36, 0), (34, .nop, 0, 0)]
abbrev mo_M_change_34 : List mmO := [(34, .iconst (-1), 0, 0), (35, .ireturn, 0, 0)]
abbrev mo_M_change_36 : List mmO := [(36, .aload 0, 0, 0), (37, .iconst (0), 0, 0), (38, .iconst (0), 0, 0), (39, .iconst (0), 0, 0), (40, .iconst (0), 0, 0), (41, .iconst (0), 0, 0), (42, .invokevirtual 219, 1125, 6), (45, .aload 0, 0, 0), (46, .getstatic 21, 11, 3), (49, .aload 0, 0, 0), (50, .getfield 190, 11, 5), (53, .iload 1, 0, 0), (54, .iastore, 0, 0), (55, .aload 0, 0, 0), (56, .getstatic 24, 11, 4), (59, .aload 0, 0, 0), (60, .getfield 190, 11, 5), (63, .iload 2, 0, 0), (64, .iastore, 0, 0), (65, .aload 0, 0, 0), (66, .dup, 0, 0), (67, .getfield 190, 11, 5), (70, .iconst (1), 0, 0), (71, .iadd, 0, 0), (72, .putfield 190, 11, 5), (75, .aload 0, 0, 0), (76, .getfield 190, 11, 5), (79, .ireturn, 0, 0)]
def mb_M_change : Nat → List mmO := fun b => match b with
  | 0 => mo_M_change_0
  | 34 => mo_M_change_34
  | 36 => mo_M_change_36
  | _ => []
abbrev mo_M_canAsk_0 : List mmO := [(0, .iload 1, 0, 0), (1, .i2l, 0, 0), (2, .bipush 0, 0, 0), (3, .bipush (7), 0, 0), (6, .invokestatic 89, 1102, 3), (9, .ifCond .eq 0, 54, 0), (12, .aload 0, 0, 0), (13, .iload 2, 0, 0), (14, .invokevirtual 214, 1126, 2), (17, .ifCond .eq 0, 54, 0), (20, .aload 0, 0, 0), (21, .iload 3, 0, 0), (22, .invokevirtual 214, 1126, 2), (25, .ifCond .eq 0, 54, 0), (28, .iload 2, 0, 0), (29, .iload 3, 0, 0), (30, .if_icmp .gt 0, 54, 0), (33, .iload 4, 0, 0), (35, .i2l, 0, 0), (36, .bipush (-1), 0, 0), (39, .aload 0, 0, 0), (40, .getfield 190, 11, 5), (43, .i2l, 0, 0), (44, .invokestatic 89, 1102, 3), (47, .ifCond .eq 0, 54, 0), (50, .iconst (1), 0, 0), (51, .goto 0, 55, 0)]
abbrev mo_M_canAsk_54 : List mmO := [(54, .iconst (0), 0, 0), (55, .nop, 0, 0)]
abbrev mo_M_canAsk_55 : List mmO := [(55, .freturn, 0, 0)]
def mb_M_canAsk : Nat → List mmO := fun b => match b with
  | 0 => mo_M_canAsk_0
  | 54 => mo_M_canAsk_54
  | 55 => mo_M_canAsk_55
  | _ => []
abbrev mo_M_asks_0 : List mmO := [(0, .iconst (4), 0, 0), (1, .aload 0, 0, 0), (2, .getfield 193, 11, 8), (5, .imul, 0, 0), (6, .istore 5, 0, 0), (8, .aload 0, 0, 0), (9, .getstatic 27, 11, 5), (12, .iload 5, 0, 0), (14, .iload 1, 0, 0), (15, .iastore, 0, 0), (16, .aload 0, 0, 0), (17, .getstatic 27, 11, 5), (20, .iload 5, 0, 0), (22, .iconst (1), 0, 0), (23, .iadd, 0, 0), (24, .iload 2, 0, 0), (25, .iastore, 0, 0), (26, .aload 0, 0, 0), (27, .getstatic 27, 11, 5), (30, .iload 5, 0, 0), (32, .iconst (2), 0, 0), (33, .iadd, 0, 0), (34, .iload 3, 0, 0), (35, .iastore, 0, 0), (36, .aload 0, 0, 0), (37, .getstatic 27, 11, 5), (40, .iload 5, 0, 0), (42, .iconst (3), 0, 0), (43, .iadd, 0, 0), (44, .iload 4, 0, 0), (46, .iconst (-1), 0, 0), (47, .if_icmp .ne 0, 57, 0), (50, .aload 0, 0, 0), (51, .getfield 190, 11, 5), (54, .goto 0, 59, 0)]
abbrev mo_M_asks_57 : List mmO := [(57, .iload 4, 0, 0), (59, .nop, 0, 0)]
abbrev mo_M_asks_59 : List mmO := [(59, .iastore, 0, 0), (60, .aload 0, 0, 0), (61, .dup, 0, 0), (62, .getfield 193, 11, 8), (65, .iconst (1), 0, 0), (66, .iadd, 0, 0), (67, .putfield 193, 11, 8), (70, .return_, 0, 0)]
def mb_M_asks : Nat → List mmO := fun b => match b with
  | 0 => mo_M_asks_0
  | 57 => mo_M_asks_57
  | 59 => mo_M_asks_59
  | _ => []
abbrev mo_M_ask_0 : List mmO := [(0, .aload 0, 0, 0), (1, .iconst (0), 0, 0), (2, .putfield 72, 11, 0), (5, .aload 0, 0, 0), (6, .iload 1, 0, 0), (7, .iload 2, 0, 0), (8, .iload 3, 0, 0), (9, .iload 4, 0, 0), (11, .invokevirtual 227, 1130, 5), (14, .ifCond .eq 0, 26, 0), (17, .aload 0, 0, 0), (18, .getfield 193, 11, 8), (21, .iconst (24), 0, 0), (23, .if_icmp .ne 0, 28, 0), (26, .nop, 0, 0)]
abbrev mo_M_ask_26 : List mmO := [(26, .iconst (-1), 0, 0), (27, .ireturn, 0, 0)]
abbrev mo_M_ask_28 : List mmO := [(28, .aload 0, 0, 0), (29, .iconst (1), 0, 0), (30, .iconst (0), 0, 0), (31, .iconst (0), 0, 0), (32, .iconst (0), 0, 0), (33, .iconst (0), 0, 0), (34, .invokevirtual 219, 1125, 6), (37, .aload 0, 0, 0), (38, .iload 1, 0, 0), (39, .iload 2, 0, 0), (40, .iload 3, 0, 0), (41, .iload 4, 0, 0), (43, .invokevirtual 231, 1131, 5), (46, .aload 0, 0, 0), (47, .getfield 193, 11, 8), (50, .iconst (1), 0, 0), (51, .isub, 0, 0), (52, .ireturn, 0, 0)]
def mb_M_ask : Nat → List mmO := fun b => match b with
  | 0 => mo_M_ask_0
  | 26 => mo_M_ask_26
  | 28 => mo_M_ask_28
  | _ => []
abbrev mo_M_drop_0 : List mmO := [(0, .aload 0, 0, 0), (1, .iconst (0), 0, 0), (2, .putfield 72, 11, 0), (5, .aload 0, 0, 0), (6, .getfield 193, 11, 8), (9, .ifCond .ne 0, 14, 0), (12, .iconst (-1), 0, 0), (13, .ireturn, 0, 0)]
abbrev mo_M_drop_14 : List mmO := [(14, .iconst (4), 0, 0), (15, .aload 0, 0, 0), (16, .getfield 193, 11, 8), (19, .imul, 0, 0), (20, .iconst (4), 0, 0), (21, .isub, 0, 0), (22, .istore 1, 0, 0), (23, .aload 0, 0, 0), (24, .iconst (2), 0, 0), (25, .aload 0, 0, 0), (26, .getstatic 27, 11, 5), (29, .iload 1, 0, 0), (30, .iaload, 0, 0), (31, .aload 0, 0, 0), (32, .getstatic 27, 11, 5), (35, .iload 1, 0, 0), (36, .iconst (1), 0, 0), (37, .iadd, 0, 0), (38, .iaload, 0, 0), (39, .aload 0, 0, 0), (40, .getstatic 27, 11, 5), (43, .iload 1, 0, 0), (44, .iconst (2), 0, 0), (45, .iadd, 0, 0), (46, .iaload, 0, 0), (47, .aload 0, 0, 0), (48, .getstatic 27, 11, 5), (51, .iload 1, 0, 0), (52, .iconst (3), 0, 0), (53, .iadd, 0, 0), (54, .iaload, 0, 0), (55, .invokevirtual 219, 1125, 6), (58, .aload 0, 0, 0), (59, .dup, 0, 0), (60, .getfield 193, 11, 8), (63, .iconst (1), 0, 0), (64, .isub, 0, 0), (65, .putfield 193, 11, 8), (68, .aload 0, 0, 0), (69, .getfield 193, 11, 8), (72, .ireturn, 0, 0)]
def mb_M_drop : Nat → List mmO := fun b => match b with
  | 0 => mo_M_drop_0
  | 14 => mo_M_drop_14
  | _ => []
abbrev mo_M_weight_0 : List mmO := [(0, .aload 0, 0, 0), (1, .iconst (0), 0, 0), (2, .putfield 72, 11, 0), (5, .iload 1, 0, 0), (6, .i2l, 0, 0), (7, .bipush 0, 0, 0), (8, .bipush (9), 0, 0), (11, .invokestatic 89, 1102, 3), (14, .ifCond .ne 0, 19, 0), (17, .iconst (-1), 0, 0), (18, .ireturn, 0, 0)]
abbrev mo_M_weight_19 : List mmO := [(19, .aload 0, 0, 0), (20, .getfield 30, 11, 10), (23, .istore 2, 0, 0), (24, .aload 0, 0, 0), (25, .iconst (3), 0, 0), (26, .iload 2, 0, 0), (27, .iconst (0), 0, 0), (28, .iconst (0), 0, 0), (29, .iconst (0), 0, 0), (30, .invokevirtual 219, 1125, 6), (33, .aload 0, 0, 0), (34, .iload 1, 0, 0), (35, .putfield 30, 11, 10), (38, .iload 2, 0, 0), (39, .ireturn, 0, 0)]
def mb_M_weight : Nat → List mmO := fun b => match b with
  | 0 => mo_M_weight_0
  | 19 => mo_M_weight_19
  | _ => []
abbrev mo_M_isPlan_0 : List mmO := [(0, .iload 0, 0, 0), (1, .i2l, 0, 0), (2, .bipush 0, 0, 0), (3, .bipush (2), 0, 0), (6, .invokestatic 89, 1102, 3), (9, .ifCond .eq 0, 28, 0), (12, .iload 1, 0, 0), (13, .i2l, 0, 0), (14, .bipush 1, 0, 0), (15, .bipush (60), 0, 0), (18, .invokestatic 89, 1102, 3), (21, .ifCond .eq 0, 28, 0), (24, .iconst (1), 0, 0), (25, .goto 0, 29, 0)]
abbrev mo_M_isPlan_28 : List mmO := [(28, .iconst (0), 0, 0), (29, .nop, 0, 0)]
abbrev mo_M_isPlan_29 : List mmO := [(29, .freturn, 0, 0)]
def mb_M_isPlan : Nat → List mmO := fun b => match b with
  | 0 => mo_M_isPlan_0
  | 28 => mo_M_isPlan_28
  | 29 => mo_M_isPlan_29
  | _ => []
abbrev mo_M_set_0 : List mmO := [(0, .aload 0, 0, 0), (1, .iconst (0), 0, 0), (2, .putfield 72, 11, 0), (5, .iload 1, 0, 0), (6, .iload 2, 0, 0), (7, .invokestatic 241, 1135, 2), (10, .ifCond .ne 0, 15, 0), (13, .iconst (-1), 0, 0), (14, .ireturn, 0, 0)]
abbrev mo_M_set_15 : List mmO := [(15, .iconst (100), 0, 0), (17, .aload 0, 0, 0), (18, .getfield 33, 11, 11), (21, .imul, 0, 0), (22, .aload 0, 0, 0), (23, .getfield 36, 11, 12), (26, .iadd, 0, 0), (27, .istore 3, 0, 0), (28, .aload 0, 0, 0), (29, .iconst (4), 0, 0), (30, .aload 0, 0, 0), (31, .getfield 33, 11, 11), (34, .aload 0, 0, 0), (35, .getfield 36, 11, 12), (38, .iconst (0), 0, 0), (39, .iconst (0), 0, 0), (40, .invokevirtual 219, 1125, 6), (43, .aload 0, 0, 0), (44, .iload 1, 0, 0), (45, .putfield 33, 11, 11), (48, .aload 0, 0, 0), (49, .iload 2, 0, 0), (50, .putfield 36, 11, 12), (53, .iload 3, 0, 0), (54, .ireturn, 0, 0)]
def mb_M_set : Nat → List mmO := fun b => match b with
  | 0 => mo_M_set_0
  | 15 => mo_M_set_15
  | _ => []
abbrev mo_M_back_0 : List mmO := [(0, .aload 0, 0, 0), (1, .iconst (0), 0, 0), (2, .putfield 72, 11, 0), (5, .aload 0, 0, 0), (6, .getfield 211, 11, 29), (9, .ifCond .ne 0, 14, 0), (12, .iconst (0), 0, 0), (13, .freturn, 0, 0)]
abbrev mo_M_back_14 : List mmO := [(14, .aload 0, 0, 0), (15, .dup, 0, 0), (16, .getfield 211, 11, 29), (19, .iconst (1), 0, 0), (20, .isub, 0, 0), (21, .putfield 211, 11, 29), (24, .iconst (5), 0, 0), (25, .aload 0, 0, 0), (26, .getfield 211, 11, 29), (29, .imul, 0, 0), (30, .istore 1, 0, 0), (31, .aload 0, 0, 0), (32, .getstatic 51, 11, 10), (35, .iload 1, 0, 0), (36, .iaload, 0, 0), (37, .lookupswitch 0 #[(0, 72), (1, 115), (2, 127), (3, 165), (4, 179)], 205, 0)]
abbrev mo_M_back_72 : List mmO := [(72, .aload 0, 0, 0), (73, .getfield 199, 11, 41), (76, .aload 0, 0, 0), (77, .getfield 190, 11, 5), (80, .if_icmp .ne 0, 103, 0), (83, .aload 0, 0, 0), (84, .dup, 0, 0), (85, .getfield 199, 11, 41), (88, .iconst (1), 0, 0), (89, .isub, 0, 0), (90, .putfield 199, 11, 41), (93, .aload 0, 0, 0), (94, .dup, 0, 0), (95, .getfield 208, 11, 44), (98, .iconst (1), 0, 0), (99, .iadd, 0, 0), (100, .putfield 208, 11, 44), (103, .nop, 0, 0)]
abbrev mo_M_back_103 : List mmO := [(103, .aload 0, 0, 0), (104, .dup, 0, 0), (105, .getfield 190, 11, 5), (108, .iconst (1), 0, 0), (109, .isub, 0, 0), (110, .putfield 190, 11, 5), (113, .iconst (1), 0, 0), (114, .freturn, 0, 0)]
abbrev mo_M_back_115 : List mmO := [(115, .aload 0, 0, 0), (116, .dup, 0, 0), (117, .getfield 193, 11, 8), (120, .iconst (1), 0, 0), (121, .isub, 0, 0), (122, .putfield 193, 11, 8), (125, .iconst (1), 0, 0), (126, .freturn, 0, 0)]
abbrev mo_M_back_127 : List mmO := [(127, .aload 0, 0, 0), (128, .aload 0, 0, 0), (129, .getstatic 51, 11, 10), (132, .iload 1, 0, 0), (133, .iconst (1), 0, 0), (134, .iadd, 0, 0), (135, .iaload, 0, 0), (136, .aload 0, 0, 0), (137, .getstatic 51, 11, 10), (140, .iload 1, 0, 0), (141, .iconst (2), 0, 0), (142, .iadd, 0, 0), (143, .iaload, 0, 0), (144, .aload 0, 0, 0), (145, .getstatic 51, 11, 10), (148, .iload 1, 0, 0), (149, .iconst (3), 0, 0), (150, .iadd, 0, 0), (151, .iaload, 0, 0), (152, .aload 0, 0, 0), (153, .getstatic 51, 11, 10), (156, .iload 1, 0, 0), (157, .iconst (4), 0, 0), (158, .iadd, 0, 0), (159, .iaload, 0, 0), (160, .invokevirtual 231, 1131, 5), (163, .iconst (1), 0, 0), (164, .freturn, 0, 0)]
abbrev mo_M_back_165 : List mmO := [(165, .aload 0, 0, 0), (166, .aload 0, 0, 0), (167, .getstatic 51, 11, 10), (170, .iload 1, 0, 0), (171, .iconst (1), 0, 0), (172, .iadd, 0, 0), (173, .iaload, 0, 0), (174, .putfield 30, 11, 10), (177, .iconst (1), 0, 0), (178, .freturn, 0, 0)]
abbrev mo_M_back_179 : List mmO := [(179, .aload 0, 0, 0), (180, .aload 0, 0, 0), (181, .getstatic 51, 11, 10), (184, .iload 1, 0, 0), (185, .iconst (1), 0, 0), (186, .iadd, 0, 0), (187, .iaload, 0, 0), (188, .putfield 33, 11, 11), (191, .aload 0, 0, 0), (192, .aload 0, 0, 0), (193, .getstatic 51, 11, 10), (196, .iload 1, 0, 0), (197, .iconst (2), 0, 0), (198, .iadd, 0, 0), (199, .iaload, 0, 0), (200, .putfield 36, 11, 12), (203, .iconst (1), 0, 0), (204, .freturn, 0, 0)]
abbrev mo_M_back_205 : List mmO := [(205, .aload 0, 0, 0), (206, .getstatic 17, 11, 2), (209, .aload 0, 0, 0), (210, .getstatic 51, 11, 10), (213, .iload 1, 0, 0), (214, .iconst (1), 0, 0), (215, .iadd, 0, 0), (216, .iaload, 0, 0), (217, .aload 0, 0, 0), (218, .getstatic 51, 11, 10), (221, .iload 1, 0, 0), (222, .iconst (2), 0, 0), (223, .iadd, 0, 0), (224, .iaload, 0, 0), (225, .iastore, 0, 0), (226, .iconst (1), 0, 0), (227, .freturn, 0, 0)]
def mb_M_back : Nat → List mmO := fun b => match b with
  | 0 => mo_M_back_0
  | 14 => mo_M_back_14
  | 72 => mo_M_back_72
  | 103 => mo_M_back_103
  | 115 => mo_M_back_115
  | 127 => mo_M_back_127
  | 165 => mo_M_back_165
  | 179 => mo_M_back_179
  | 205 => mo_M_back_205
  | _ => []
abbrev mo_M_cellAt_0 : List mmO := [(0, .aload 0, 0, 0), (1, .getstatic 17, 11, 2), (4, .iload 1, 0, 0), (5, .iaload, 0, 0), (6, .istore 3, 0, 0), (7, .iconst (0), 0, 0), (8, .istore 4, 0, 0), (10, .nop, 0, 0)]
abbrev mo_M_cellAt_10 : List mmO := [(10, .iload 4, 0, 0), (12, .iload 2, 0, 0), (13, .if_icmp .ge 0, 45, 0), (16, .aload 0, 0, 0), (17, .getstatic 21, 11, 3), (20, .iload 4, 0, 0), (22, .iaload, 0, 0), (23, .iload 1, 0, 0), (24, .if_icmp .ne 0, 37, 0), (27, .aload 0, 0, 0), (28, .getstatic 24, 11, 4), (31, .iload 4, 0, 0), (33, .iaload, 0, 0), (34, .goto 0, 38, 0)]
abbrev mo_M_cellAt_37 : List mmO := [(37, .iload 3, 0, 0), (38, .nop, 0, 0)]
abbrev mo_M_cellAt_38 : List mmO := [(38, .istore 3, 0, 0), (39, .iinc 4 (1), 0, 0), (42, .goto 0, 10, 0)]
abbrev mo_M_cellAt_45 : List mmO := [(45, .iload 3, 0, 0), (46, .ireturn, 0, 0)]
def mb_M_cellAt : Nat → List mmO := fun b => match b with
  | 0 => mo_M_cellAt_0
  | 10 => mo_M_cellAt_10
  | 37 => mo_M_cellAt_37
  | 38 => mo_M_cellAt_38
  | 45 => mo_M_cellAt_45
  | _ => []
abbrev mo_M_at_0 : List mmO := [(0, .aload 0, 0, 0), (1, .iconst (0), 0, 0), (2, .putfield 72, 11, 0), (5, .aload 0, 0, 0), (6, .iload 1, 0, 0), (7, .invokevirtual 214, 1126, 2), (10, .ifCond .eq 0, 36, 0), (13, .iload 2, 0, 0), (14, .i2l, 0, 0), (15, .bipush 0, 0, 0), (16, .aload 0, 0, 0), (17, .getfield 190, 11, 5), (20, .i2l, 0, 0), (21, .invokestatic 89, 1102, 3), (24, .ifCond .eq 0, 36, 0), (27, .aload 0, 0, 0), (28, .iload 1, 0, 0), (29, .iload 2, 0, 0), (30, .invokevirtual 244, 1138, 3), (33, .goto 0, 37, 0)]
abbrev mo_M_at_36 : List mmO := [(36, .iconst (-1), 0, 0), (37, .nop, 0, 0)]
abbrev mo_M_at_37 : List mmO := [(37, .ireturn, 0, 0)]
def mb_M_at : Nat → List mmO := fun b => match b with
  | 0 => mo_M_at_0
  | 36 => mo_M_at_36
  | 37 => mo_M_at_37
  | _ => []
abbrev mo_M_lays_0 : List mmO := [(0, .iconst (0), 0, 0), (1, .istore 4, 0, 0), (3, .nop, 0, 0)]
abbrev mo_M_lays_3 : List mmO := [(3, .iload 4, 0, 0), (5, .iconst (64), 0, 0), (7, .if_icmp .ge 0, 24, 0), (10, .aload 0, 0, 0), (11, .getstatic 54, 11, 11), (14, .iload 4, 0, 0), (16, .iconst (0), 0, 0), (17, .iastore, 0, 0), (18, .iinc 4 (1), 0, 0), (21, .goto 0, 3, 0)]
abbrev mo_M_lays_24 : List mmO := [(24, .iload 1, 0, 0), (25, .istore 4, 0, 0), (27, .nop, 0, 0)]
abbrev mo_M_lays_27 : List mmO := [(27, .iload 4, 0, 0), (29, .iload 2, 0, 0), (30, .if_icmp .gt 0, 55, 0), (33, .aload 0, 0, 0), (34, .getstatic 54, 11, 11), (37, .aload 0, 0, 0), (38, .iload 4, 0, 0), (40, .iload 3, 0, 0), (41, .invokevirtual 244, 1138, 3), (44, .dup2, 0, 0), (45, .iaload, 0, 0), (46, .iconst (1), 0, 0), (47, .iadd, 0, 0), (48, .iastore, 0, 0), (49, .iinc 4 (1), 0, 0), (52, .goto 0, 27, 0)]
abbrev mo_M_lays_55 : List mmO := [(55, .return_, 0, 0)]
def mb_M_lays : Nat → List mmO := fun b => match b with
  | 0 => mo_M_lays_0
  | 3 => mo_M_lays_3
  | 24 => mo_M_lays_24
  | 27 => mo_M_lays_27
  | 55 => mo_M_lays_55
  | _ => []
abbrev mo_M_parts_0 : List mmO := [(0, .iconst (0), 0, 0), (1, .istore 1, 0, 0), (2, .nop, 0, 0)]
abbrev mo_M_parts_2 : List mmO := [(2, .iload 1, 0, 0), (3, .iconst (8), 0, 0), (5, .if_icmp .ge 0, 21, 0), (8, .aload 0, 0, 0), (9, .getstatic 57, 11, 12), (12, .iload 1, 0, 0), (13, .iload 1, 0, 0), (14, .iastore, 0, 0), (15, .iinc 1 (1), 0, 0), (18, .goto 0, 2, 0)]
abbrev mo_M_parts_21 : List mmO := [(21, .iconst (0), 0, 0), (22, .istore 1, 0, 0), (23, .nop, 0, 0)]
abbrev mo_M_parts_23 : List mmO := [(23, .iload 1, 0, 0), (24, .iconst (64), 0, 0), (26, .if_icmp .ge 0, 109, 0), (29, .aload 0, 0, 0), (30, .getstatic 57, 11, 12), (33, .iload 1, 0, 0), (34, .iconst (8), 0, 0), (36, .idiv, 0, 0), (37, .iaload, 0, 0), (38, .istore 2, 0, 0), (39, .aload 0, 0, 0), (40, .getstatic 57, 11, 12), (43, .iload 1, 0, 0), (44, .iconst (8), 0, 0), (46, .irem, 0, 0), (47, .iaload, 0, 0), (48, .istore 3, 0, 0), (49, .iconst (0), 0, 0), (50, .istore 4, 0, 0), (52, .nop, 0, 0)]
abbrev mo_M_parts_52 : List mmO := [(52, .iload 4, 0, 0), (54, .iconst (8), 0, 0), (56, .if_icmp .ge 0, 103, 0), (59, .aload 0, 0, 0), (60, .getstatic 54, 11, 11), (63, .iload 1, 0, 0), (64, .iaload, 0, 0), (65, .ifCond .le 0, 103, 0), (68, .aload 0, 0, 0), (69, .getstatic 57, 11, 12), (72, .iload 4, 0, 0), (74, .aload 0, 0, 0), (75, .getstatic 57, 11, 12), (78, .iload 4, 0, 0), (80, .iaload, 0, 0), (81, .iload 2, 0, 0), (82, .if_icmp .ne 0, 89, 0), (85, .iload 3, 0, 0), (86, .goto 0, 96, 0)]
abbrev mo_M_parts_89 : List mmO := [(89, .aload 0, 0, 0), (90, .getstatic 57, 11, 12), (93, .iload 4, 0, 0), (95, .iaload, 0, 0), (96, .nop, 0, 0)]
abbrev mo_M_parts_96 : List mmO := [(96, .iastore, 0, 0), (97, .iinc 4 (1), 0, 0), (100, .goto 0, 52, 0)]
abbrev mo_M_parts_103 : List mmO := [(103, .iinc 1 (1), 0, 0), (106, .goto 0, 23, 0)]
abbrev mo_M_parts_109 : List mmO := [(109, .iconst (0), 0, 0), (110, .istore 1, 0, 0), (111, .iconst (0), 0, 0), (112, .istore 2, 0, 0), (113, .nop, 0, 0)]
abbrev mo_M_parts_113 : List mmO := [(113, .iload 2, 0, 0), (114, .iconst (8), 0, 0), (116, .if_icmp .ge 0, 176, 0), (119, .iconst (0), 0, 0), (120, .istore 3, 0, 0), (121, .iconst (0), 0, 0), (122, .istore 4, 0, 0), (124, .nop, 0, 0)]
abbrev mo_M_parts_124 : List mmO := [(124, .iload 4, 0, 0), (126, .iconst (8), 0, 0), (128, .if_icmp .ge 0, 158, 0), (131, .iload 3, 0, 0), (132, .ifCond .ne 0, 146, 0), (135, .aload 0, 0, 0), (136, .getstatic 57, 11, 12), (139, .iload 4, 0, 0), (141, .iaload, 0, 0), (142, .iload 2, 0, 0), (143, .if_icmp .ne 0, 150, 0), (146, .nop, 0, 0)]
abbrev mo_M_parts_146 : List mmO := [(146, .iconst (1), 0, 0), (147, .goto 0, 151, 0)]
abbrev mo_M_parts_150 : List mmO := [(150, .iconst (0), 0, 0), (151, .nop, 0, 0)]
abbrev mo_M_parts_151 : List mmO := [(151, .istore 3, 0, 0), (152, .iinc 4 (1), 0, 0), (155, .goto 0, 124, 0)]
abbrev mo_M_parts_158 : List mmO := [(158, .iload 1, 0, 0), (159, .iload 3, 0, 0), (160, .ifCond .eq 0, 167, 0), (163, .iconst (1), 0, 0), (164, .goto 0, 168, 0)]
abbrev mo_M_parts_167 : List mmO := [(167, .iconst (0), 0, 0), (168, .nop, 0, 0)]
abbrev mo_M_parts_168 : List mmO := [(168, .iadd, 0, 0), (169, .istore 1, 0, 0), (170, .iinc 2 (1), 0, 0), (173, .goto 0, 113, 0)]
abbrev mo_M_parts_176 : List mmO := [(176, .iload 1, 0, 0), (177, .ireturn, 0, 0)]
def mb_M_parts : Nat → List mmO := fun b => match b with
  | 0 => mo_M_parts_0
  | 2 => mo_M_parts_2
  | 21 => mo_M_parts_21
  | 23 => mo_M_parts_23
  | 52 => mo_M_parts_52
  | 89 => mo_M_parts_89
  | 96 => mo_M_parts_96
  | 103 => mo_M_parts_103
  | 109 => mo_M_parts_109
  | 113 => mo_M_parts_113
  | 124 => mo_M_parts_124
  | 146 => mo_M_parts_146
  | 150 => mo_M_parts_150
  | 151 => mo_M_parts_151
  | 158 => mo_M_parts_158
  | 167 => mo_M_parts_167
  | 168 => mo_M_parts_168
  | 176 => mo_M_parts_176
  | _ => []
abbrev mo_M_most_0 : List mmO := [(0, .iconst (0), 0, 0), (1, .istore 1, 0, 0), (2, .iconst (1), 0, 0), (3, .istore 2, 0, 0), (4, .nop, 0, 0)]
abbrev mo_M_most_4 : List mmO := [(4, .iload 2, 0, 0), (5, .iconst (64), 0, 0), (7, .if_icmp .ge 0, 37, 0), (10, .aload 0, 0, 0), (11, .getstatic 54, 11, 11), (14, .iload 2, 0, 0), (15, .iaload, 0, 0), (16, .aload 0, 0, 0), (17, .getstatic 54, 11, 11), (20, .iload 1, 0, 0), (21, .iaload, 0, 0), (22, .if_icmp .le 0, 29, 0), (25, .iload 2, 0, 0), (26, .goto 0, 30, 0)]
abbrev mo_M_most_29 : List mmO := [(29, .iload 1, 0, 0), (30, .nop, 0, 0)]
abbrev mo_M_most_30 : List mmO := [(30, .istore 1, 0, 0), (31, .iinc 2 (1), 0, 0), (34, .goto 0, 4, 0)]
abbrev mo_M_most_37 : List mmO := [(37, .iload 1, 0, 0), (38, .ireturn, 0, 0)]
def mb_M_most : Nat → List mmO := fun b => match b with
  | 0 => mo_M_most_0
  | 4 => mo_M_most_4
  | 29 => mo_M_most_29
  | 30 => mo_M_most_30
  | 37 => mo_M_most_37
  | _ => []
abbrev mo_M_tellsOf_0 : List mmO := [(0, .bipush 0, 0, 0), (1, .lstore 2, 0, 0), (2, .iload 1, 0, 0), (3, .lookupswitch 0 #[(0, 44), (1, 76), (2, 112), (3, 123), (4, 129), (5, 171), (6, 198)], 204, 0)]
abbrev mo_M_tellsOf_44 : List mmO := [(44, .iconst (0), 0, 0), (45, .istore 4, 0, 0), (47, .nop, 0, 0)]
abbrev mo_M_tellsOf_47 : List mmO := [(47, .iload 4, 0, 0), (49, .iconst (64), 0, 0), (51, .if_icmp .ge 0, 74, 0), (54, .lload 2, 0, 0), (55, .iload 4, 0, 0), (57, .aload 0, 0, 0), (58, .getstatic 54, 11, 11), (61, .iload 4, 0, 0), (63, .iaload, 0, 0), (64, .imul, 0, 0), (65, .i2l, 0, 0), (66, .ladd, 0, 0), (67, .lstore 2, 0, 0), (68, .iinc 4 (1), 0, 0), (71, .goto 0, 47, 0)]
abbrev mo_M_tellsOf_74 : List mmO := [(74, .lload 2, 0, 0), (75, .lreturn, 0, 0)]
abbrev mo_M_tellsOf_76 : List mmO := [(76, .iconst (0), 0, 0), (77, .istore 4, 0, 0), (79, .nop, 0, 0)]
abbrev mo_M_tellsOf_79 : List mmO := [(79, .iload 4, 0, 0), (81, .iconst (64), 0, 0), (83, .if_icmp .ge 0, 110, 0), (86, .lload 2, 0, 0), (87, .aload 0, 0, 0), (88, .getstatic 54, 11, 11), (91, .iload 4, 0, 0), (93, .iaload, 0, 0), (94, .ifCond .le 0, 101, 0), (97, .bipush 1, 0, 0), (98, .goto 0, 102, 0)]
abbrev mo_M_tellsOf_101 : List mmO := [(101, .bipush 0, 0, 0), (102, .nop, 0, 0)]
abbrev mo_M_tellsOf_102 : List mmO := [(102, .ladd, 0, 0), (103, .lstore 2, 0, 0), (104, .iinc 4 (1), 0, 0), (107, .goto 0, 79, 0)]
abbrev mo_M_tellsOf_110 : List mmO := [(110, .lload 2, 0, 0), (111, .lreturn, 0, 0)]
abbrev mo_M_tellsOf_112 : List mmO := [(112, .aload 0, 0, 0), (113, .getstatic 54, 11, 11), (116, .aload 0, 0, 0), (117, .invokevirtual 248, 1142, 1), (120, .iaload, 0, 0), (121, .i2l, 0, 0), (122, .lreturn, 0, 0)]
abbrev mo_M_tellsOf_123 : List mmO := [(123, .aload 0, 0, 0), (124, .invokevirtual 248, 1142, 1), (127, .i2l, 0, 0), (128, .lreturn, 0, 0)]
abbrev mo_M_tellsOf_129 : List mmO := [(129, .iconst (0), 0, 0), (130, .istore 4, 0, 0), (132, .nop, 0, 0)]
abbrev mo_M_tellsOf_132 : List mmO := [(132, .iload 4, 0, 0), (134, .iconst (64), 0, 0), (136, .if_icmp .ge 0, 169, 0), (139, .lload 2, 0, 0), (140, .aload 0, 0, 0), (141, .getstatic 54, 11, 11), (144, .iload 4, 0, 0), (146, .iaload, 0, 0), (147, .i2l, 0, 0), (148, .aload 0, 0, 0), (149, .getstatic 54, 11, 11), (152, .iload 4, 0, 0), (154, .iaload, 0, 0), (155, .i2l, 0, 0), (156, .lmul, 0, 0), (157, .iload 4, 0, 0), (159, .i2l, 0, 0), (160, .lmul, 0, 0), (161, .ladd, 0, 0), (162, .lstore 2, 0, 0), (163, .iinc 4 (1), 0, 0), (166, .goto 0, 132, 0)]
abbrev mo_M_tellsOf_169 : List mmO := [(169, .lload 2, 0, 0), (170, .lreturn, 0, 0)]
abbrev mo_M_tellsOf_171 : List mmO := [(171, .lload 2, 0, 0), (172, .bipush (64), 0, 0), (175, .lcmp, 0, 0), (176, .ifCond .ge 0, 196, 0), (179, .aload 0, 0, 0), (180, .getstatic 54, 11, 11), (183, .lload 2, 0, 0), (184, .l2i, 0, 0), (185, .iaload, 0, 0), (186, .ifCond .le 0, 196, 0), (189, .lload 2, 0, 0), (190, .bipush 1, 0, 0), (191, .ladd, 0, 0), (192, .lstore 2, 0, 0), (193, .goto 0, 171, 0)]
abbrev mo_M_tellsOf_196 : List mmO := [(196, .lload 2, 0, 0), (197, .lreturn, 0, 0)]
abbrev mo_M_tellsOf_198 : List mmO := [(198, .aload 0, 0, 0), (199, .invokevirtual 253, 1141, 1), (202, .i2l, 0, 0), (203, .lreturn, 0, 0)]
abbrev mo_M_tellsOf_204 : List mmO := [(204, .iconst (0), 0, 0), (205, .istore 4, 0, 0), (207, .nop, 0, 0)]
abbrev mo_M_tellsOf_207 : List mmO := [(207, .iload 4, 0, 0), (209, .iconst (64), 0, 0), (211, .if_icmp .ge 0, 243, 0), (214, .lload 2, 0, 0), (215, .aload 0, 0, 0), (216, .getstatic 54, 11, 11), (219, .iload 4, 0, 0), (221, .iaload, 0, 0), (222, .aload 0, 0, 0), (223, .getstatic 54, 11, 11), (226, .iload 4, 0, 0), (228, .iaload, 0, 0), (229, .iconst (1), 0, 0), (230, .isub, 0, 0), (231, .imul, 0, 0), (232, .iconst (2), 0, 0), (233, .idiv, 0, 0), (234, .i2l, 0, 0), (235, .ladd, 0, 0), (236, .lstore 2, 0, 0), (237, .iinc 4 (1), 0, 0), (240, .goto 0, 207, 0)]
abbrev mo_M_tellsOf_243 : List mmO := [(243, .lload 2, 0, 0), (244, .lreturn, 0, 0)]
def mb_M_tellsOf : Nat → List mmO := fun b => match b with
  | 0 => mo_M_tellsOf_0
  | 44 => mo_M_tellsOf_44
  | 47 => mo_M_tellsOf_47
  | 74 => mo_M_tellsOf_74
  | 76 => mo_M_tellsOf_76
  | 79 => mo_M_tellsOf_79
  | 101 => mo_M_tellsOf_101
  | 102 => mo_M_tellsOf_102
  | 110 => mo_M_tellsOf_110
  | 112 => mo_M_tellsOf_112
  | 123 => mo_M_tellsOf_123
  | 129 => mo_M_tellsOf_129
  | 132 => mo_M_tellsOf_132
  | 169 => mo_M_tellsOf_169
  | 171 => mo_M_tellsOf_171
  | 196 => mo_M_tellsOf_196
  | 198 => mo_M_tellsOf_198
  | 204 => mo_M_tellsOf_204
  | 207 => mo_M_tellsOf_207
  | 243 => mo_M_tellsOf_243
  | _ => []
abbrev mo_M_answerOf_0 : List mmO := [(0, .aload 0, 0, 0), (1, .aload 0, 0, 0), (2, .getstatic 27, 11, 5), (5, .iconst (4), 0, 0), (6, .iload 1, 0, 0), (7, .imul, 0, 0), (8, .iconst (1), 0, 0), (9, .iadd, 0, 0), (10, .iaload, 0, 0), (11, .aload 0, 0, 0), (12, .getstatic 27, 11, 5), (15, .iconst (4), 0, 0), (16, .iload 1, 0, 0), (17, .imul, 0, 0), (18, .iconst (2), 0, 0), (19, .iadd, 0, 0), (20, .iaload, 0, 0), (21, .aload 0, 0, 0), (22, .getstatic 27, 11, 5), (25, .iconst (4), 0, 0), (26, .iload 1, 0, 0), (27, .imul, 0, 0), (28, .iconst (3), 0, 0), (29, .iadd, 0, 0), (30, .iaload, 0, 0), (31, .invokevirtual 256, 1140, 4), (34, .aload 0, 0, 0), (35, .aload 0, 0, 0), (36, .getstatic 27, 11, 5), (39, .iconst (4), 0, 0), (40, .iload 1, 0, 0), (41, .imul, 0, 0), (42, .iaload, 0, 0), (43, .invokevirtual 260, 1143, 2), (46, .lreturn, 0, 0)]
def mb_M_answerOf : Nat → List mmO := fun b => match b with
  | 0 => mo_M_answerOf_0
  | _ => []
abbrev mo_M_answer_0 : List mmO := [(0, .aload 0, 0, 0), (1, .aload 0, 0, 0), (2, .iload 1, 0, 0), (3, .invokevirtual 264, 1127, 2), (6, .ifCond .eq 0, 13, 0), (9, .iconst (0), 0, 0), (10, .goto 0, 14, 0)]
abbrev mo_M_answer_13 : List mmO := [(13, .iconst (1), 0, 0), (14, .nop, 0, 0)]
abbrev mo_M_answer_14 : List mmO := [(14, .putfield 72, 11, 0), (17, .aload 0, 0, 0), (18, .getfield 72, 11, 0), (21, .ifCond .le 0, 28, 0), (24, .bipush 0, 0, 0), (25, .goto 0, 33, 0)]
abbrev mo_M_answer_28 : List mmO := [(28, .aload 0, 0, 0), (29, .iload 1, 0, 0), (30, .invokevirtual 267, 1144, 2), (33, .nop, 0, 0)]
abbrev mo_M_answer_33 : List mmO := [(33, .lreturn, 0, 0)]
def mb_M_answer : Nat → List mmO := fun b => match b with
  | 0 => mo_M_answer_0
  | 13 => mo_M_answer_13
  | 14 => mo_M_answer_14
  | 28 => mo_M_answer_28
  | 33 => mo_M_answer_33
  | _ => []
abbrev mo_M_areAlike_0 : List mmO := [(0, .iconst (1), 0, 0), (1, .istore 3, 0, 0), (2, .iconst (0), 0, 0), (3, .istore 4, 0, 0), (5, .nop, 0, 0)]
abbrev mo_M_areAlike_5 : List mmO := [(5, .iload 4, 0, 0), (7, .iconst (4), 0, 0), (8, .if_icmp .ge 0, 52, 0), (11, .iload 3, 0, 0), (12, .ifCond .eq 0, 44, 0), (15, .aload 0, 0, 0), (16, .getstatic 27, 11, 5), (19, .iconst (4), 0, 0), (20, .iload 1, 0, 0), (21, .imul, 0, 0), (22, .iload 4, 0, 0), (24, .iadd, 0, 0), (25, .iaload, 0, 0), (26, .aload 0, 0, 0), (27, .getstatic 27, 11, 5), (30, .iconst (4), 0, 0), (31, .iload 2, 0, 0), (32, .imul, 0, 0), (33, .iload 4, 0, 0), (35, .iadd, 0, 0), (36, .iaload, 0, 0), (37, .if_icmp .ne 0, 44, 0), (40, .iconst (1), 0, 0), (41, .goto 0, 45, 0)]
abbrev mo_M_areAlike_44 : List mmO := [(44, .iconst (0), 0, 0), (45, .nop, 0, 0)]
abbrev mo_M_areAlike_45 : List mmO := [(45, .istore 3, 0, 0), (46, .iinc 4 (1), 0, 0), (49, .goto 0, 5, 0)]
abbrev mo_M_areAlike_52 : List mmO := [(52, .iload 3, 0, 0), (53, .freturn, 0, 0)]
def mb_M_areAlike : Nat → List mmO := fun b => match b with
  | 0 => mo_M_areAlike_0
  | 5 => mo_M_areAlike_5
  | 44 => mo_M_areAlike_44
  | 45 => mo_M_areAlike_45
  | 52 => mo_M_areAlike_52
  | _ => []
abbrev mo_M_firstAlike_0 : List mmO := [(0, .iconst (0), 0, 0), (1, .istore 2, 0, 0), (2, .nop, 0, 0)]
abbrev mo_M_firstAlike_2 : List mmO := [(2, .aload 0, 0, 0), (3, .iload 2, 0, 0), (4, .iload 1, 0, 0), (5, .invokevirtual 270, 1146, 3), (8, .ifCond .ne 0, 17, 0), (11, .iinc 2 (1), 0, 0), (14, .goto 0, 2, 0)]
abbrev mo_M_firstAlike_17 : List mmO := [(17, .iload 2, 0, 0), (18, .ireturn, 0, 0)]
def mb_M_firstAlike : Nat → List mmO := fun b => match b with
  | 0 => mo_M_firstAlike_0
  | 2 => mo_M_firstAlike_2
  | 17 => mo_M_firstAlike_17
  | _ => []
abbrev mo_M_of_0 : List mmO := [(0, .aload 0, 0, 0), (1, .iconst (0), 0, 0), (2, .putfield 72, 11, 0), (5, .aload 0, 0, 0), (6, .iload 1, 0, 0), (7, .invokevirtual 264, 1127, 2), (10, .ifCond .ne 0, 15, 0), (13, .iconst (-1), 0, 0), (14, .ireturn, 0, 0)]
abbrev mo_M_of_15 : List mmO := [(15, .iload 2, 0, 0), (16, .i2l, 0, 0), (17, .bipush 0, 0, 0), (18, .bipush (3), 0, 0), (21, .invokestatic 89, 1102, 3), (24, .ifCond .eq 0, 38, 0), (27, .aload 0, 0, 0), (28, .getstatic 27, 11, 5), (31, .iconst (4), 0, 0), (32, .iload 1, 0, 0), (33, .imul, 0, 0), (34, .iload 2, 0, 0), (35, .iadd, 0, 0), (36, .iaload, 0, 0), (37, .ireturn, 0, 0)]
abbrev mo_M_of_38 : List mmO := [(38, .iload 2, 0, 0), (39, .iconst (4), 0, 0), (40, .if_icmp .ne 0, 49, 0), (43, .aload 0, 0, 0), (44, .iload 1, 0, 0), (45, .invokevirtual 275, 1147, 2), (48, .ireturn, 0, 0)]
abbrev mo_M_of_49 : List mmO := [(49, .iconst (0), 0, 0), (50, .istore 3, 0, 0), (51, .iconst (0), 0, 0), (52, .istore 4, 0, 0), (54, .nop, 0, 0)]
abbrev mo_M_of_54 : List mmO := [(54, .iload 4, 0, 0), (56, .aload 0, 0, 0), (57, .getfield 193, 11, 8), (60, .if_icmp .ge 0, 87, 0), (63, .iload 3, 0, 0), (64, .aload 0, 0, 0), (65, .iload 4, 0, 0), (67, .iload 1, 0, 0), (68, .invokevirtual 270, 1146, 3), (71, .ifCond .eq 0, 78, 0), (74, .iconst (1), 0, 0), (75, .goto 0, 79, 0)]
abbrev mo_M_of_78 : List mmO := [(78, .iconst (0), 0, 0), (79, .nop, 0, 0)]
abbrev mo_M_of_79 : List mmO := [(79, .iadd, 0, 0), (80, .istore 3, 0, 0), (81, .iinc 4 (1), 0, 0), (84, .goto 0, 54, 0)]
abbrev mo_M_of_87 : List mmO := [(87, .iload 2, 0, 0), (88, .iconst (5), 0, 0), (89, .if_icmp .ne 0, 96, 0), (92, .iload 3, 0, 0), (93, .goto 0, 97, 0)]
abbrev mo_M_of_96 : List mmO := [(96, .iconst (-1), 0, 0), (97, .nop, 0, 0)]
abbrev mo_M_of_97 : List mmO := [(97, .ireturn, 0, 0)]
def mb_M_of : Nat → List mmO := fun b => match b with
  | 0 => mo_M_of_0
  | 15 => mo_M_of_15
  | 38 => mo_M_of_38
  | 49 => mo_M_of_49
  | 54 => mo_M_of_54
  | 78 => mo_M_of_78
  | 79 => mo_M_of_79
  | 87 => mo_M_of_87
  | 96 => mo_M_of_96
  | 97 => mo_M_of_97
  | _ => []
abbrev mo_M_touched_0 : List mmO := [(0, .aload 0, 0, 0), (1, .iconst (0), 0, 0), (2, .putfield 72, 11, 0), (5, .aload 0, 0, 0), (6, .iload 1, 0, 0), (7, .invokevirtual 214, 1126, 2), (10, .ifCond .eq 0, 25, 0), (13, .iload 2, 0, 0), (14, .i2l, 0, 0), (15, .bipush 0, 0, 0), (16, .bipush (63), 0, 0), (19, .invokestatic 89, 1102, 3), (22, .ifCond .ne 0, 27, 0), (25, .nop, 0, 0)]
abbrev mo_M_touched_25 : List mmO := [(25, .iconst (-1), 0, 0), (26, .ireturn, 0, 0)]
abbrev mo_M_touched_27 : List mmO := [(27, .aload 0, 0, 0), (28, .getstatic 17, 11, 2), (31, .iload 1, 0, 0), (32, .iaload, 0, 0), (33, .istore 3, 0, 0), (34, .iconst (0), 0, 0), (35, .istore 4, 0, 0), (37, .iconst (0), 0, 0), (38, .istore 5, 0, 0), (40, .nop, 0, 0)]
abbrev mo_M_touched_40 : List mmO := [(40, .iload 5, 0, 0), (42, .aload 0, 0, 0), (43, .getfield 193, 11, 8), (46, .if_icmp .ge 0, 99, 0), (49, .aload 0, 0, 0), (50, .iload 5, 0, 0), (52, .invokevirtual 267, 1144, 2), (55, .lstore 6, 0, 0), (57, .aload 0, 0, 0), (58, .getstatic 17, 11, 2), (61, .iload 1, 0, 0), (62, .iload 2, 0, 0), (63, .iastore, 0, 0), (64, .iload 4, 0, 0), (66, .aload 0, 0, 0), (67, .iload 5, 0, 0), (69, .invokevirtual 267, 1144, 2), (72, .lload 6, 0, 0), (74, .lcmp, 0, 0), (75, .ifCond .eq 0, 82, 0), (78, .iconst (1), 0, 0), (79, .goto 0, 83, 0)]
abbrev mo_M_touched_82 : List mmO := [(82, .iconst (0), 0, 0), (83, .nop, 0, 0)]
abbrev mo_M_touched_83 : List mmO := [(83, .iadd, 0, 0), (84, .istore 4, 0, 0), (86, .aload 0, 0, 0), (87, .getstatic 17, 11, 2), (90, .iload 1, 0, 0), (91, .iload 3, 0, 0), (92, .iastore, 0, 0), (93, .iinc 5 (1), 0, 0), (96, .goto 0, 40, 0)]
abbrev mo_M_touched_99 : List mmO := [(99, .iload 4, 0, 0), (101, .ireturn, 0, 0)]
def mb_M_touched : Nat → List mmO := fun b => match b with
  | 0 => mo_M_touched_0
  | 25 => mo_M_touched_25
  | 27 => mo_M_touched_27
  | 40 => mo_M_touched_40
  | 82 => mo_M_touched_82
  | 83 => mo_M_touched_83
  | 99 => mo_M_touched_99
  | _ => []
abbrev mo_M_isPlanned_0 : List mmO := [(0, .iload 0, 0, 0), (1, .iconst (2), 0, 0), (2, .if_icmp .eq 0, 20, 0), (5, .iload 0, 0, 0), (6, .iconst (3), 0, 0), (7, .if_icmp .eq 0, 20, 0), (10, .iload 0, 0, 0), (11, .iconst (6), 0, 0), (13, .if_icmp .eq 0, 20, 0), (16, .iconst (1), 0, 0), (17, .goto 0, 21, 0)]
abbrev mo_M_isPlanned_20 : List mmO := [(20, .iconst (0), 0, 0), (21, .nop, 0, 0)]
abbrev mo_M_isPlanned_21 : List mmO := [(21, .freturn, 0, 0)]
def mb_M_isPlanned : Nat → List mmO := fun b => match b with
  | 0 => mo_M_isPlanned_0
  | 20 => mo_M_isPlanned_20
  | 21 => mo_M_isPlanned_21
  | _ => []
abbrev mo_M_curve_0 : List mmO := [(0, .iload 0, 0, 0), (1, .istore 2, 0, 0), (2, .iload 1, 0, 0), (3, .istore 3, 0, 0), (4, .iconst (0), 0, 0), (5, .istore 4, 0, 0), (7, .iconst (32), 0, 0), (9, .istore 5, 0, 0), (11, .nop, 0, 0)]
abbrev mo_M_curve_11 : List mmO := [(11, .iload 5, 0, 0), (13, .ifCond .le 0, 102, 0), (16, .iload 2, 0, 0), (17, .iload 5, 0, 0), (19, .idiv, 0, 0), (20, .iconst (2), 0, 0), (21, .irem, 0, 0), (22, .istore 6, 0, 0), (24, .iload 3, 0, 0), (25, .iload 5, 0, 0), (27, .idiv, 0, 0), (28, .iconst (2), 0, 0), (29, .irem, 0, 0), (30, .istore 7, 0, 0), (32, .iload 4, 0, 0), (34, .iload 5, 0, 0), (36, .iload 5, 0, 0), (38, .imul, 0, 0), (39, .iconst (3), 0, 0), (40, .iload 6, 0, 0), (42, .imul, 0, 0), (43, .iload 7, 0, 0), (45, .ixor, 0, 0), (46, .imul, 0, 0), (47, .iadd, 0, 0), (48, .istore 4, 0, 0), (50, .iload 7, 0, 0), (52, .ifCond .ne 0, 93, 0), (55, .iload 6, 0, 0), (57, .iconst (1), 0, 0), (58, .if_icmp .ne 0, 68, 0), (61, .iconst (63), 0, 0), (63, .iload 2, 0, 0), (64, .isub, 0, 0), (65, .goto 0, 69, 0)]
abbrev mo_M_curve_68 : List mmO := [(68, .iload 2, 0, 0), (69, .nop, 0, 0)]
abbrev mo_M_curve_69 : List mmO := [(69, .istore 8, 0, 0), (71, .iload 6, 0, 0), (73, .iconst (1), 0, 0), (74, .if_icmp .ne 0, 84, 0), (77, .iconst (63), 0, 0), (79, .iload 3, 0, 0), (80, .isub, 0, 0), (81, .goto 0, 85, 0)]
abbrev mo_M_curve_84 : List mmO := [(84, .iload 3, 0, 0), (85, .nop, 0, 0)]
abbrev mo_M_curve_85 : List mmO := [(85, .istore 9, 0, 0), (87, .iload 9, 0, 0), (89, .istore 2, 0, 0), (90, .iload 8, 0, 0), (92, .istore 3, 0, 0), (93, .nop, 0, 0)]
abbrev mo_M_curve_93 : List mmO := [(93, .iload 5, 0, 0), (95, .iconst (2), 0, 0), (96, .idiv, 0, 0), (97, .istore 5, 0, 0), (99, .goto 0, 11, 0)]
abbrev mo_M_curve_102 : List mmO := [(102, .iload 4, 0, 0), (104, .ireturn, 0, 0)]
def mb_M_curve : Nat → List mmO := fun b => match b with
  | 0 => mo_M_curve_0
  | 11 => mo_M_curve_11
  | 68 => mo_M_curve_68
  | 69 => mo_M_curve_69
  | 84 => mo_M_curve_84
  | 85 => mo_M_curve_85
  | 93 => mo_M_curve_93
  | 102 => mo_M_curve_102
  | _ => []
abbrev mo_M_weightOf_0 : List mmO := [(0, .aload 0, 0, 0), (1, .getstatic 27, 11, 5), (4, .iconst (4), 0, 0), (5, .iload 1, 0, 0), (6, .imul, 0, 0), (7, .iconst (1), 0, 0), (8, .iadd, 0, 0), (9, .iaload, 0, 0), (10, .iload 3, 0, 0), (11, .idiv, 0, 0), (12, .istore 4, 0, 0), (14, .aload 0, 0, 0), (15, .getstatic 27, 11, 5), (18, .iconst (4), 0, 0), (19, .iload 1, 0, 0), (20, .imul, 0, 0), (21, .iconst (2), 0, 0), (22, .iadd, 0, 0), (23, .iaload, 0, 0), (24, .iload 3, 0, 0), (25, .idiv, 0, 0), (26, .istore 5, 0, 0), (28, .aload 0, 0, 0), (29, .getstatic 27, 11, 5), (32, .iconst (4), 0, 0), (33, .iload 1, 0, 0), (34, .imul, 0, 0), (35, .iconst (3), 0, 0), (36, .iadd, 0, 0), (37, .iaload, 0, 0), (38, .istore 6, 0, 0), (40, .iload 2, 0, 0), (41, .iconst (2), 0, 0), (42, .if_icmp .ne 0, 69, 0), (45, .iload 4, 0, 0), (47, .iload 5, 0, 0), (49, .invokestatic 278, 1151, 2), (52, .i2l, 0, 0), (53, .bipush (64), 0, 0), (56, .lmul, 0, 0), (57, .iload 6, 0, 0), (59, .i2l, 0, 0), (60, .ladd, 0, 0), (61, .bipush (64), 0, 0), (64, .lmul, 0, 0), (65, .iload 1, 0, 0), (66, .i2l, 0, 0), (67, .ladd, 0, 0), (68, .lreturn, 0, 0)]
abbrev mo_M_weightOf_69 : List mmO := [(69, .iload 2, 0, 0), (70, .iconst (1), 0, 0), (71, .if_icmp .ne 0, 78, 0), (74, .iconst (1), 0, 0), (75, .goto 0, 79, 0)]
abbrev mo_M_weightOf_78 : List mmO := [(78, .iconst (0), 0, 0), (79, .nop, 0, 0)]
abbrev mo_M_weightOf_79 : List mmO := [(79, .istore 7, 0, 0), (81, .iload 7, 0, 0), (83, .ifCond .eq 0, 103, 0), (86, .iload 4, 0, 0), (88, .iconst (2), 0, 0), (89, .irem, 0, 0), (90, .iconst (1), 0, 0), (91, .if_icmp .ne 0, 103, 0), (94, .iconst (63), 0, 0), (96, .iload 5, 0, 0), (98, .isub, 0, 0), (99, .i2l, 0, 0), (100, .goto 0, 106, 0)]
abbrev mo_M_weightOf_103 : List mmO := [(103, .iload 5, 0, 0), (105, .i2l, 0, 0), (106, .nop, 0, 0)]
abbrev mo_M_weightOf_106 : List mmO := [(106, .lstore 8, 0, 0), (108, .iload 7, 0, 0), (110, .ifCond .eq 0, 130, 0), (113, .iload 5, 0, 0), (115, .iconst (2), 0, 0), (116, .irem, 0, 0), (117, .iconst (1), 0, 0), (118, .if_icmp .ne 0, 130, 0), (121, .iconst (63), 0, 0), (123, .iload 6, 0, 0), (125, .isub, 0, 0), (126, .i2l, 0, 0), (127, .goto 0, 133, 0)]
abbrev mo_M_weightOf_130 : List mmO := [(130, .iload 6, 0, 0), (132, .i2l, 0, 0), (133, .nop, 0, 0)]
abbrev mo_M_weightOf_133 : List mmO := [(133, .lstore 10, 0, 0), (135, .iload 4, 0, 0), (137, .i2l, 0, 0), (138, .bipush (64), 0, 0), (141, .lmul, 0, 0), (142, .lload 8, 0, 0), (144, .ladd, 0, 0), (145, .bipush (64), 0, 0), (148, .lmul, 0, 0), (149, .lload 10, 0, 0), (151, .ladd, 0, 0), (152, .bipush (64), 0, 0), (155, .lmul, 0, 0), (156, .iload 1, 0, 0), (157, .i2l, 0, 0), (158, .ladd, 0, 0), (159, .lreturn, 0, 0)]
def mb_M_weightOf : Nat → List mmO := fun b => match b with
  | 0 => mo_M_weightOf_0
  | 69 => mo_M_weightOf_69
  | 78 => mo_M_weightOf_78
  | 79 => mo_M_weightOf_79
  | 103 => mo_M_weightOf_103
  | 106 => mo_M_weightOf_106
  | 130 => mo_M_weightOf_130
  | 133 => mo_M_weightOf_133
  | _ => []
abbrev mo_M_plans_0 : List mmO := [(0, .aload 0, 0, 0), (1, .iconst (0), 0, 0), (2, .putfield 281, 11, 33), (5, .bipush (-1), 0, 0), (8, .lstore 3, 0, 0), (9, .iconst (0), 0, 0), (10, .istore 5, 0, 0), (12, .nop, 0, 0)]
abbrev mo_M_plans_12 : List mmO := [(12, .iload 5, 0, 0), (14, .ifCond .lt 0, 159, 0), (17, .iconst (-1), 0, 0), (18, .istore 5, 0, 0), (20, .iconst (0), 0, 0), (21, .istore 6, 0, 0), (23, .nop, 0, 0)]
abbrev mo_M_plans_23 : List mmO := [(23, .iload 6, 0, 0), (25, .aload 0, 0, 0), (26, .getfield 193, 11, 8), (29, .if_icmp .ge 0, 121, 0), (32, .iload 6, 0, 0), (34, .aload 0, 0, 0), (35, .getfield 63, 11, 34), (38, .if_icmp .eq 0, 73, 0), (41, .aload 0, 0, 0), (42, .getstatic 27, 11, 5), (45, .iconst (4), 0, 0), (46, .iload 6, 0, 0), (48, .imul, 0, 0), (49, .iaload, 0, 0), (50, .invokestatic 284, 1150, 1), (53, .ifCond .eq 0, 73, 0), (56, .aload 0, 0, 0), (57, .iload 6, 0, 0), (59, .iload 1, 0, 0), (60, .iload 2, 0, 0), (61, .invokevirtual 287, 1152, 4), (64, .lload 3, 0, 0), (65, .lcmp, 0, 0), (66, .ifCond .le 0, 73, 0), (69, .iconst (1), 0, 0), (70, .goto 0, 74, 0)]
abbrev mo_M_plans_73 : List mmO := [(73, .iconst (0), 0, 0), (74, .nop, 0, 0)]
abbrev mo_M_plans_74 : List mmO := [(74, .istore 7, 0, 0), (76, .iload 7, 0, 0), (78, .ifCond .eq 0, 111, 0), (81, .iload 5, 0, 0), (83, .ifCond .lt 0, 106, 0), (86, .aload 0, 0, 0), (87, .iload 6, 0, 0), (89, .iload 1, 0, 0), (90, .iload 2, 0, 0), (91, .invokevirtual 287, 1152, 4), (94, .aload 0, 0, 0), (95, .iload 5, 0, 0), (97, .iload 1, 0, 0), (98, .iload 2, 0, 0), (99, .invokevirtual 287, 1152, 4), (102, .lcmp, 0, 0), (103, .ifCond .ge 0, 111, 0), (106, .nop, 0, 0)]
abbrev mo_M_plans_106 : List mmO := [(106, .iload 6, 0, 0), (108, .goto 0, 113, 0)]
abbrev mo_M_plans_111 : List mmO := [(111, .iload 5, 0, 0), (113, .nop, 0, 0)]
abbrev mo_M_plans_113 : List mmO := [(113, .istore 5, 0, 0), (115, .iinc 6 (1), 0, 0), (118, .goto 0, 23, 0)]
abbrev mo_M_plans_121 : List mmO := [(121, .iload 5, 0, 0), (123, .ifCond .lt 0, 12, 0), (126, .aload 0, 0, 0), (127, .iload 5, 0, 0), (129, .iload 1, 0, 0), (130, .iload 2, 0, 0), (131, .invokevirtual 287, 1152, 4), (134, .lstore 3, 0, 0), (135, .aload 0, 0, 0), (136, .getstatic 60, 11, 13), (139, .aload 0, 0, 0), (140, .getfield 281, 11, 33), (143, .iload 5, 0, 0), (145, .iastore, 0, 0), (146, .aload 0, 0, 0), (147, .dup, 0, 0), (148, .getfield 281, 11, 33), (151, .iconst (1), 0, 0), (152, .iadd, 0, 0), (153, .putfield 281, 11, 33), (156, .goto 0, 12, 0)]
abbrev mo_M_plans_159 : List mmO := [(159, .return_, 0, 0)]
def mb_M_plans : Nat → List mmO := fun b => match b with
  | 0 => mo_M_plans_0
  | 12 => mo_M_plans_12
  | 23 => mo_M_plans_23
  | 73 => mo_M_plans_73
  | 74 => mo_M_plans_74
  | 106 => mo_M_plans_106
  | 111 => mo_M_plans_111
  | 113 => mo_M_plans_113
  | 121 => mo_M_plans_121
  | 159 => mo_M_plans_159
  | _ => []
abbrev mo_M_planned_0 : List mmO := [(0, .aload 0, 0, 0), (1, .iconst (0), 0, 0), (2, .putfield 72, 11, 0), (5, .iload 1, 0, 0), (6, .iload 2, 0, 0), (7, .invokestatic 241, 1135, 2), (10, .ifCond .eq 0, 18, 0), (13, .iload 3, 0, 0), (14, .iconst (-1), 0, 0), (15, .if_icmp .ge 0, 20, 0), (18, .nop, 0, 0)]
abbrev mo_M_planned_18 : List mmO := [(18, .iconst (-1), 0, 0), (19, .ireturn, 0, 0)]
abbrev mo_M_planned_20 : List mmO := [(20, .aload 0, 0, 0), (21, .iload 1, 0, 0), (22, .iload 2, 0, 0), (23, .invokevirtual 291, 1153, 3), (26, .iload 3, 0, 0), (27, .iconst (-1), 0, 0), (28, .if_icmp .ne 0, 38, 0), (31, .aload 0, 0, 0), (32, .getfield 281, 11, 33), (35, .goto 0, 56, 0)]
abbrev mo_M_planned_38 : List mmO := [(38, .iload 3, 0, 0), (39, .aload 0, 0, 0), (40, .getfield 281, 11, 33), (43, .if_icmp .ge 0, 55, 0), (46, .aload 0, 0, 0), (47, .getstatic 60, 11, 13), (50, .iload 3, 0, 0), (51, .iaload, 0, 0), (52, .goto 0, 56, 0)]
abbrev mo_M_planned_55 : List mmO := [(55, .iconst (-1), 0, 0), (56, .nop, 0, 0)]
abbrev mo_M_planned_56 : List mmO := [(56, .ireturn, 0, 0)]
def mb_M_planned : Nat → List mmO := fun b => match b with
  | 0 => mo_M_planned_0
  | 18 => mo_M_planned_18
  | 20 => mo_M_planned_20
  | 38 => mo_M_planned_38
  | 55 => mo_M_planned_55
  | 56 => mo_M_planned_56
  | _ => []
abbrev mo_M_apart_0 : List mmO := [(0, .iload 0, 0, 0), (1, .iload 1, 0, 0), (2, .if_icmp .le 0, 11, 0), (5, .iload 0, 0, 0), (6, .iload 1, 0, 0), (7, .isub, 0, 0), (8, .goto 0, 14, 0)]
abbrev mo_M_apart_11 : List mmO := [(11, .iload 1, 0, 0), (12, .iload 0, 0, 0), (13, .isub, 0, 0), (14, .nop, 0, 0)]
abbrev mo_M_apart_14 : List mmO := [(14, .ireturn, 0, 0)]
def mb_M_apart : Nat → List mmO := fun b => match b with
  | 0 => mo_M_apart_0
  | 11 => mo_M_apart_11
  | 14 => mo_M_apart_14
  | _ => []
abbrev mo_M_along_0 : List mmO := [(0, .iconst (0), 0, 0), (1, .istore 3, 0, 0), (2, .iconst (-1), 0, 0), (3, .istore 4, 0, 0), (5, .iconst (0), 0, 0), (6, .istore 5, 0, 0), (8, .aload 0, 0, 0), (9, .iconst (0), 0, 0), (10, .putfield 295, 11, 35), (13, .aload 0, 0, 0), (14, .iconst (0), 0, 0), (15, .putfield 298, 11, 36), (18, .aload 0, 0, 0), (19, .iconst (0), 0, 0), (20, .putfield 301, 11, 37), (23, .iload 1, 0, 0), (24, .istore 6, 0, 0), (26, .nop, 0, 0)]
abbrev mo_M_along_26 : List mmO := [(26, .iload 6, 0, 0), (28, .iload 2, 0, 0), (29, .if_icmp .ge 0, 177, 0), (32, .iconst (4), 0, 0), (33, .aload 0, 0, 0), (34, .getstatic 60, 11, 13), (37, .iload 6, 0, 0), (39, .iaload, 0, 0), (40, .imul, 0, 0), (41, .istore 7, 0, 0), (43, .iload 3, 0, 0), (44, .aload 0, 0, 0), (45, .getstatic 27, 11, 5), (48, .iload 7, 0, 0), (50, .iconst (1), 0, 0), (51, .iadd, 0, 0), (52, .iaload, 0, 0), (53, .invokestatic 304, 1155, 2), (56, .iload 4, 0, 0), (58, .aload 0, 0, 0), (59, .getstatic 27, 11, 5), (62, .iload 7, 0, 0), (64, .iconst (2), 0, 0), (65, .iadd, 0, 0), (66, .iaload, 0, 0), (67, .invokestatic 304, 1155, 2), (70, .iadd, 0, 0), (71, .istore 8, 0, 0), (73, .iload 5, 0, 0), (75, .aload 0, 0, 0), (76, .getstatic 27, 11, 5), (79, .iload 7, 0, 0), (81, .iconst (3), 0, 0), (82, .iadd, 0, 0), (83, .iaload, 0, 0), (84, .invokestatic 304, 1155, 2), (87, .istore 9, 0, 0), (89, .aload 0, 0, 0), (90, .dup, 0, 0), (91, .getfield 295, 11, 35), (94, .iload 8, 0, 0), (96, .iadd, 0, 0), (97, .putfield 295, 11, 35), (100, .aload 0, 0, 0), (101, .dup, 0, 0), (102, .getfield 298, 11, 36), (105, .iload 9, 0, 0), (107, .iadd, 0, 0), (108, .putfield 298, 11, 36), (111, .aload 0, 0, 0), (112, .iload 8, 0, 0), (114, .iload 9, 0, 0), (116, .iadd, 0, 0), (117, .aload 0, 0, 0), (118, .getfield 301, 11, 37), (121, .if_icmp .le 0, 132, 0), (124, .iload 8, 0, 0), (126, .iload 9, 0, 0), (128, .iadd, 0, 0), (129, .goto 0, 136, 0)]
abbrev mo_M_along_132 : List mmO := [(132, .aload 0, 0, 0), (133, .getfield 301, 11, 37), (136, .nop, 0, 0)]
abbrev mo_M_along_136 : List mmO := [(136, .putfield 301, 11, 37), (139, .aload 0, 0, 0), (140, .getstatic 27, 11, 5), (143, .iload 7, 0, 0), (145, .iconst (1), 0, 0), (146, .iadd, 0, 0), (147, .iaload, 0, 0), (148, .istore 3, 0, 0), (149, .aload 0, 0, 0), (150, .getstatic 27, 11, 5), (153, .iload 7, 0, 0), (155, .iconst (2), 0, 0), (156, .iadd, 0, 0), (157, .iaload, 0, 0), (158, .istore 4, 0, 0), (160, .aload 0, 0, 0), (161, .getstatic 27, 11, 5), (164, .iload 7, 0, 0), (166, .iconst (3), 0, 0), (167, .iadd, 0, 0), (168, .iaload, 0, 0), (169, .istore 5, 0, 0), (171, .iinc 6 (1), 0, 0), (174, .goto 0, 26, 0)]
abbrev mo_M_along_177 : List mmO := [(177, .return_, 0, 0)]
def mb_M_along : Nat → List mmO := fun b => match b with
  | 0 => mo_M_along_0
  | 26 => mo_M_along_26
  | 132 => mo_M_along_132
  | 136 => mo_M_along_136
  | 177 => mo_M_along_177
  | _ => []
abbrev mo_M_cost_0 : List mmO := [(0, .aload 0, 0, 0), (1, .iload 1, 0, 0), (2, .iload 2, 0, 0), (3, .invokevirtual 307, 1156, 3), (6, .aload 0, 0, 0), (7, .getfield 295, 11, 35), (10, .aload 0, 0, 0), (11, .getfield 30, 11, 10), (14, .aload 0, 0, 0), (15, .getfield 298, 11, 36), (18, .imul, 0, 0), (19, .iadd, 0, 0), (20, .ireturn, 0, 0)]
def mb_M_cost : Nat → List mmO := fun b => match b with
  | 0 => mo_M_cost_0
  | _ => []
abbrev mo_M_costOf_0 : List mmO := [(0, .aload 0, 0, 0), (1, .iload 1, 0, 0), (2, .iload 2, 0, 0), (3, .invokevirtual 291, 1153, 3), (6, .aload 0, 0, 0), (7, .iconst (0), 0, 0), (8, .aload 0, 0, 0), (9, .getfield 281, 11, 33), (12, .invokevirtual 310, 1157, 3), (15, .ireturn, 0, 0)]
def mb_M_costOf : Nat → List mmO := fun b => match b with
  | 0 => mo_M_costOf_0
  | _ => []
abbrev mo_M_moves_0 : List mmO := [(0, .aload 0, 0, 0), (1, .iconst (0), 0, 0), (2, .putfield 72, 11, 0), (5, .iload 1, 0, 0), (6, .iload 2, 0, 0), (7, .invokestatic 241, 1135, 2), (10, .ifCond .ne 0, 15, 0), (13, .iconst (-1), 0, 0), (14, .ireturn, 0, 0)]
abbrev mo_M_moves_15 : List mmO := [(15, .aload 0, 0, 0), (16, .iload 1, 0, 0), (17, .iload 2, 0, 0), (18, .invokevirtual 313, 1158, 3), (21, .istore 4, 0, 0), (23, .iload 3, 0, 0), (24, .lookupswitch 0 #[(0, 60), (1, 65), (2, 70), (3, 73), (4, 78)], 118, 0)]
abbrev mo_M_moves_60 : List mmO := [(60, .aload 0, 0, 0), (61, .getfield 295, 11, 35), (64, .ireturn, 0, 0)]
abbrev mo_M_moves_65 : List mmO := [(65, .aload 0, 0, 0), (66, .getfield 298, 11, 36), (69, .ireturn, 0, 0)]
abbrev mo_M_moves_70 : List mmO := [(70, .iload 4, 0, 0), (72, .ireturn, 0, 0)]
abbrev mo_M_moves_73 : List mmO := [(73, .aload 0, 0, 0), (74, .getfield 301, 11, 37), (77, .ireturn, 0, 0)]
abbrev mo_M_moves_78 : List mmO := [(78, .iload 1, 0, 0), (79, .iconst (1), 0, 0), (80, .if_icmp .ne 0, 116, 0), (83, .iconst (3), 0, 0), (84, .iload 2, 0, 0), (85, .imul, 0, 0), (86, .aload 0, 0, 0), (87, .getfield 281, 11, 33), (90, .imul, 0, 0), (91, .iconst (2), 0, 0), (92, .aload 0, 0, 0), (93, .getfield 13, 11, 3), (96, .iload 2, 0, 0), (97, .iadd, 0, 0), (98, .iconst (1), 0, 0), (99, .isub, 0, 0), (100, .iload 2, 0, 0), (101, .idiv, 0, 0), (102, .iconst (1), 0, 0), (103, .iadd, 0, 0), (104, .imul, 0, 0), (105, .aload 0, 0, 0), (106, .getfield 13, 11, 3), (109, .iload 2, 0, 0), (110, .iadd, 0, 0), (111, .imul, 0, 0), (112, .iadd, 0, 0), (113, .goto 0, 117, 0)]
abbrev mo_M_moves_116 : List mmO := [(116, .iconst (-1), 0, 0), (117, .nop, 0, 0)]
abbrev mo_M_moves_117 : List mmO := [(117, .ireturn, 0, 0)]
abbrev mo_M_moves_118 : List mmO := [(118, .iconst (-1), 0, 0), (119, .ireturn, 0, 0)]
def mb_M_moves : Nat → List mmO := fun b => match b with
  | 0 => mo_M_moves_0
  | 15 => mo_M_moves_15
  | 60 => mo_M_moves_60
  | 65 => mo_M_moves_65
  | 70 => mo_M_moves_70
  | 73 => mo_M_moves_73
  | 78 => mo_M_moves_78
  | 116 => mo_M_moves_116
  | 117 => mo_M_moves_117
  | 118 => mo_M_moves_118
  | _ => []
abbrev mo_M_best_0 : List mmO := [(0, .aload 0, 0, 0), (1, .iconst (0), 0, 0), (2, .putfield 72, 11, 0), (5, .iload 1, 0, 0), (6, .i2l, 0, 0), (7, .bipush 0, 0, 0), (8, .bipush (2), 0, 0), (11, .invokestatic 89, 1102, 3), (14, .ifCond .eq 0, 27, 0), (17, .iload 2, 0, 0), (18, .i2l, 0, 0), (19, .bipush 0, 0, 0), (20, .bipush 1, 0, 0), (21, .invokestatic 89, 1102, 3), (24, .ifCond .ne 0, 29, 0), (27, .nop, 0, 0)]
abbrev mo_M_best_27 : List mmO := [(27, .iconst (-1), 0, 0), (28, .ireturn, 0, 0)]
abbrev mo_M_best_29 : List mmO := [(29, .iconst (1), 0, 0), (30, .istore 3, 0, 0), (31, .aload 0, 0, 0), (32, .iload 1, 0, 0), (33, .iconst (1), 0, 0), (34, .invokevirtual 313, 1158, 3), (37, .istore 4, 0, 0), (39, .iconst (2), 0, 0), (40, .istore 5, 0, 0), (42, .nop, 0, 0)]
abbrev mo_M_best_42 : List mmO := [(42, .iload 5, 0, 0), (44, .aload 0, 0, 0), (45, .getfield 13, 11, 3), (48, .if_icmp .gt 0, 96, 0), (51, .aload 0, 0, 0), (52, .iload 1, 0, 0), (53, .iload 5, 0, 0), (55, .invokevirtual 313, 1158, 3), (58, .istore 6, 0, 0), (60, .iload 6, 0, 0), (62, .iload 4, 0, 0), (64, .if_icmp .ge 0, 72, 0), (67, .iload 5, 0, 0), (69, .goto 0, 73, 0)]
abbrev mo_M_best_72 : List mmO := [(72, .iload 3, 0, 0), (73, .nop, 0, 0)]
abbrev mo_M_best_73 : List mmO := [(73, .istore 3, 0, 0), (74, .iload 6, 0, 0), (76, .iload 4, 0, 0), (78, .if_icmp .ge 0, 86, 0), (81, .iload 6, 0, 0), (83, .goto 0, 88, 0)]
abbrev mo_M_best_86 : List mmO := [(86, .iload 4, 0, 0), (88, .nop, 0, 0)]
abbrev mo_M_best_88 : List mmO := [(88, .istore 4, 0, 0), (90, .iinc 5 (1), 0, 0), (93, .goto 0, 42, 0)]
abbrev mo_M_best_96 : List mmO := [(96, .iload 2, 0, 0), (97, .ifCond .ne 0, 104, 0), (100, .iload 3, 0, 0), (101, .goto 0, 106, 0)]
abbrev mo_M_best_104 : List mmO := [(104, .iload 4, 0, 0), (106, .nop, 0, 0)]
abbrev mo_M_best_106 : List mmO := [(106, .ireturn, 0, 0)]
def mb_M_best : Nat → List mmO := fun b => match b with
  | 0 => mo_M_best_0
  | 27 => mo_M_best_27
  | 29 => mo_M_best_29
  | 42 => mo_M_best_42
  | 72 => mo_M_best_72
  | 73 => mo_M_best_73
  | 86 => mo_M_best_86
  | 88 => mo_M_best_88
  | 96 => mo_M_best_96
  | 104 => mo_M_best_104
  | 106 => mo_M_best_106
  | _ => []
abbrev mo_M_laysSplit_0 : List mmO := [(0, .iconst (0), 0, 0), (1, .istore 2, 0, 0), (2, .nop, 0, 0)]
abbrev mo_M_laysSplit_2 : List mmO := [(2, .iload 2, 0, 0), (3, .iload 1, 0, 0), (4, .if_icmp .gt 0, 159, 0), (7, .aload 0, 0, 0), (8, .getfield 281, 11, 33), (11, .istore 3, 0, 0), (12, .nop, 0, 0)]
abbrev mo_M_laysSplit_12 : List mmO := [(12, .iload 3, 0, 0), (13, .ifCond .lt 0, 153, 0), (16, .iload 2, 0, 0), (17, .ifCond .ne 0, 38, 0), (20, .iload 3, 0, 0), (21, .aload 0, 0, 0), (22, .getfield 281, 11, 33), (25, .if_icmp .ne 0, 32, 0), (28, .iconst (0), 0, 0), (29, .goto 0, 51, 0)]
abbrev mo_M_laysSplit_32 : List mmO := [(32, .iconst (1000000), 0, 0), (35, .goto 0, 51, 0)]
abbrev mo_M_laysSplit_38 : List mmO := [(38, .aload 0, 0, 0), (39, .getstatic 66, 11, 14), (42, .iconst (25), 0, 0), (44, .iload 2, 0, 0), (45, .iconst (1), 0, 0), (46, .isub, 0, 0), (47, .imul, 0, 0), (48, .iload 3, 0, 0), (49, .iadd, 0, 0), (50, .iaload, 0, 0), (51, .nop, 0, 0)]
abbrev mo_M_laysSplit_51 : List mmO := [(51, .istore 4, 0, 0), (53, .iload 3, 0, 0), (54, .iconst (1), 0, 0), (55, .iadd, 0, 0), (56, .istore 5, 0, 0), (58, .nop, 0, 0)]
abbrev mo_M_laysSplit_58 : List mmO := [(58, .iload 5, 0, 0), (60, .aload 0, 0, 0), (61, .getfield 281, 11, 33), (64, .if_icmp .gt 0, 134, 0), (67, .iload 2, 0, 0), (68, .ifCond .le 0, 134, 0), (71, .aload 0, 0, 0), (72, .iload 3, 0, 0), (73, .iload 5, 0, 0), (75, .invokevirtual 310, 1157, 3), (78, .istore 6, 0, 0), (80, .aload 0, 0, 0), (81, .getstatic 66, 11, 14), (84, .iconst (25), 0, 0), (86, .iload 2, 0, 0), (87, .iconst (1), 0, 0), (88, .isub, 0, 0), (89, .imul, 0, 0), (90, .iload 5, 0, 0), (92, .iadd, 0, 0), (93, .iaload, 0, 0), (94, .istore 7, 0, 0), (96, .iload 6, 0, 0), (98, .iload 7, 0, 0), (100, .if_icmp .le 0, 108, 0), (103, .iload 6, 0, 0), (105, .goto 0, 110, 0)]
abbrev mo_M_laysSplit_108 : List mmO := [(108, .iload 7, 0, 0), (110, .nop, 0, 0)]
abbrev mo_M_laysSplit_110 : List mmO := [(110, .istore 8, 0, 0), (112, .iload 8, 0, 0), (114, .iload 4, 0, 0), (116, .if_icmp .ge 0, 124, 0), (119, .iload 8, 0, 0), (121, .goto 0, 126, 0)]
abbrev mo_M_laysSplit_124 : List mmO := [(124, .iload 4, 0, 0), (126, .nop, 0, 0)]
abbrev mo_M_laysSplit_126 : List mmO := [(126, .istore 4, 0, 0), (128, .iinc 5 (1), 0, 0), (131, .goto 0, 58, 0)]
abbrev mo_M_laysSplit_134 : List mmO := [(134, .aload 0, 0, 0), (135, .getstatic 66, 11, 14), (138, .iconst (25), 0, 0), (140, .iload 2, 0, 0), (141, .imul, 0, 0), (142, .iload 3, 0, 0), (143, .iadd, 0, 0), (144, .iload 4, 0, 0), (146, .iastore, 0, 0), (147, .iinc 3 (-1), 0, 0), (150, .goto 0, 12, 0)]
abbrev mo_M_laysSplit_153 : List mmO := [(153, .iinc 2 (1), 0, 0), (156, .goto 0, 2, 0)]
abbrev mo_M_laysSplit_159 : List mmO := [(159, .return_, 0, 0)]
def mb_M_laysSplit : Nat → List mmO := fun b => match b with
  | 0 => mo_M_laysSplit_0
  | 2 => mo_M_laysSplit_2
  | 12 => mo_M_laysSplit_12
  | 32 => mo_M_laysSplit_32
  | 38 => mo_M_laysSplit_38
  | 51 => mo_M_laysSplit_51
  | 58 => mo_M_laysSplit_58
  | 108 => mo_M_laysSplit_108
  | 110 => mo_M_laysSplit_110
  | 124 => mo_M_laysSplit_124
  | 126 => mo_M_laysSplit_126
  | 134 => mo_M_laysSplit_134
  | 153 => mo_M_laysSplit_153
  | 159 => mo_M_laysSplit_159
  | _ => []
abbrev mo_M_share_0 : List mmO := [(0, .aload 0, 0, 0), (1, .getstatic 66, 11, 14), (4, .iconst (25), 0, 0), (6, .iload 1, 0, 0), (7, .imul, 0, 0), (8, .iaload, 0, 0), (9, .istore 3, 0, 0), (10, .iconst (0), 0, 0), (11, .istore 4, 0, 0), (13, .iconst (0), 0, 0), (14, .istore 5, 0, 0), (16, .iconst (1), 0, 0), (17, .istore 6, 0, 0), (19, .nop, 0, 0)]
abbrev mo_M_share_19 : List mmO := [(19, .iload 6, 0, 0), (21, .iload 2, 0, 0), (22, .if_icmp .gt 0, 103, 0), (25, .iconst (0), 0, 0), (26, .istore 5, 0, 0), (28, .iload 4, 0, 0), (30, .istore 7, 0, 0), (32, .nop, 0, 0)]
abbrev mo_M_share_32 : List mmO := [(32, .iload 7, 0, 0), (34, .aload 0, 0, 0), (35, .getfield 281, 11, 33), (38, .if_icmp .gt 0, 90, 0), (41, .aload 0, 0, 0), (42, .iload 4, 0, 0), (44, .iload 7, 0, 0), (46, .invokevirtual 310, 1157, 3), (49, .iload 3, 0, 0), (50, .if_icmp .gt 0, 80, 0), (53, .aload 0, 0, 0), (54, .getstatic 66, 11, 14), (57, .iconst (25), 0, 0), (59, .iload 1, 0, 0), (60, .iload 6, 0, 0), (62, .isub, 0, 0), (63, .imul, 0, 0), (64, .iload 7, 0, 0), (66, .iadd, 0, 0), (67, .iaload, 0, 0), (68, .iload 3, 0, 0), (69, .if_icmp .gt 0, 80, 0), (72, .iload 7, 0, 0), (74, .iload 4, 0, 0), (76, .isub, 0, 0), (77, .goto 0, 82, 0)]
abbrev mo_M_share_80 : List mmO := [(80, .iload 5, 0, 0), (82, .nop, 0, 0)]
abbrev mo_M_share_82 : List mmO := [(82, .istore 5, 0, 0), (84, .iinc 7 (1), 0, 0), (87, .goto 0, 32, 0)]
abbrev mo_M_share_90 : List mmO := [(90, .iload 4, 0, 0), (92, .iload 5, 0, 0), (94, .iadd, 0, 0), (95, .istore 4, 0, 0), (97, .iinc 6 (1), 0, 0), (100, .goto 0, 19, 0)]
abbrev mo_M_share_103 : List mmO := [(103, .iload 5, 0, 0), (105, .ireturn, 0, 0)]
def mb_M_share : Nat → List mmO := fun b => match b with
  | 0 => mo_M_share_0
  | 19 => mo_M_share_19
  | 32 => mo_M_share_32
  | 80 => mo_M_share_80
  | 82 => mo_M_share_82
  | 90 => mo_M_share_90
  | 103 => mo_M_share_103
  | _ => []
abbrev mo_M_split_0 : List mmO := [(0, .aload 0, 0, 0), (1, .iconst (0), 0, 0), (2, .putfield 72, 11, 0), (5, .iload 1, 0, 0), (6, .i2l, 0, 0), (7, .bipush 1, 0, 0), (8, .bipush (4), 0, 0), (11, .invokestatic 89, 1102, 3), (14, .ifCond .eq 0, 28, 0), (17, .iload 2, 0, 0), (18, .i2l, 0, 0), (19, .bipush 0, 0, 0), (20, .iload 1, 0, 0), (21, .i2l, 0, 0), (22, .invokestatic 89, 1102, 3), (25, .ifCond .ne 0, 30, 0), (28, .nop, 0, 0)]
abbrev mo_M_split_28 : List mmO := [(28, .iconst (-1), 0, 0), (29, .ireturn, 0, 0)]
abbrev mo_M_split_30 : List mmO := [(30, .aload 0, 0, 0), (31, .aload 0, 0, 0), (32, .getfield 33, 11, 11), (35, .aload 0, 0, 0), (36, .getfield 36, 11, 12), (39, .invokevirtual 291, 1153, 3), (42, .aload 0, 0, 0), (43, .iload 1, 0, 0), (44, .invokevirtual 319, 1161, 2), (47, .iload 2, 0, 0), (48, .ifCond .ne 0, 63, 0), (51, .aload 0, 0, 0), (52, .getstatic 66, 11, 14), (55, .iconst (25), 0, 0), (57, .iload 1, 0, 0), (58, .imul, 0, 0), (59, .iaload, 0, 0), (60, .goto 0, 69, 0)]
abbrev mo_M_split_63 : List mmO := [(63, .aload 0, 0, 0), (64, .iload 1, 0, 0), (65, .iload 2, 0, 0), (66, .invokevirtual 322, 1162, 3), (69, .nop, 0, 0)]
abbrev mo_M_split_69 : List mmO := [(69, .ireturn, 0, 0)]
def mb_M_split : Nat → List mmO := fun b => match b with
  | 0 => mo_M_split_0
  | 28 => mo_M_split_28
  | 30 => mo_M_split_30
  | 63 => mo_M_split_63
  | 69 => mo_M_split_69
  | _ => []
abbrev mo_M_saves_0 : List mmO := [(0, .aload 0, 0, 0), (1, .iconst (0), 0, 0), (2, .putfield 72, 11, 0), (5, .aload 0, 0, 0), (6, .iload 1, 0, 0), (7, .invokevirtual 264, 1127, 2), (10, .ifCond .ne 0, 17, 0), (13, .iconst (-100000), 0, 0), (16, .ireturn, 0, 0)]
abbrev mo_M_saves_17 : List mmO := [(17, .aload 0, 0, 0), (18, .aload 0, 0, 0), (19, .getfield 33, 11, 11), (22, .aload 0, 0, 0), (23, .getfield 36, 11, 12), (26, .invokevirtual 313, 1158, 3), (29, .istore 2, 0, 0), (30, .aload 0, 0, 0), (31, .iload 1, 0, 0), (32, .putfield 63, 11, 34), (35, .aload 0, 0, 0), (36, .aload 0, 0, 0), (37, .getfield 33, 11, 11), (40, .aload 0, 0, 0), (41, .getfield 36, 11, 12), (44, .invokevirtual 313, 1158, 3), (47, .istore 3, 0, 0), (48, .aload 0, 0, 0), (49, .iconst (-1), 0, 0), (50, .putfield 63, 11, 34), (53, .iload 2, 0, 0), (54, .iload 3, 0, 0), (55, .isub, 0, 0), (56, .ireturn, 0, 0)]
def mb_M_saves : Nat → List mmO := fun b => match b with
  | 0 => mo_M_saves_0
  | 17 => mo_M_saves_17
  | _ => []
abbrev mo_M_would_0 : List mmO := [(0, .aload 0, 0, 0), (1, .iconst (0), 0, 0), (2, .putfield 72, 11, 0), (5, .aload 0, 0, 0), (6, .iload 1, 0, 0), (7, .iload 2, 0, 0), (8, .iload 3, 0, 0), (9, .iload 4, 0, 0), (11, .invokevirtual 227, 1130, 5), (14, .ifCond .ne 0, 21, 0), (17, .iconst (-100000), 0, 0), (20, .ireturn, 0, 0)]
abbrev mo_M_would_21 : List mmO := [(21, .aload 0, 0, 0), (22, .aload 0, 0, 0), (23, .getfield 33, 11, 11), (26, .aload 0, 0, 0), (27, .getfield 36, 11, 12), (30, .invokevirtual 313, 1158, 3), (33, .istore 5, 0, 0), (35, .aload 0, 0, 0), (36, .iload 1, 0, 0), (37, .iload 2, 0, 0), (38, .iload 3, 0, 0), (39, .iload 4, 0, 0), (41, .invokevirtual 231, 1131, 5), (44, .aload 0, 0, 0), (45, .aload 0, 0, 0), (46, .getfield 33, 11, 11), (49, .aload 0, 0, 0), (50, .getfield 36, 11, 12), (53, .invokevirtual 313, 1158, 3), (56, .istore 6, 0, 0), (58, .aload 0, 0, 0), (59, .dup, 0, 0), (60, .getfield 193, 11, 8), (63, .iconst (1), 0, 0), (64, .isub, 0, 0), (65, .putfield 193, 11, 8), (68, .iload 6, 0, 0), (70, .iload 5, 0, 0), (72, .isub, 0, 0), (73, .ireturn, 0, 0)]
def mb_M_would : Nat → List mmO := fun b => match b with
  | 0 => mo_M_would_0
  | 21 => mo_M_would_21
  | _ => []
abbrev mo_M_moves__0 : List mmO := [(0, .aload 0, 0, 0), (1, .getstatic 27, 11, 5), (4, .iconst (4), 0, 0), (5, .iload 1, 0, 0), (6, .imul, 0, 0), (7, .iconst (1), 0, 0), (8, .iadd, 0, 0), (9, .iaload, 0, 0), (10, .istore 2, 0, 0), (11, .aload 0, 0, 0), (12, .getstatic 27, 11, 5), (15, .iconst (4), 0, 0), (16, .iload 1, 0, 0), (17, .imul, 0, 0), (18, .iconst (2), 0, 0), (19, .iadd, 0, 0), (20, .iaload, 0, 0), (21, .istore 3, 0, 0), (22, .aload 0, 0, 0), (23, .getstatic 27, 11, 5), (26, .iconst (4), 0, 0), (27, .iload 1, 0, 0), (28, .imul, 0, 0), (29, .iconst (3), 0, 0), (30, .iadd, 0, 0), (31, .iaload, 0, 0), (32, .istore 4, 0, 0), (34, .aload 0, 0, 0), (35, .getfield 326, 11, 45), (38, .iload 2, 0, 0), (39, .if_icmp .le 0, 64, 0), (42, .aload 0, 0, 0), (43, .dup, 0, 0), (44, .getfield 326, 11, 45), (47, .iconst (1), 0, 0), (48, .isub, 0, 0), (49, .putfield 326, 11, 45), (52, .aload 0, 0, 0), (53, .iconst (0), 0, 0), (54, .aload 0, 0, 0), (55, .getfield 326, 11, 45), (58, .invokevirtual 329, 1167, 3), (61, .goto 0, 218, 0)]
abbrev mo_M_moves__64 : List mmO := [(64, .aload 0, 0, 0), (65, .getfield 332, 11, 46), (68, .iload 3, 0, 0), (69, .if_icmp .ge 0, 94, 0), (72, .aload 0, 0, 0), (73, .dup, 0, 0), (74, .getfield 332, 11, 46), (77, .iconst (1), 0, 0), (78, .iadd, 0, 0), (79, .putfield 332, 11, 46), (82, .aload 0, 0, 0), (83, .iconst (1), 0, 0), (84, .aload 0, 0, 0), (85, .getfield 332, 11, 46), (88, .invokevirtual 329, 1167, 3), (91, .goto 0, 218, 0)]
abbrev mo_M_moves__94 : List mmO := [(94, .aload 0, 0, 0), (95, .getfield 326, 11, 45), (98, .iload 2, 0, 0), (99, .if_icmp .ge 0, 124, 0), (102, .aload 0, 0, 0), (103, .iconst (2), 0, 0), (104, .aload 0, 0, 0), (105, .getfield 326, 11, 45), (108, .invokevirtual 329, 1167, 3), (111, .aload 0, 0, 0), (112, .dup, 0, 0), (113, .getfield 326, 11, 45), (116, .iconst (1), 0, 0), (117, .iadd, 0, 0), (118, .putfield 326, 11, 45), (121, .goto 0, 218, 0)]
abbrev mo_M_moves__124 : List mmO := [(124, .aload 0, 0, 0), (125, .getfield 332, 11, 46), (128, .iload 3, 0, 0), (129, .if_icmp .le 0, 154, 0), (132, .aload 0, 0, 0), (133, .iconst (3), 0, 0), (134, .aload 0, 0, 0), (135, .getfield 332, 11, 46), (138, .invokevirtual 329, 1167, 3), (141, .aload 0, 0, 0), (142, .dup, 0, 0), (143, .getfield 332, 11, 46), (146, .iconst (1), 0, 0), (147, .isub, 0, 0), (148, .putfield 332, 11, 46), (151, .goto 0, 218, 0)]
abbrev mo_M_moves__154 : List mmO := [(154, .aload 0, 0, 0), (155, .getfield 335, 11, 47), (158, .iload 4, 0, 0), (160, .if_icmp .ge 0, 185, 0), (163, .aload 0, 0, 0), (164, .iconst (4), 0, 0), (165, .aload 0, 0, 0), (166, .getfield 335, 11, 47), (169, .invokevirtual 329, 1167, 3), (172, .aload 0, 0, 0), (173, .dup, 0, 0), (174, .getfield 335, 11, 47), (177, .iconst (1), 0, 0), (178, .iadd, 0, 0), (179, .putfield 335, 11, 47), (182, .goto 0, 218, 0)]
abbrev mo_M_moves__185 : List mmO := [(185, .aload 0, 0, 0), (186, .getfield 335, 11, 47), (189, .iload 4, 0, 0), (191, .if_icmp .le 0, 216, 0), (194, .aload 0, 0, 0), (195, .dup, 0, 0), (196, .getfield 335, 11, 47), (199, .iconst (1), 0, 0), (200, .isub, 0, 0), (201, .putfield 335, 11, 47), (204, .aload 0, 0, 0), (205, .iconst (5), 0, 0), (206, .aload 0, 0, 0), (207, .getfield 335, 11, 47), (210, .invokevirtual 329, 1167, 3), (213, .goto 0, 218, 0)]
abbrev mo_M_moves__216 : List mmO := [(216, .iconst (0), 0, 0), (217, .freturn, 0, 0)]
abbrev mo_M_moves__218 : List mmO := [(218, .iconst (1), 0, 0), (219, .freturn, 0, 0)]
def mb_M_moves_ : Nat → List mmO := fun b => match b with
  | 0 => mo_M_moves__0
  | 64 => mo_M_moves__64
  | 94 => mo_M_moves__94
  | 124 => mo_M_moves__124
  | 154 => mo_M_moves__154
  | 185 => mo_M_moves__185
  | 216 => mo_M_moves__216
  | 218 => mo_M_moves__218
  | _ => []
abbrev mo_M_tells_0 : List mmO := [(0, .aload 0, 0, 0), (1, .iload 1, 0, 0), (2, .putfield 338, 11, 48), (5, .aload 0, 0, 0), (6, .iload 2, 0, 0), (7, .putfield 341, 11, 49), (10, .return_, 0, 0)]
def mb_M_tells : Nat → List mmO := fun b => match b with
  | 0 => mo_M_tells_0
  | _ => []
abbrev mo_M_move_0 : List mmO := [(0, .aload 0, 0, 0), (1, .iconst (0), 0, 0), (2, .putfield 72, 11, 0), (5, .iload 1, 0, 0), (6, .ifCond .lt 0, 21, 0), (9, .iload 2, 0, 0), (10, .i2l, 0, 0), (11, .bipush 0, 0, 0), (12, .bipush (2), 0, 0), (15, .invokestatic 89, 1102, 3), (18, .ifCond .ne 0, 23, 0), (21, .nop, 0, 0)]
abbrev mo_M_move_21 : List mmO := [(21, .iconst (-1), 0, 0), (22, .ireturn, 0, 0)]
abbrev mo_M_move_23 : List mmO := [(23, .aload 0, 0, 0), (24, .aload 0, 0, 0), (25, .getfield 33, 11, 11), (28, .aload 0, 0, 0), (29, .getfield 36, 11, 12), (32, .invokevirtual 291, 1153, 3), (35, .aload 0, 0, 0), (36, .iconst (0), 0, 0), (37, .putfield 326, 11, 45), (40, .aload 0, 0, 0), (41, .iconst (-1), 0, 0), (42, .putfield 332, 11, 46), (45, .aload 0, 0, 0), (46, .iconst (0), 0, 0), (47, .putfield 335, 11, 47), (50, .iconst (0), 0, 0), (51, .istore 3, 0, 0), (52, .iconst (0), 0, 0), (53, .istore 4, 0, 0), (55, .nop, 0, 0)]
abbrev mo_M_move_55 : List mmO := [(55, .iload 4, 0, 0), (57, .aload 0, 0, 0), (58, .getfield 281, 11, 33), (61, .if_icmp .ge 0, 126, 0), (64, .nop, 0, 0)]
abbrev mo_M_move_64 : List mmO := [(64, .aload 0, 0, 0), (65, .aload 0, 0, 0), (66, .getstatic 60, 11, 13), (69, .iload 4, 0, 0), (71, .iaload, 0, 0), (72, .invokevirtual 344, 1166, 2), (75, .ifCond .eq 0, 120, 0), (78, .iload 3, 0, 0), (79, .iload 1, 0, 0), (80, .if_icmp .ne 0, 114, 0), (83, .iload 2, 0, 0), (84, .ifCond .ne 0, 94, 0), (87, .aload 0, 0, 0), (88, .getfield 338, 11, 48), (91, .goto 0, 113, 0)]
abbrev mo_M_move_94 : List mmO := [(94, .iload 2, 0, 0), (95, .iconst (1), 0, 0), (96, .if_icmp .ne 0, 106, 0), (99, .aload 0, 0, 0), (100, .getfield 341, 11, 49), (103, .goto 0, 113, 0)]
abbrev mo_M_move_106 : List mmO := [(106, .aload 0, 0, 0), (107, .getstatic 60, 11, 13), (110, .iload 4, 0, 0), (112, .iaload, 0, 0), (113, .nop, 0, 0)]
abbrev mo_M_move_113 : List mmO := [(113, .ireturn, 0, 0)]
abbrev mo_M_move_114 : List mmO := [(114, .iinc 3 (1), 0, 0), (117, .goto 0, 64, 0)]
abbrev mo_M_move_120 : List mmO := [(120, .iinc 4 (1), 0, 0), (123, .goto 0, 55, 0)]
abbrev mo_M_move_126 : List mmO := [(126, .iconst (-1), 0, 0), (127, .ireturn, 0, 0)]
def mb_M_move : Nat → List mmO := fun b => match b with
  | 0 => mo_M_move_0
  | 21 => mo_M_move_21
  | 23 => mo_M_move_23
  | 55 => mo_M_move_55
  | 64 => mo_M_move_64
  | 94 => mo_M_move_94
  | 106 => mo_M_move_106
  | 113 => mo_M_move_113
  | 114 => mo_M_move_114
  | 120 => mo_M_move_120
  | 126 => mo_M_move_126
  | _ => []
abbrev mo_M_walk_0 : List mmO := [(0, .aload 0, 0, 0), (1, .iconst (0), 0, 0), (2, .putfield 72, 11, 0), (5, .iload 1, 0, 0), (6, .i2l, 0, 0), (7, .bipush 1, 0, 0), (8, .bipush (400), 0, 0), (11, .invokestatic 89, 1102, 3), (14, .ifCond .ne 0, 19, 0), (17, .iconst (-1), 0, 0), (18, .ireturn, 0, 0)]
abbrev mo_M_walk_19 : List mmO := [(19, .aload 0, 0, 0), (20, .aload 0, 0, 0), (21, .getfield 33, 11, 11), (24, .aload 0, 0, 0), (25, .getfield 36, 11, 12), (28, .invokevirtual 291, 1153, 3), (31, .aload 0, 0, 0), (32, .getfield 202, 11, 42), (35, .aload 0, 0, 0), (36, .getfield 281, 11, 33), (39, .if_icmp .ge 0, 49, 0), (42, .aload 0, 0, 0), (43, .getfield 202, 11, 42), (46, .goto 0, 53, 0)]
abbrev mo_M_walk_49 : List mmO := [(49, .aload 0, 0, 0), (50, .getfield 281, 11, 33), (53, .nop, 0, 0)]
abbrev mo_M_walk_53 : List mmO := [(53, .istore 2, 0, 0), (54, .iconst (0), 0, 0), (55, .istore 3, 0, 0), (56, .aload 0, 0, 0), (57, .aload 0, 0, 0), (58, .getfield 196, 11, 39), (61, .putfield 326, 11, 45), (64, .aload 0, 0, 0), (65, .aload 0, 0, 0), (66, .getfield 69, 11, 40), (69, .putfield 332, 11, 46), (72, .aload 0, 0, 0), (73, .aload 0, 0, 0), (74, .getfield 199, 11, 41), (77, .putfield 335, 11, 47), (80, .iconst (1), 0, 0), (81, .istore 4, 0, 0), (83, .nop, 0, 0)]
abbrev mo_M_walk_83 : List mmO := [(83, .iload 4, 0, 0), (85, .ifCond .eq 0, 253, 0), (88, .iload 2, 0, 0), (89, .aload 0, 0, 0), (90, .getfield 281, 11, 33), (93, .if_icmp .ge 0, 253, 0), (96, .aload 0, 0, 0), (97, .getfield 326, 11, 45), (100, .aload 0, 0, 0), (101, .getstatic 27, 11, 5), (104, .iconst (4), 0, 0), (105, .aload 0, 0, 0), (106, .getstatic 60, 11, 13), (109, .iload 2, 0, 0), (110, .iaload, 0, 0), (111, .imul, 0, 0), (112, .iconst (1), 0, 0), (113, .iadd, 0, 0), (114, .iaload, 0, 0), (115, .if_icmp .ne 0, 166, 0), (118, .aload 0, 0, 0), (119, .getfield 332, 11, 46), (122, .aload 0, 0, 0), (123, .getstatic 27, 11, 5), (126, .iconst (4), 0, 0), (127, .aload 0, 0, 0), (128, .getstatic 60, 11, 13), (131, .iload 2, 0, 0), (132, .iaload, 0, 0), (133, .imul, 0, 0), (134, .iconst (2), 0, 0), (135, .iadd, 0, 0), (136, .iaload, 0, 0), (137, .if_icmp .ne 0, 166, 0), (140, .aload 0, 0, 0), (141, .getfield 335, 11, 47), (144, .aload 0, 0, 0), (145, .getstatic 27, 11, 5), (148, .iconst (4), 0, 0), (149, .aload 0, 0, 0), (150, .getstatic 60, 11, 13), (153, .iload 2, 0, 0), (154, .iaload, 0, 0), (155, .imul, 0, 0), (156, .iconst (3), 0, 0), (157, .iadd, 0, 0), (158, .iaload, 0, 0), (159, .if_icmp .ne 0, 166, 0), (162, .iconst (1), 0, 0), (163, .goto 0, 167, 0)]
abbrev mo_M_walk_166 : List mmO := [(166, .iconst (0), 0, 0), (167, .nop, 0, 0)]
abbrev mo_M_walk_167 : List mmO := [(167, .istore 5, 0, 0), (169, .iload 5, 0, 0), (171, .ifCond .eq 0, 180, 0), (174, .iinc 2 (1), 0, 0), (177, .goto 0, 250, 0)]
abbrev mo_M_walk_180 : List mmO := [(180, .iload 3, 0, 0), (181, .iload 1, 0, 0), (182, .if_icmp .ge 0, 247, 0), (185, .aload 0, 0, 0), (186, .aload 0, 0, 0), (187, .getstatic 60, 11, 13), (190, .iload 2, 0, 0), (191, .iaload, 0, 0), (192, .invokevirtual 344, 1166, 2), (195, .istore 4, 0, 0), (197, .iinc 3 (1), 0, 0), (200, .aload 0, 0, 0), (201, .dup, 0, 0), (202, .getfield 208, 11, 44), (205, .aload 0, 0, 0), (206, .getfield 338, 11, 48), (209, .iconst (3), 0, 0), (210, .if_icmp .le 0, 217, 0), (213, .iconst (1), 0, 0), (214, .goto 0, 218, 0)]
abbrev mo_M_walk_217 : List mmO := [(217, .iconst (0), 0, 0), (218, .nop, 0, 0)]
abbrev mo_M_walk_218 : List mmO := [(218, .iadd, 0, 0), (219, .putfield 208, 11, 44), (222, .aload 0, 0, 0), (223, .dup, 0, 0), (224, .getfield 205, 11, 43), (227, .aload 0, 0, 0), (228, .getfield 338, 11, 48), (231, .iconst (4), 0, 0), (232, .if_icmp .ge 0, 239, 0), (235, .iconst (1), 0, 0), (236, .goto 0, 240, 0)]
abbrev mo_M_walk_239 : List mmO := [(239, .iconst (0), 0, 0), (240, .nop, 0, 0)]
abbrev mo_M_walk_240 : List mmO := [(240, .iadd, 0, 0), (241, .putfield 205, 11, 43), (244, .goto 0, 250, 0)]
abbrev mo_M_walk_247 : List mmO := [(247, .iconst (0), 0, 0), (248, .istore 4, 0, 0), (250, .nop, 0, 0)]
abbrev mo_M_walk_250 : List mmO := [(250, .goto 0, 83, 0)]
abbrev mo_M_walk_253 : List mmO := [(253, .aload 0, 0, 0), (254, .iload 2, 0, 0), (255, .putfield 202, 11, 42), (258, .aload 0, 0, 0), (259, .aload 0, 0, 0), (260, .getfield 326, 11, 45), (263, .putfield 196, 11, 39), (266, .aload 0, 0, 0), (267, .aload 0, 0, 0), (268, .getfield 332, 11, 46), (271, .putfield 69, 11, 40), (274, .aload 0, 0, 0), (275, .aload 0, 0, 0), (276, .getfield 335, 11, 47), (279, .putfield 199, 11, 41), (282, .iload 3, 0, 0), (283, .ireturn, 0, 0)]
def mb_M_walk : Nat → List mmO := fun b => match b with
  | 0 => mo_M_walk_0
  | 19 => mo_M_walk_19
  | 49 => mo_M_walk_49
  | 53 => mo_M_walk_53
  | 83 => mo_M_walk_83
  | 166 => mo_M_walk_166
  | 167 => mo_M_walk_167
  | 180 => mo_M_walk_180
  | 217 => mo_M_walk_217
  | 218 => mo_M_walk_218
  | 239 => mo_M_walk_239
  | 240 => mo_M_walk_240
  | 247 => mo_M_walk_247
  | 250 => mo_M_walk_250
  | 253 => mo_M_walk_253
  | _ => []
abbrev mo_M_home_0 : List mmO := [(0, .aload 0, 0, 0), (1, .iconst (0), 0, 0), (2, .putfield 72, 11, 0), (5, .aload 0, 0, 0), (6, .getfield 69, 11, 40), (9, .aload 0, 0, 0), (10, .getfield 196, 11, 39), (13, .isub, 0, 0), (14, .iconst (1), 0, 0), (15, .iadd, 0, 0), (16, .iconst (2), 0, 0), (17, .aload 0, 0, 0), (18, .getfield 196, 11, 39), (21, .imul, 0, 0), (22, .iadd, 0, 0), (23, .istore 1, 0, 0), (24, .aload 0, 0, 0), (25, .getfield 199, 11, 41), (28, .istore 2, 0, 0), (29, .aload 0, 0, 0), (30, .dup, 0, 0), (31, .getfield 205, 11, 43), (34, .iload 1, 0, 0), (35, .iadd, 0, 0), (36, .putfield 205, 11, 43), (39, .aload 0, 0, 0), (40, .dup, 0, 0), (41, .getfield 208, 11, 44), (44, .iload 2, 0, 0), (45, .iadd, 0, 0), (46, .putfield 208, 11, 44), (49, .aload 0, 0, 0), (50, .iconst (0), 0, 0), (51, .putfield 196, 11, 39), (54, .aload 0, 0, 0), (55, .iconst (-1), 0, 0), (56, .putfield 69, 11, 40), (59, .aload 0, 0, 0), (60, .iconst (0), 0, 0), (61, .putfield 199, 11, 41), (64, .aload 0, 0, 0), (65, .iconst (0), 0, 0), (66, .putfield 202, 11, 42), (69, .iload 1, 0, 0), (70, .iload 2, 0, 0), (71, .iadd, 0, 0), (72, .ireturn, 0, 0)]
def mb_M_home : Nat → List mmO := fun b => match b with
  | 0 => mo_M_home_0
  | _ => []
abbrev mo_M_laysWindow_0 : List mmO := [(0, .aload 0, 0, 0), (1, .aload 0, 0, 0), (2, .getfield 196, 11, 39), (5, .aload 0, 0, 0), (6, .getfield 69, 11, 40), (9, .aload 0, 0, 0), (10, .getfield 199, 11, 41), (13, .invokevirtual 256, 1140, 4), (16, .return_, 0, 0)]
def mb_M_laysWindow : Nat → List mmO := fun b => match b with
  | 0 => mo_M_laysWindow_0
  | _ => []
abbrev mo_M_window_0 : List mmO := [(0, .aload 0, 0, 0), (1, .iconst (0), 0, 0), (2, .putfield 72, 11, 0), (5, .aload 0, 0, 0), (6, .aload 0, 0, 0), (7, .getfield 33, 11, 11), (10, .aload 0, 0, 0), (11, .getfield 36, 11, 12), (14, .invokevirtual 291, 1153, 3), (17, .aload 0, 0, 0), (18, .getfield 202, 11, 42), (21, .aload 0, 0, 0), (22, .getfield 281, 11, 33), (25, .if_icmp .ge 0, 35, 0), (28, .aload 0, 0, 0), (29, .getfield 202, 11, 42), (32, .goto 0, 39, 0)]
abbrev mo_M_window_35 : List mmO := [(35, .aload 0, 0, 0), (36, .getfield 281, 11, 33), (39, .nop, 0, 0)]
abbrev mo_M_window_39 : List mmO := [(39, .istore 2, 0, 0), (40, .iload 1, 0, 0), (41, .lookupswitch 0 #[(0, 88), (1, 93), (2, 98), (3, 103), (4, 105), (5, 124), (6, 129), (7, 134)], 145, 0)]
abbrev mo_M_window_88 : List mmO := [(88, .aload 0, 0, 0), (89, .getfield 196, 11, 39), (92, .ireturn, 0, 0)]
abbrev mo_M_window_93 : List mmO := [(93, .aload 0, 0, 0), (94, .getfield 69, 11, 40), (97, .ireturn, 0, 0)]
abbrev mo_M_window_98 : List mmO := [(98, .aload 0, 0, 0), (99, .getfield 199, 11, 41), (102, .ireturn, 0, 0)]
abbrev mo_M_window_103 : List mmO := [(103, .iload 2, 0, 0), (104, .ireturn, 0, 0)]
abbrev mo_M_window_105 : List mmO := [(105, .iload 2, 0, 0), (106, .aload 0, 0, 0), (107, .getfield 281, 11, 33), (110, .if_icmp .ge 0, 122, 0), (113, .aload 0, 0, 0), (114, .getstatic 60, 11, 13), (117, .iload 2, 0, 0), (118, .iaload, 0, 0), (119, .goto 0, 123, 0)]
abbrev mo_M_window_122 : List mmO := [(122, .iconst (-1), 0, 0), (123, .nop, 0, 0)]
abbrev mo_M_window_123 : List mmO := [(123, .ireturn, 0, 0)]
abbrev mo_M_window_124 : List mmO := [(124, .aload 0, 0, 0), (125, .getfield 205, 11, 43), (128, .ireturn, 0, 0)]
abbrev mo_M_window_129 : List mmO := [(129, .aload 0, 0, 0), (130, .getfield 208, 11, 44), (133, .ireturn, 0, 0)]
abbrev mo_M_window_134 : List mmO := [(134, .aload 0, 0, 0), (135, .invokevirtual 349, 1171, 1), (138, .aload 0, 0, 0), (139, .iconst (1), 0, 0), (140, .invokevirtual 260, 1143, 2), (143, .l2i, 0, 0), (144, .ireturn, 0, 0)]
abbrev mo_M_window_145 : List mmO := [(145, .iconst (-1), 0, 0), (146, .ireturn, 0, 0)]
def mb_M_window : Nat → List mmO := fun b => match b with
  | 0 => mo_M_window_0
  | 35 => mo_M_window_35
  | 39 => mo_M_window_39
  | 88 => mo_M_window_88
  | 93 => mo_M_window_93
  | 98 => mo_M_window_98
  | 103 => mo_M_window_103
  | 105 => mo_M_window_105
  | 122 => mo_M_window_122
  | 123 => mo_M_window_123
  | 124 => mo_M_window_124
  | 129 => mo_M_window_129
  | 134 => mo_M_window_134
  | 145 => mo_M_window_145
  | _ => []
abbrev mo_M_holds_0 : List mmO := [(0, .aload 0, 0, 0), (1, .iconst (0), 0, 0), (2, .putfield 72, 11, 0), (5, .iload 1, 0, 0), (6, .i2l, 0, 0), (7, .bipush 0, 0, 0), (8, .bipush (63), 0, 0), (11, .invokestatic 89, 1102, 3), (14, .ifCond .ne 0, 19, 0), (17, .iconst (-1), 0, 0), (18, .ireturn, 0, 0)]
abbrev mo_M_holds_19 : List mmO := [(19, .aload 0, 0, 0), (20, .invokevirtual 349, 1171, 1), (23, .aload 0, 0, 0), (24, .getstatic 54, 11, 11), (27, .iload 1, 0, 0), (28, .iaload, 0, 0), (29, .ireturn, 0, 0)]
def mb_M_holds : Nat → List mmO := fun b => match b with
  | 0 => mo_M_holds_0
  | 19 => mo_M_holds_19
  | _ => []
abbrev mo_M_tells__0 : List mmO := [(0, .aload 0, 0, 0), (1, .iconst (0), 0, 0), (2, .putfield 72, 11, 0), (5, .iload 1, 0, 0), (6, .i2l, 0, 0), (7, .bipush 0, 0, 0), (8, .bipush (7), 0, 0), (11, .invokestatic 89, 1102, 3), (14, .ifCond .eq 0, 24, 0), (17, .iload 1, 0, 0), (18, .invokestatic 284, 1150, 1), (21, .ifCond .ne 0, 28, 0), (24, .nop, 0, 0)]
abbrev mo_M_tells__24 : List mmO := [(24, .bipush (-1), 0, 0), (27, .lreturn, 0, 0)]
abbrev mo_M_tells__28 : List mmO := [(28, .aload 0, 0, 0), (29, .invokevirtual 349, 1171, 1), (32, .aload 0, 0, 0), (33, .iload 1, 0, 0), (34, .invokevirtual 260, 1143, 2), (37, .lreturn, 0, 0)]
def mb_M_tells_ : Nat → List mmO := fun b => match b with
  | 0 => mo_M_tells__0
  | 24 => mo_M_tells__24
  | 28 => mo_M_tells__28
  | _ => []
abbrev mo_M_isUndone_0 : List mmO := [(0, .aload 0, 0, 0), (1, .getstatic 27, 11, 5), (4, .iconst (4), 0, 0), (5, .iload 1, 0, 0), (6, .imul, 0, 0), (7, .iaload, 0, 0), (8, .invokestatic 284, 1150, 1), (11, .ifCond .ne 0, 18, 0), (14, .iconst (1), 0, 0), (15, .goto 0, 19, 0)]
abbrev mo_M_isUndone_18 : List mmO := [(18, .iconst (0), 0, 0), (19, .nop, 0, 0)]
abbrev mo_M_isUndone_19 : List mmO := [(19, .freturn, 0, 0)]
def mb_M_isUndone : Nat → List mmO := fun b => match b with
  | 0 => mo_M_isUndone_0
  | 18 => mo_M_isUndone_18
  | 19 => mo_M_isUndone_19
  | _ => []
abbrev mo_M_undoneWeight_0 : List mmO := [(0, .aload 0, 0, 0), (1, .getstatic 27, 11, 5), (4, .iconst (4), 0, 0), (5, .iload 1, 0, 0), (6, .imul, 0, 0), (7, .iconst (3), 0, 0), (8, .iadd, 0, 0), (9, .iaload, 0, 0), (10, .i2l, 0, 0), (11, .bipush (64), 0, 0), (14, .lmul, 0, 0), (15, .aload 0, 0, 0), (16, .getstatic 27, 11, 5), (19, .iconst (4), 0, 0), (20, .iload 1, 0, 0), (21, .imul, 0, 0), (22, .iconst (1), 0, 0), (23, .iadd, 0, 0), (24, .iaload, 0, 0), (25, .iload 2, 0, 0), (26, .idiv, 0, 0), (27, .i2l, 0, 0), (28, .ladd, 0, 0), (29, .bipush (64), 0, 0), (32, .lmul, 0, 0), (33, .aload 0, 0, 0), (34, .getstatic 27, 11, 5), (37, .iconst (4), 0, 0), (38, .iload 1, 0, 0), (39, .imul, 0, 0), (40, .iconst (2), 0, 0), (41, .iadd, 0, 0), (42, .iaload, 0, 0), (43, .i2l, 0, 0), (44, .ladd, 0, 0), (45, .bipush (64), 0, 0), (48, .lmul, 0, 0), (49, .iload 1, 0, 0), (50, .i2l, 0, 0), (51, .ladd, 0, 0), (52, .lreturn, 0, 0)]
def mb_M_undoneWeight : Nat → List mmO := fun b => match b with
  | 0 => mo_M_undoneWeight_0
  | _ => []
abbrev mo_M_laysUndone_0 : List mmO := [(0, .aload 0, 0, 0), (1, .iconst (0), 0, 0), (2, .putfield 281, 11, 33), (5, .bipush (-1), 0, 0), (8, .lstore 2, 0, 0), (9, .iconst (0), 0, 0), (10, .istore 4, 0, 0), (12, .nop, 0, 0)]
abbrev mo_M_laysUndone_12 : List mmO := [(12, .iload 4, 0, 0), (14, .ifCond .lt 0, 140, 0), (17, .iconst (-1), 0, 0), (18, .istore 4, 0, 0), (20, .iconst (0), 0, 0), (21, .istore 5, 0, 0), (23, .nop, 0, 0)]
abbrev mo_M_laysUndone_23 : List mmO := [(23, .iload 5, 0, 0), (25, .aload 0, 0, 0), (26, .getfield 193, 11, 8), (29, .if_icmp .ge 0, 103, 0), (32, .aload 0, 0, 0), (33, .iload 5, 0, 0), (35, .invokevirtual 352, 1175, 2), (38, .ifCond .eq 0, 57, 0), (41, .aload 0, 0, 0), (42, .iload 5, 0, 0), (44, .iload 1, 0, 0), (45, .invokevirtual 355, 1176, 3), (48, .lload 2, 0, 0), (49, .lcmp, 0, 0), (50, .ifCond .le 0, 57, 0), (53, .iconst (1), 0, 0), (54, .goto 0, 58, 0)]
abbrev mo_M_laysUndone_57 : List mmO := [(57, .iconst (0), 0, 0), (58, .nop, 0, 0)]
abbrev mo_M_laysUndone_58 : List mmO := [(58, .istore 6, 0, 0), (60, .iload 6, 0, 0), (62, .ifCond .eq 0, 93, 0), (65, .iload 4, 0, 0), (67, .ifCond .lt 0, 88, 0), (70, .aload 0, 0, 0), (71, .iload 5, 0, 0), (73, .iload 1, 0, 0), (74, .invokevirtual 355, 1176, 3), (77, .aload 0, 0, 0), (78, .iload 4, 0, 0), (80, .iload 1, 0, 0), (81, .invokevirtual 355, 1176, 3), (84, .lcmp, 0, 0), (85, .ifCond .ge 0, 93, 0), (88, .nop, 0, 0)]
abbrev mo_M_laysUndone_88 : List mmO := [(88, .iload 5, 0, 0), (90, .goto 0, 95, 0)]
abbrev mo_M_laysUndone_93 : List mmO := [(93, .iload 4, 0, 0), (95, .nop, 0, 0)]
abbrev mo_M_laysUndone_95 : List mmO := [(95, .istore 4, 0, 0), (97, .iinc 5 (1), 0, 0), (100, .goto 0, 23, 0)]
abbrev mo_M_laysUndone_103 : List mmO := [(103, .iload 4, 0, 0), (105, .ifCond .lt 0, 12, 0), (108, .aload 0, 0, 0), (109, .iload 4, 0, 0), (111, .iload 1, 0, 0), (112, .invokevirtual 355, 1176, 3), (115, .lstore 2, 0, 0), (116, .aload 0, 0, 0), (117, .getstatic 60, 11, 13), (120, .aload 0, 0, 0), (121, .getfield 281, 11, 33), (124, .iload 4, 0, 0), (126, .iastore, 0, 0), (127, .aload 0, 0, 0), (128, .dup, 0, 0), (129, .getfield 281, 11, 33), (132, .iconst (1), 0, 0), (133, .iadd, 0, 0), (134, .putfield 281, 11, 33), (137, .goto 0, 12, 0)]
abbrev mo_M_laysUndone_140 : List mmO := [(140, .return_, 0, 0)]
def mb_M_laysUndone : Nat → List mmO := fun b => match b with
  | 0 => mo_M_laysUndone_0
  | 12 => mo_M_laysUndone_12
  | 23 => mo_M_laysUndone_23
  | 57 => mo_M_laysUndone_57
  | 58 => mo_M_laysUndone_58
  | 88 => mo_M_laysUndone_88
  | 93 => mo_M_laysUndone_93
  | 95 => mo_M_laysUndone_95
  | 103 => mo_M_laysUndone_103
  | 140 => mo_M_laysUndone_140
  | _ => []
abbrev mo_M_undone_0 : List mmO := [(0, .aload 0, 0, 0), (1, .iconst (0), 0, 0), (2, .putfield 72, 11, 0), (5, .iload 1, 0, 0), (6, .i2l, 0, 0), (7, .bipush 1, 0, 0), (8, .bipush (60), 0, 0), (11, .invokestatic 89, 1102, 3), (14, .ifCond .eq 0, 22, 0), (17, .iload 2, 0, 0), (18, .iconst (-1), 0, 0), (19, .if_icmp .ge 0, 24, 0), (22, .nop, 0, 0)]
abbrev mo_M_undone_22 : List mmO := [(22, .iconst (-1), 0, 0), (23, .ireturn, 0, 0)]
abbrev mo_M_undone_24 : List mmO := [(24, .aload 0, 0, 0), (25, .iload 1, 0, 0), (26, .invokevirtual 359, 1177, 2), (29, .iload 2, 0, 0), (30, .iconst (-1), 0, 0), (31, .if_icmp .ne 0, 41, 0), (34, .aload 0, 0, 0), (35, .getfield 281, 11, 33), (38, .goto 0, 59, 0)]
abbrev mo_M_undone_41 : List mmO := [(41, .iload 2, 0, 0), (42, .aload 0, 0, 0), (43, .getfield 281, 11, 33), (46, .if_icmp .ge 0, 58, 0), (49, .aload 0, 0, 0), (50, .getstatic 60, 11, 13), (53, .iload 2, 0, 0), (54, .iaload, 0, 0), (55, .goto 0, 59, 0)]
abbrev mo_M_undone_58 : List mmO := [(58, .iconst (-1), 0, 0), (59, .nop, 0, 0)]
abbrev mo_M_undone_59 : List mmO := [(59, .ireturn, 0, 0)]
def mb_M_undone : Nat → List mmO := fun b => match b with
  | 0 => mo_M_undone_0
  | 22 => mo_M_undone_22
  | 24 => mo_M_undone_24
  | 41 => mo_M_undone_41
  | 58 => mo_M_undone_58
  | 59 => mo_M_undone_59
  | _ => []
abbrev mo_M_adds_0 : List mmO := [(0, .aload 0, 0, 0), (1, .iconst (0), 0, 0), (2, .putfield 72, 11, 0), (5, .iload 1, 0, 0), (6, .i2l, 0, 0), (7, .bipush 1, 0, 0), (8, .bipush (60), 0, 0), (11, .invokestatic 89, 1102, 3), (14, .ifCond .eq 0, 29, 0), (17, .iload 2, 0, 0), (18, .i2l, 0, 0), (19, .bipush 0, 0, 0), (20, .bipush (2), 0, 0), (23, .invokestatic 89, 1102, 3), (26, .ifCond .ne 0, 31, 0), (29, .nop, 0, 0)]
abbrev mo_M_adds_29 : List mmO := [(29, .iconst (-1), 0, 0), (30, .ireturn, 0, 0)]
abbrev mo_M_adds_31 : List mmO := [(31, .aload 0, 0, 0), (32, .iload 1, 0, 0), (33, .invokevirtual 359, 1177, 2), (36, .iconst (0), 0, 0), (37, .istore 3, 0, 0), (38, .iconst (0), 0, 0), (39, .istore 4, 0, 0), (41, .iconst (0), 0, 0), (42, .istore 5, 0, 0), (44, .iconst (0), 0, 0), (45, .istore 6, 0, 0), (47, .iconst (0), 0, 0), (48, .istore 7, 0, 0), (50, .iconst (0), 0, 0), (51, .istore 8, 0, 0), (53, .nop, 0, 0)]
abbrev mo_M_adds_53 : List mmO := [(53, .iload 8, 0, 0), (55, .aload 0, 0, 0), (56, .getfield 281, 11, 33), (59, .if_icmp .ge 0, 294, 0), (62, .iconst (4), 0, 0), (63, .aload 0, 0, 0), (64, .getstatic 60, 11, 13), (67, .iload 8, 0, 0), (69, .iaload, 0, 0), (70, .imul, 0, 0), (71, .istore 9, 0, 0), (73, .iload 8, 0, 0), (75, .ifCond .le 0, 92, 0), (78, .iconst (4), 0, 0), (79, .aload 0, 0, 0), (80, .getstatic 60, 11, 13), (83, .iload 8, 0, 0), (85, .iconst (1), 0, 0), (86, .isub, 0, 0), (87, .iaload, 0, 0), (88, .imul, 0, 0), (89, .goto 0, 94, 0)]
abbrev mo_M_adds_92 : List mmO := [(92, .iload 9, 0, 0), (94, .nop, 0, 0)]
abbrev mo_M_adds_94 : List mmO := [(94, .istore 10, 0, 0), (96, .aload 0, 0, 0), (97, .getstatic 27, 11, 5), (100, .iload 9, 0, 0), (102, .iconst (1), 0, 0), (103, .iadd, 0, 0), (104, .iaload, 0, 0), (105, .istore 11, 0, 0), (107, .aload 0, 0, 0), (108, .getstatic 27, 11, 5), (111, .iload 9, 0, 0), (113, .iconst (2), 0, 0), (114, .iadd, 0, 0), (115, .iaload, 0, 0), (116, .istore 12, 0, 0), (118, .iload 8, 0, 0), (120, .ifCond .eq 0, 162, 0), (123, .aload 0, 0, 0), (124, .getstatic 27, 11, 5), (127, .iload 10, 0, 0), (129, .iconst (3), 0, 0), (130, .iadd, 0, 0), (131, .iaload, 0, 0), (132, .aload 0, 0, 0), (133, .getstatic 27, 11, 5), (136, .iload 9, 0, 0), (138, .iconst (3), 0, 0), (139, .iadd, 0, 0), (140, .iaload, 0, 0), (141, .if_icmp .ne 0, 162, 0), (144, .aload 0, 0, 0), (145, .getstatic 27, 11, 5), (148, .iload 10, 0, 0), (150, .iconst (1), 0, 0), (151, .iadd, 0, 0), (152, .iaload, 0, 0), (153, .iload 1, 0, 0), (154, .idiv, 0, 0), (155, .iload 11, 0, 0), (157, .iload 1, 0, 0), (158, .idiv, 0, 0), (159, .if_icmp .eq 0, 203, 0), (162, .nop, 0, 0)]
abbrev mo_M_adds_162 : List mmO := [(162, .iinc 4 (1), 0, 0), (165, .iload 11, 0, 0), (167, .iload 1, 0, 0), (168, .idiv, 0, 0), (169, .iload 1, 0, 0), (170, .imul, 0, 0), (171, .iload 1, 0, 0), (172, .iadd, 0, 0), (173, .aload 0, 0, 0), (174, .getfield 13, 11, 3), (177, .if_icmp .ge 0, 191, 0), (180, .iload 11, 0, 0), (182, .iload 1, 0, 0), (183, .idiv, 0, 0), (184, .iload 1, 0, 0), (185, .imul, 0, 0), (186, .iload 1, 0, 0), (187, .iadd, 0, 0), (188, .goto 0, 195, 0)]
abbrev mo_M_adds_191 : List mmO := [(191, .aload 0, 0, 0), (192, .getfield 13, 11, 3), (195, .nop, 0, 0)]
abbrev mo_M_adds_195 : List mmO := [(195, .istore 7, 0, 0), (197, .iload 7, 0, 0), (199, .iconst (1), 0, 0), (200, .isub, 0, 0), (201, .istore 6, 0, 0), (203, .nop, 0, 0)]
abbrev mo_M_adds_203 : List mmO := [(203, .iload 12, 0, 0), (205, .iload 7, 0, 0), (207, .if_icmp .ge 0, 220, 0), (210, .iload 12, 0, 0), (212, .iload 11, 0, 0), (214, .isub, 0, 0), (215, .iconst (1), 0, 0), (216, .iadd, 0, 0), (217, .goto 0, 225, 0)]
abbrev mo_M_adds_220 : List mmO := [(220, .iload 7, 0, 0), (222, .iload 11, 0, 0), (224, .isub, 0, 0), (225, .nop, 0, 0)]
abbrev mo_M_adds_225 : List mmO := [(225, .istore 13, 0, 0), (227, .iload 12, 0, 0), (229, .iload 6, 0, 0), (231, .if_icmp .le 0, 242, 0), (234, .iload 12, 0, 0), (236, .iload 6, 0, 0), (238, .isub, 0, 0), (239, .goto 0, 243, 0)]
abbrev mo_M_adds_242 : List mmO := [(242, .iconst (0), 0, 0), (243, .nop, 0, 0)]
abbrev mo_M_adds_243 : List mmO := [(243, .istore 14, 0, 0), (245, .iload 6, 0, 0), (247, .iload 14, 0, 0), (249, .iadd, 0, 0), (250, .istore 6, 0, 0), (252, .iload 3, 0, 0), (253, .iload 13, 0, 0), (255, .iload 14, 0, 0), (257, .iadd, 0, 0), (258, .iadd, 0, 0), (259, .istore 3, 0, 0), (260, .iload 6, 0, 0), (262, .iload 7, 0, 0), (264, .isub, 0, 0), (265, .iconst (1), 0, 0), (266, .iadd, 0, 0), (267, .iload 13, 0, 0), (269, .iadd, 0, 0), (270, .istore 15, 0, 0), (272, .iload 15, 0, 0), (274, .iload 5, 0, 0), (276, .if_icmp .le 0, 284, 0), (279, .iload 15, 0, 0), (281, .goto 0, 286, 0)]
abbrev mo_M_adds_284 : List mmO := [(284, .iload 5, 0, 0), (286, .nop, 0, 0)]
abbrev mo_M_adds_286 : List mmO := [(286, .istore 5, 0, 0), (288, .iinc 8 (1), 0, 0), (291, .goto 0, 53, 0)]
abbrev mo_M_adds_294 : List mmO := [(294, .iload 2, 0, 0), (295, .ifCond .ne 0, 302, 0), (298, .iload 3, 0, 0), (299, .goto 0, 314, 0)]
abbrev mo_M_adds_302 : List mmO := [(302, .iload 2, 0, 0), (303, .iconst (1), 0, 0), (304, .if_icmp .ne 0, 312, 0), (307, .iload 4, 0, 0), (309, .goto 0, 314, 0)]
abbrev mo_M_adds_312 : List mmO := [(312, .iload 5, 0, 0), (314, .nop, 0, 0)]
abbrev mo_M_adds_314 : List mmO := [(314, .ireturn, 0, 0)]
def mb_M_adds : Nat → List mmO := fun b => match b with
  | 0 => mo_M_adds_0
  | 29 => mo_M_adds_29
  | 31 => mo_M_adds_31
  | 53 => mo_M_adds_53
  | 92 => mo_M_adds_92
  | 94 => mo_M_adds_94
  | 162 => mo_M_adds_162
  | 191 => mo_M_adds_191
  | 195 => mo_M_adds_195
  | 203 => mo_M_adds_203
  | 220 => mo_M_adds_220
  | 225 => mo_M_adds_225
  | 242 => mo_M_adds_242
  | 243 => mo_M_adds_243
  | 284 => mo_M_adds_284
  | 286 => mo_M_adds_286
  | 294 => mo_M_adds_294
  | 302 => mo_M_adds_302
  | 312 => mo_M_adds_312
  | 314 => mo_M_adds_314
  | _ => []
abbrev mo_M_having_0 : List mmO := [(0, .iconst (0), 0, 0), (1, .istore 2, 0, 0), (2, .iconst (0), 0, 0), (3, .istore 3, 0, 0), (4, .nop, 0, 0)]
abbrev mo_M_having_4 : List mmO := [(4, .iload 3, 0, 0), (5, .aload 0, 0, 0), (6, .getfield 193, 11, 8), (9, .if_icmp .ge 0, 56, 0), (12, .iload 2, 0, 0), (13, .iload 1, 0, 0), (14, .i2l, 0, 0), (15, .aload 0, 0, 0), (16, .getstatic 27, 11, 5), (19, .iconst (4), 0, 0), (20, .iload 3, 0, 0), (21, .imul, 0, 0), (22, .iconst (1), 0, 0), (23, .iadd, 0, 0), (24, .iaload, 0, 0), (25, .i2l, 0, 0), (26, .aload 0, 0, 0), (27, .getstatic 27, 11, 5), (30, .iconst (4), 0, 0), (31, .iload 3, 0, 0), (32, .imul, 0, 0), (33, .iconst (2), 0, 0), (34, .iadd, 0, 0), (35, .iaload, 0, 0), (36, .i2l, 0, 0), (37, .invokestatic 89, 1102, 3), (40, .ifCond .eq 0, 47, 0), (43, .iconst (1), 0, 0), (44, .goto 0, 48, 0)]
abbrev mo_M_having_47 : List mmO := [(47, .iconst (0), 0, 0), (48, .nop, 0, 0)]
abbrev mo_M_having_48 : List mmO := [(48, .iadd, 0, 0), (49, .istore 2, 0, 0), (50, .iinc 3 (1), 0, 0), (53, .goto 0, 4, 0)]
abbrev mo_M_having_56 : List mmO := [(56, .iload 2, 0, 0), (57, .ireturn, 0, 0)]
def mb_M_having : Nat → List mmO := fun b => match b with
  | 0 => mo_M_having_0
  | 4 => mo_M_having_4
  | 47 => mo_M_having_47
  | 48 => mo_M_having_48
  | 56 => mo_M_having_56
  | _ => []
abbrev mo_M_count_0 : List mmO := [(0, .aload 0, 0, 0), (1, .iconst (0), 0, 0), (2, .putfield 72, 11, 0), (5, .iconst (0), 0, 0), (6, .istore 2, 0, 0), (7, .iconst (0), 0, 0), (8, .istore 3, 0, 0), (9, .iconst (1), 0, 0), (10, .istore 4, 0, 0), (12, .nop, 0, 0)]
abbrev mo_M_count_12 : List mmO := [(12, .iload 4, 0, 0), (14, .aload 0, 0, 0), (15, .getfield 13, 11, 3), (18, .if_icmp .ge 0, 48, 0), (21, .aload 0, 0, 0), (22, .iload 4, 0, 0), (24, .invokevirtual 362, 1180, 2), (27, .aload 0, 0, 0), (28, .iload 3, 0, 0), (29, .invokevirtual 362, 1180, 2), (32, .if_icmp .le 0, 40, 0), (35, .iload 4, 0, 0), (37, .goto 0, 41, 0)]
abbrev mo_M_count_40 : List mmO := [(40, .iload 3, 0, 0), (41, .nop, 0, 0)]
abbrev mo_M_count_41 : List mmO := [(41, .istore 3, 0, 0), (42, .iinc 4 (1), 0, 0), (45, .goto 0, 12, 0)]
abbrev mo_M_count_48 : List mmO := [(48, .iload 1, 0, 0), (49, .lookupswitch 0 #[(0, 108), (1, 113), (2, 118), (3, 123), (4, 128), (5, 133), (6, 138), (7, 177), (8, 183), (9, 185), (10, 190)], 195, 0)]
abbrev mo_M_count_108 : List mmO := [(108, .aload 0, 0, 0), (109, .getfield 13, 11, 3), (112, .ireturn, 0, 0)]
abbrev mo_M_count_113 : List mmO := [(113, .aload 0, 0, 0), (114, .getfield 190, 11, 5), (117, .ireturn, 0, 0)]
abbrev mo_M_count_118 : List mmO := [(118, .aload 0, 0, 0), (119, .getfield 193, 11, 8), (122, .ireturn, 0, 0)]
abbrev mo_M_count_123 : List mmO := [(123, .aload 0, 0, 0), (124, .getfield 30, 11, 10), (127, .ireturn, 0, 0)]
abbrev mo_M_count_128 : List mmO := [(128, .aload 0, 0, 0), (129, .getfield 33, 11, 11), (132, .ireturn, 0, 0)]
abbrev mo_M_count_133 : List mmO := [(133, .aload 0, 0, 0), (134, .getfield 36, 11, 12), (137, .ireturn, 0, 0)]
abbrev mo_M_count_138 : List mmO := [(138, .iconst (0), 0, 0), (139, .istore 4, 0, 0), (141, .nop, 0, 0)]
abbrev mo_M_count_141 : List mmO := [(141, .iload 4, 0, 0), (143, .aload 0, 0, 0), (144, .getfield 193, 11, 8), (147, .if_icmp .ge 0, 175, 0), (150, .iload 2, 0, 0), (151, .aload 0, 0, 0), (152, .iload 4, 0, 0), (154, .invokevirtual 275, 1147, 2), (157, .iload 4, 0, 0), (159, .if_icmp .ne 0, 166, 0), (162, .iconst (1), 0, 0), (163, .goto 0, 167, 0)]
abbrev mo_M_count_166 : List mmO := [(166, .iconst (0), 0, 0), (167, .nop, 0, 0)]
abbrev mo_M_count_167 : List mmO := [(167, .iadd, 0, 0), (168, .istore 2, 0, 0), (169, .iinc 4 (1), 0, 0), (172, .goto 0, 141, 0)]
abbrev mo_M_count_175 : List mmO := [(175, .iload 2, 0, 0), (176, .ireturn, 0, 0)]
abbrev mo_M_count_177 : List mmO := [(177, .aload 0, 0, 0), (178, .iload 3, 0, 0), (179, .invokevirtual 362, 1180, 2), (182, .ireturn, 0, 0)]
abbrev mo_M_count_183 : List mmO := [(183, .iload 3, 0, 0), (184, .ireturn, 0, 0)]
abbrev mo_M_count_185 : List mmO := [(185, .aload 0, 0, 0), (186, .getfield 211, 11, 29), (189, .ireturn, 0, 0)]
abbrev mo_M_count_190 : List mmO := [(190, .aload 0, 0, 0), (191, .getfield 75, 11, 2), (194, .ireturn, 0, 0)]
abbrev mo_M_count_195 : List mmO := [(195, .iconst (-1), 0, 0), (196, .ireturn, 0, 0)]
def mb_M_count : Nat → List mmO := fun b => match b with
  | 0 => mo_M_count_0
  | 12 => mo_M_count_12
  | 40 => mo_M_count_40
  | 41 => mo_M_count_41
  | 48 => mo_M_count_48
  | 108 => mo_M_count_108
  | 113 => mo_M_count_113
  | 118 => mo_M_count_118
  | 123 => mo_M_count_123
  | 128 => mo_M_count_128
  | 133 => mo_M_count_133
  | 138 => mo_M_count_138
  | 141 => mo_M_count_141
  | 166 => mo_M_count_166
  | 167 => mo_M_count_167
  | 175 => mo_M_count_175
  | 177 => mo_M_count_177
  | 183 => mo_M_count_183
  | 185 => mo_M_count_185
  | 190 => mo_M_count_190
  | 195 => mo_M_count_195
  | _ => []
abbrev mo_J_fill_0 : List mmO := [(0, .iconst (0), 0, 0), (1, .istore 2, 0, 0), (2, .aload 0, 0, 0), (3, .arraylength, 0, 0), (4, .istore 3, 0, 0), (5, .nop, 0, 0)]
abbrev mo_J_fill_5 : List mmO := [(5, .iload 2, 0, 0), (6, .iload 3, 0, 0), (7, .if_icmp .ge 0, 20, 0), (10, .aload 0, 0, 0), (11, .iload 2, 0, 0), (12, .iload 1, 0, 0), (13, .iastore, 0, 0), (14, .iinc 2 (1), 0, 0), (17, .goto 0, 5, 0)]
abbrev mo_J_fill_20 : List mmO := [(20, .return_, 0, 0)]
def mb_J_fill : Nat → List mmO := fun b => match b with
  | 0 => mo_J_fill_0
  | 5 => mo_J_fill_5
  | 20 => mo_J_fill_20
  | _ => []
end
