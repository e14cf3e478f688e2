/-! THE SMALL MACHINE: the program's methods over a heap of a fixed shape. A value is an int, a long, or a reference (group, number in the group). What changes is ints and longs, by group, number, place. -/
noncomputable abbrev jV : Type := (Int32 ⊕ Int64) ⊕ (Nat × Nat)
noncomputable abbrev jS : Type := (Nat → Nat → Nat → Int32) × (Nat → Nat → Nat → Int64)
noncomputable abbrev jF : Type := (Nat → Nat × Nat) ⊕ Nat
noncomputable abbrev jC : Type := (Nat × List jF) ⊕ (Nat × Nat × ((Nat → Nat → Nat × Nat) ⊕ Nat))
noncomputable abbrev jr : Type := Nat × Nat × Nat × Int32 × Int64 × List (Int32 × Nat)
noncomputable abbrev jN : Type := Nat × Instr × Nat × jr
noncomputable abbrev jX : Type := Nat × List (Option jV) × List jV × jS
noncomputable abbrev jK : Type := Option jV → jS → Prop
noncomputable abbrev jQ : Type := Nat → List jV → jS → jK → Prop
noncomputable def jShl : List (Nat × jC) := [
  (1, .inl (6, [.inl (fun _ => (1, 0)), .inl (fun _ => (2, 0)), .inl (fun _ => (3, 0)), .inl (fun _ => (4, 0)), .inl (fun _ => (4, 1)), .inl (fun _ => (5, 0)), .inl (fun _ => (6, 0)), .inl (fun _ => (7, 6)), .inl (fun _ => (8, 0)), .inl (fun _ => (9, 0)), .inl (fun _ => (10, 0)), .inl (fun _ => (11, 0)), .inl (fun _ => (12, 0)), .inr 0, .inr 0, .inr 1, .inr 1])),
  (1, .inl (5, [.inl (fun _ => (13, 0)), .inl (fun _ => (14, 0))])),
  (1, .inl (5, [.inl (fun _ => (15, 0)), .inl (fun _ => (16, 0))])),
  (1, .inl (4, [.inl (fun _ => (4, 5)), .inl (fun _ => (17, 0)), .inr 0, .inr 0, .inr 0])),
  (6, .inl (1, [.inl (fun i => (18, i)), .inl (fun i => (19, i)), .inl (fun i => (20, i)), .inl (fun i => (21, i)), .inl (fun i => (7, i)), .inl (fun i => (22, i)), .inr 0, .inr 0, .inr 0, .inr 0, .inr 0, .inr 0, .inr 0, .inr 0, .inr 2, .inr 0])),
  (1, .inr (3, 3, .inl (fun _ j => (4, 2 + j)))),
  (1, .inr (2, 3, .inr 2)),
  (11, .inl (2, [.inl (fun i => (23, i))])),
  (1, .inl (0, [.inl (fun _ => (24, 0))])),
  (1, .inl (3, [.inl (fun _ => (26, 0)), .inl (fun _ => (27, 0)), .inl (fun _ => (28, 0)), .inr 0, .inr 0, .inr 0])),
  (1, .inr (0, 6, .inr 0)),
  (1, .inr (1, 55, .inr 1)),
  (1, .inr (0, 6, .inr 0)),
  (1, .inr (5, 6, .inl (fun _ j => (29, j)))),
  (1, .inr (0, 6, .inr 0)),
  (1, .inr (5, 4, .inl (fun _ j => (30, j)))),
  (1, .inr (0, 4, .inr 0)),
  (1, .inr (0, 60, .inr 0)),
  (6, .inr (0, 6, .inr 0)),
  (6, .inr (0, 6, .inr 0)),
  (6, .inr (0, 6, .inr 0)),
  (6, .inr (0, 6, .inr 0)),
  (6, .inr (0, 40, .inr 0)),
  (11, .inr (0, 10, .inr 0)),
  (1, .inr (5, 7, .inl (fun _ j => (25, j)))),
  (7, .inr (0, 31, .inr 0)),
  (1, .inr (4, 4, .inl (fun _ j => (7, 7 + j)))),
  (1, .inr (0, 3, .inr 0)),
  (1, .inr (0, 3, .inr 0)),
  (6, .inr (0, 40, .inr 0)),
  (4, .inr (0, 60, .inr 0)),
  (1, .inl (7, [.inl (fun _ => (32, 0)), .inr 0, .inr 0, .inr 0, .inl (fun _ => (33, 0)), .inl (fun _ => (34, 0)), .inl (fun _ => (35, 0)), .inl (fun _ => (36, 0)), .inl (fun _ => (37, 0)), .inl (fun _ => (38, 0)), .inr 0, .inr 1, .inr 1, .inr 0, .inl (fun _ => (39, 0)), .inr 0, .inr 0, .inr 0, .inr 0, .inr 0, .inl (fun _ => (40, 0)), .inr 0, .inl (fun _ => (41, 0))])),
  (1, .inr (0, 4625, .inr 0)),
  (1, .inr (0, 6, .inr 0)),
  (1, .inr (0, 6, .inr 0)),
  (1, .inr (0, 6, .inr 0)),
  (1, .inr (0, 240, .inr 0)),
  (1, .inr (0, 4, .inr 0)),
  (1, .inr (0, 240, .inr 0)),
  (1, .inr (0, 6, .inr 0)),
  (1, .inr (0, 24, .inr 0)),
  (1, .inr (0, 18, .inr 0))]
noncomputable def jSh (g : Nat) : Nat × jC := jShl.getD g (0, .inl (99, []))
noncomputable def jup (I : Nat → Nat → Nat → Int32) (g i j : Nat) (v : Int32) : Nat → Nat → Nat → Int32 := fun a b c => if a = g ∧ b = i ∧ c = j then v else I a b c
noncomputable def jupL (I : Nat → Nat → Nat → Int64) (g i j : Nat) (v : Int64) : Nat → Nat → Nat → Int64 := fun a b c => if a = g ∧ b = i ∧ c = j then v else I a b c
noncomputable def jcpy (I : Nat → Nat → Nat → Int32) (g i g' i' sp dp n : Nat) : Nat → Nat → Nat → Int32 := fun a b c => if a = g' ∧ b = i' ∧ dp ≤ c ∧ c < dp + n then I g i (sp + (c - dp)) else I a b c
noncomputable def jget : List (Option jV) → Nat → Option jV
  | [], _ => none
  | a :: _, 0 => a
  | _ :: t, n + 1 => jget t n
noncomputable def jkill : List (Option jV) → Nat → List (Option jV)
  | [], _ => []
  | a :: t, 0 => a :: t
  | a :: t, 1 => (match a with | some (.inl (.inr _)) => none | o => o) :: t
  | a :: t, n + 2 => a :: jkill t (n + 1)
noncomputable def jput : List (Option jV) → Nat → Option jV → List (Option jV)
  | [], _, _ => []
  | _ :: t, 0, v => v :: t
  | a :: t, n + 1, v => a :: jput t n v
noncomputable def jset1 (ls : List (Option jV)) (j : Nat) (v : jV) : List (Option jV) := jput (jkill ls j) j (some v)
noncomputable def jset2 (ls : List (Option jV)) (j : Nat) (v : jV) : List (Option jV) := jput (jput (jkill ls j) j (some v)) (j + 1) none
noncomputable def jlen : List (Option jV) → Nat
  | [] => 0
  | _ :: t => jlen t + 1
noncomputable def jent : List jV → List (Option jV)
  | [] => []
  | .inl (.inr x) :: t => some (.inl (.inr x)) :: none :: jent t
  | .inl (.inl x) :: t => some (.inl (.inl x)) :: jent t
  | .inr q :: t => some (.inr q) :: jent t
noncomputable def jpad : Nat → List (Option jV) → List (Option jV)
  | 0, _ => []
  | n + 1, [] => none :: jpad n []
  | n + 1, a :: t => a :: jpad n t
noncomputable def jcat1 : jV → Nat
  | .inl (.inr _) => 2
  | _ => 1
noncomputable def jcat : List jV → Nat
  | [] => 0
  | v :: t => jcat1 v + jcat t
noncomputable def jtake : Nat → List jV → List jV → Option (List jV × List jV)
  | 0, st, acc => some (acc, st)
  | _ + 1, [], _ => none
  | n + 1, v :: t, acc => jtake n t (v :: acc)
noncomputable def jat : List jN → Nat → Option (Instr × Nat × jr)
  | [], _ => none
  | e :: t, pc => match Nat.beq e.1 pc with
    | true => some e.2
    | false => jat t pc
noncomputable def jsw (x : Int32) (K : Nat → Prop) (d : Nat) : List (Int32 × Nat) → Prop
  | [] => K d
  | c :: t => (x = c.1 → K c.2) ∧ (¬ x = c.1 → jsw x K d t)
noncomputable def jletters (j : Nat) : Int32 := match j with | 0 => 112 | 1 => 99 | 2 => 104 | 3 => 115 | 4 => 108 | _ => 121
noncomputable def jro (scr : Option (Nat × (Nat → Int32))) (g : Nat) : Option (Nat × (Nat → Int32)) := match Nat.beq g 900 with
  | true => some (6, jletters)
  | false => match Nat.beq g 901 with
    | true => scr
    | false => none
noncomputable def jopt (v : Option jV) (t : List jV) : List jV := match v with
  | none => t
  | some x => x :: t
noncomputable def jcls (g : Nat) (l : List (Int32 × Nat)) : Bool := match (jSh g).2, l with
  | .inl (ci, _), [c] => Nat.beq ci c.2
  | _, _ => false
/-- one instruction: what must hold so that all goes on as K wants -/
noncomputable def jstep (call : jQ) (k : jK) (scr : Option (Nat × (Nat → Int32))) (i : Instr) (np rA rB : Nat) (rC : Int32) (rL : Int64) (rS : List (Int32 × Nat)) (ls : List (Option jV)) (st : List jV) (I : Nat → Nat → Nat → Int32) (L : Nat → Nat → Nat → Int64) (K : jX → Prop) : Prop :=
  match i with
  | .iconst _ => K (np, ls, .inl (.inl rC) :: st, I, L)
  | .bipush _ => K (np, ls, .inl (.inl rC) :: st, I, L)
  | .sipush _ => K (np, ls, .inl (.inl rC) :: st, I, L)
  | .ldc _ => K (np, ls, .inl (.inl rC) :: st, I, L)
  | .lconst _ => K (np, ls, .inl (.inr rL) :: st, I, L)
  | .ldc2_w _ => K (np, ls, .inl (.inr rL) :: st, I, L)
  | .iload _ => (match jget ls rA with | some (.inl (.inl x)) => K (np, ls, .inl (.inl x) :: st, I, L) | _ => False)
  | .iload_n _ => (match jget ls rA with | some (.inl (.inl x)) => K (np, ls, .inl (.inl x) :: st, I, L) | _ => False)
  | .lload _ => (match jget ls rA with | some (.inl (.inr x)) => K (np, ls, .inl (.inr x) :: st, I, L) | _ => False)
  | .lload_n _ => (match jget ls rA with | some (.inl (.inr x)) => K (np, ls, .inl (.inr x) :: st, I, L) | _ => False)
  | .aload _ => (match jget ls rA with | some (.inr q) => K (np, ls, .inr q :: st, I, L) | _ => False)
  | .aload_n _ => (match jget ls rA with | some (.inr q) => K (np, ls, .inr q :: st, I, L) | _ => False)
  | .istore _ => (match Nat.blt rA (jlen ls), st with | true, .inl (.inl x) :: t => K (np, jset1 ls rA (.inl (.inl x)), t, I, L) | _, _ => False)
  | .istore_n _ => (match Nat.blt rA (jlen ls), st with | true, .inl (.inl x) :: t => K (np, jset1 ls rA (.inl (.inl x)), t, I, L) | _, _ => False)
  | .astore _ => (match Nat.blt rA (jlen ls), st with | true, .inr x :: t => K (np, jset1 ls rA (.inr x), t, I, L) | _, _ => False)
  | .astore_n _ => (match Nat.blt rA (jlen ls), st with | true, .inr x :: t => K (np, jset1 ls rA (.inr x), t, I, L) | _, _ => False)
  | .lstore _ => (match Nat.blt (rA + 1) (jlen ls), st with | true, .inl (.inr x) :: t => K (np, jset2 ls rA (.inl (.inr x)), t, I, L) | _, _ => False)
  | .lstore_n _ => (match Nat.blt (rA + 1) (jlen ls), st with | true, .inl (.inr x) :: t => K (np, jset2 ls rA (.inl (.inr x)), t, I, L) | _, _ => False)
  | .iinc _ _ => (match Nat.blt rA (jlen ls), jget ls rA with | true, some (.inl (.inl x)) => K (np, jset1 ls rA (.inl (.inl (x + rC))), st, I, L) | _, _ => False)
  | .iadd => (match st with | .inl (.inl y) :: .inl (.inl x) :: t => K (np, ls, .inl (.inl (x + y)) :: t, I, L) | _ => False)
  | .isub => (match st with | .inl (.inl y) :: .inl (.inl x) :: t => K (np, ls, .inl (.inl (x - y)) :: t, I, L) | _ => False)
  | .imul => (match st with | .inl (.inl y) :: .inl (.inl x) :: t => K (np, ls, .inl (.inl (x * y)) :: t, I, L) | _ => False)
  | .iand => (match st with | .inl (.inl y) :: .inl (.inl x) :: t => K (np, ls, .inl (.inl (x &&& y)) :: t, I, L) | _ => False)
  | .ior => (match st with | .inl (.inl y) :: .inl (.inl x) :: t => K (np, ls, .inl (.inl (x ||| y)) :: t, I, L) | _ => False)
  | .ishl => (match st with | .inl (.inl y) :: .inl (.inl x) :: t => K (np, ls, .inl (.inl (x <<< (y &&& 31))) :: t, I, L) | _ => False)
  | .ishr => (match st with | .inl (.inl y) :: .inl (.inl x) :: t => K (np, ls, .inl (.inl (x >>> (y &&& 31))) :: t, I, L) | _ => False)
  | .idiv => (match st with | .inl (.inl y) :: .inl (.inl x) :: t => ¬ y = 0 ∧ K (np, ls, .inl (.inl (x / y)) :: t, I, L) | _ => False)
  | .irem => (match st with | .inl (.inl y) :: .inl (.inl x) :: t => ¬ y = 0 ∧ K (np, ls, .inl (.inl (x - x / y * y)) :: t, I, L) | _ => False)
  | .ladd => (match st with | .inl (.inr y) :: .inl (.inr x) :: t => K (np, ls, .inl (.inr (x + y)) :: t, I, L) | _ => False)
  | .lmul => (match st with | .inl (.inr y) :: .inl (.inr x) :: t => K (np, ls, .inl (.inr (x * y)) :: t, I, L) | _ => False)
  | .ldiv => (match st with | .inl (.inr y) :: .inl (.inr x) :: t => ¬ y = 0 ∧ K (np, ls, .inl (.inr (x / y)) :: t, I, L) | _ => False)
  | .lrem => (match st with | .inl (.inr y) :: .inl (.inr x) :: t => ¬ y = 0 ∧ K (np, ls, .inl (.inr (x - x / y * y)) :: t, I, L) | _ => False)
  | .lcmp => (match st with | .inl (.inr y) :: .inl (.inr x) :: t => K (np, ls, .inl (.inl (lg_cmp x y)) :: t, I, L) | _ => False)
  | .i2l => (match st with | .inl (.inl x) :: t => K (np, ls, .inl (.inr x.toInt64) :: t, I, L) | _ => False)
  | .l2i => (match st with | .inl (.inr x) :: t => K (np, ls, .inl (.inl x.toInt32) :: t, I, L) | _ => False)
  | .i2b => (match st with | .inl (.inl x) :: t => K (np, ls, .inl (.inl x.toInt8.toInt32) :: t, I, L) | _ => False)
  | .dup => (match st with | .inl (.inl x) :: t => K (np, ls, .inl (.inl x) :: .inl (.inl x) :: t, I, L) | .inr x :: t => K (np, ls, .inr x :: .inr x :: t, I, L) | _ => False)
  | .dup2 => (match st with | .inl (.inl x) :: .inr y :: t => K (np, ls, .inl (.inl x) :: .inr y :: .inl (.inl x) :: .inr y :: t, I, L) | _ => False)
  | .pop => (match st with | .inl (.inl _) :: t => K (np, ls, t, I, L) | _ => False)
  | .pop2 => (match st with | .inl (.inr _) :: t => K (np, ls, t, I, L) | _ => False)
  | .goto _ => K (rA, ls, st, I, L)
  | .ifCond .eq _ => (match st with | .inl (.inl x) :: t => (x = 0 → K (rA, ls, t, I, L)) ∧ (¬ x = 0 → K (np, ls, t, I, L)) | _ => False)
  | .ifCond .ne _ => (match st with | .inl (.inl x) :: t => (¬ x = 0 → K (rA, ls, t, I, L)) ∧ (x = 0 → K (np, ls, t, I, L)) | _ => False)
  | .ifCond .lt _ => (match st with | .inl (.inl x) :: t => (x < 0 → K (rA, ls, t, I, L)) ∧ (¬ x < 0 → K (np, ls, t, I, L)) | _ => False)
  | .ifCond .ge _ => (match st with | .inl (.inl x) :: t => (0 ≤ x → K (rA, ls, t, I, L)) ∧ (¬ 0 ≤ x → K (np, ls, t, I, L)) | _ => False)
  | .ifCond .gt _ => (match st with | .inl (.inl x) :: t => (0 < x → K (rA, ls, t, I, L)) ∧ (¬ 0 < x → K (np, ls, t, I, L)) | _ => False)
  | .ifCond .le _ => (match st with | .inl (.inl x) :: t => (x ≤ 0 → K (rA, ls, t, I, L)) ∧ (¬ x ≤ 0 → K (np, ls, t, I, L)) | _ => False)
  | .if_icmp .eq _ => (match st with | .inl (.inl y) :: .inl (.inl x) :: t => (x = y → K (rA, ls, t, I, L)) ∧ (¬ x = y → K (np, ls, t, I, L)) | _ => False)
  | .if_icmp .ne _ => (match st with | .inl (.inl y) :: .inl (.inl x) :: t => (¬ x = y → K (rA, ls, t, I, L)) ∧ (x = y → K (np, ls, t, I, L)) | _ => False)
  | .if_icmp .lt _ => (match st with | .inl (.inl y) :: .inl (.inl x) :: t => (x < y → K (rA, ls, t, I, L)) ∧ (¬ x < y → K (np, ls, t, I, L)) | _ => False)
  | .if_icmp .ge _ => (match st with | .inl (.inl y) :: .inl (.inl x) :: t => (y ≤ x → K (rA, ls, t, I, L)) ∧ (¬ y ≤ x → K (np, ls, t, I, L)) | _ => False)
  | .if_icmp .gt _ => (match st with | .inl (.inl y) :: .inl (.inl x) :: t => (y < x → K (rA, ls, t, I, L)) ∧ (¬ y < x → K (np, ls, t, I, L)) | _ => False)
  | .if_icmp .le _ => (match st with | .inl (.inl y) :: .inl (.inl x) :: t => (x ≤ y → K (rA, ls, t, I, L)) ∧ (¬ x ≤ y → K (np, ls, t, I, L)) | _ => False)
  | .tableswitch _ _ _ _ => (match st with | .inl (.inl x) :: t => jsw x (fun q => K (q, ls, t, I, L)) rA rS | _ => False)
  | .lookupswitch _ _ => (match st with | .inl (.inl x) :: t => jsw x (fun q => K (q, ls, t, I, L)) rA rS | _ => False)
  | .getfield _ => (match st with
    | .inr (g, n) :: t => (match (jSh g).2 with
      | .inl (ci, fs) => (match Nat.beq ci rB, fs[rA]? with
        | true, some (.inl f) => K (np, ls, .inr (f n) :: t, I, L)
        | true, some (.inr 1) => K (np, ls, .inl (.inr (L g n rA)) :: t, I, L)
        | true, some (.inr _) => K (np, ls, .inl (.inl (I g n rA)) :: t, I, L)
        | _, _ => False)
      | _ => False)
    | _ => False)
  | .putfield _ => (match st with
    | .inl (.inl x) :: .inr (g, n) :: t => (match (jSh g).2 with
      | .inl (ci, fs) => (match Nat.beq ci rB, fs[rA]? with
        | true, some (.inr 0) => K (np, ls, t, jup I g n rA x, L)
        | true, some (.inr 2) => (x = 0 ∨ x = 1) ∧ K (np, ls, t, jup I g n rA x, L)
        | _, _ => False)
      | _ => False)
    | .inl (.inr x) :: .inr (g, n) :: t => (match (jSh g).2 with
      | .inl (ci, fs) => (match Nat.beq ci rB, fs[rA]? with
        | true, some (.inr 1) => K (np, ls, t, I, jupL L g n rA x)
        | _, _ => False)
      | _ => False)
    | _ => False)
  | .getstatic _ => K (np, ls, .inr (900, 0) :: st, I, L)
  | .iaload => (match st with
    | .inl (.inl j) :: .inr (g, n) :: t => (match jro scr g with
      | some q => vp_in j q.1 ∧ K (np, ls, .inl (.inl (q.2 j.toNatClampNeg)) :: t, I, L)
      | none => (match (jSh g).2 with
        | .inr (_, N, .inr 0) => vp_in j N ∧ K (np, ls, .inl (.inl (I g n j.toNatClampNeg)) :: t, I, L)
        | _ => False))
    | _ => False)
  | .baload => (match st with
    | .inl (.inl j) :: .inr (g, n) :: t => (match (jSh g).2 with
      | .inr (_, N, .inr 2) => vp_in j N ∧ K (np, ls, .inl (.inl (I g n j.toNatClampNeg)) :: t, I, L)
      | _ => False)
    | _ => False)
  | .laload => (match st with
    | .inl (.inl j) :: .inr (g, n) :: t => (match (jSh g).2 with
      | .inr (_, N, .inr 1) => vp_in j N ∧ K (np, ls, .inl (.inr (L g n j.toNatClampNeg)) :: t, I, L)
      | _ => False)
    | _ => False)
  | .aaload => (match st with
    | .inl (.inl j) :: .inr (g, n) :: t => (match (jSh g).2 with
      | .inr (_, N, .inl f) => vp_in j N ∧ K (np, ls, .inr (f n j.toNatClampNeg) :: t, I, L)
      | _ => False)
    | _ => False)
  | .iastore => (match st with
    | .inl (.inl x) :: .inl (.inl j) :: .inr (g, n) :: t => (match (jSh g).2 with
      | .inr (_, N, .inr 0) => vp_in j N ∧ K (np, ls, t, jup I g n j.toNatClampNeg x, L)
      | _ => False)
    | _ => False)
  | .bastore => (match st with
    | .inl (.inl x) :: .inl (.inl j) :: .inr (g, n) :: t => (match (jSh g).2 with
      | .inr (_, N, .inr 2) => vp_in j N ∧ K (np, ls, t, jup I g n j.toNatClampNeg (vp_nar .boolean x), L)
      | _ => False)
    | _ => False)
  | .lastore => (match st with
    | .inl (.inr x) :: .inl (.inl j) :: .inr (g, n) :: t => (match (jSh g).2 with
      | .inr (_, N, .inr 1) => vp_in j N ∧ K (np, ls, t, I, jupL L g n j.toNatClampNeg x)
      | _ => False)
    | _ => False)
  | .arraylength => (match st with
    | .inr (g, _) :: t => (match jro scr g with
      | some q => K (np, ls, .inl (.inl (nI q.1)) :: t, I, L)
      | none => (match (jSh g).2 with
        | .inr (_, N, _) => K (np, ls, .inl (.inl (nI N)) :: t, I, L)
        | _ => False))
    | _ => False)
  | .invokevirtual _ => (match jtake rB st [] with
    | some (.inr q :: as, t) => (match jcls q.1 rS, Nat.ble (jcat t) 8 with
      | true, true => call rA (.inr q :: as) (I, L) (fun v σ' => K (np, ls, jopt v t, σ'))
      | _, _ => False)
    | _ => False)
  | .invokestatic _ => (match Nat.beq rA 999 with
    | true => (match st with
      | .inl (.inl n) :: .inl (.inl dp) :: .inr (g', n') :: .inl (.inl sp) :: .inr (g, m) :: t => (match (jSh g).2, (jSh g').2, Nat.ble (jcat t) 8 with
        | .inr (_, N, .inr 0), .inr (_, N', .inr 0), true => (¬ sp < 0 ∧ ¬ dp < 0 ∧ ¬ n < 0 ∧ sp.toNatClampNeg + n.toNatClampNeg ≤ N ∧ dp.toNatClampNeg + n.toNatClampNeg ≤ N') ∧ K (np, ls, t, jcpy I g m g' n' sp.toNatClampNeg dp.toNatClampNeg n.toNatClampNeg, L)
        | _, _, _ => False)
      | _ => False)
    | false => (match Nat.beq rA 998 with
      | true => (match st with
        | .inl (.inl y) :: .inl (.inl x) :: t => (match Nat.ble (jcat t) 8 with
          | true => K (np, ls, .inl (.inl (if y < x then y else x)) :: t, I, L)
          | false => False)
        | _ => False)
      | false => (match Nat.beq rA 997 with
        | true => (match st with
          | .inl (.inl y) :: .inl (.inl x) :: t => (match Nat.ble (jcat t) 8 with
            | true => K (np, ls, .inl (.inl (if x < y then y else x)) :: t, I, L)
            | false => False)
          | _ => False)
        | false => (match jtake rB st [] with
          | some (as, t) => (match Nat.ble (jcat t) 8 with
            | true => call rA as (I, L) (fun v σ' => K (np, ls, jopt v t, σ'))
            | false => False)
          | none => False))))
  | .ireturn => (match st with
    | [.inl (.inl x)] => (match rA with
      | 0 => k (some (.inl (.inl x))) (I, L)
      | _ => (x = 0 ∨ x = 1) ∧ k (some (.inl (.inl x))) (I, L))
    | _ => False)
  | .lreturn => (match st with | [.inl (.inr x)] => k (some (.inl (.inr x))) (I, L) | _ => False)
  | .return_ => (match st with | [] => k none (I, L) | _ => False)
  | _ => False
noncomputable def jst (call : jQ) (k : jK) (scr : Option (Nat × (Nat → Int32))) (code : List jN) (x : jX) (K : jX → Prop) : Prop := match x with
  | (pc, ls, st, I, L) => (match jat code pc with
    | some (i, _, np, rA, rB, rC, rL, rS) => jstep call k scr i np rA rB rC rL rS ls st I L K
    | none => False)
/-- a method's body, from x on, comes to its end with k: the least such -/
noncomputable def jWB (call : jQ) (k : jK) (scr : Option (Nat × (Nat → Int32))) (code : List jN) (x : jX) : Prop := ∀ P : jX → Prop, (∀ y K, jst call k scr code y K → (∀ z, K z → P z) → P y) → P x
theorem jWB_step {call : jQ} {k : jK} {scr : Option (Nat × (Nat → Int32))} {code : List jN} {x : jX} (h : jst call k scr code x (jWB call k scr code)) : jWB call k scr code x := fun P hP => hP x _ h (fun z hz => hz P hP)
noncomputable def jel (n : Nat) : List Nat → Bool
  | [] => false
  | a :: t => match Nat.beq a n with
    | true => true
    | false => jel n t
/-- n instructions, or up to one of the stops -/
noncomputable def jrun (call : jQ) (k : jK) (scr : Option (Nat × (Nat → Int32))) (code : List jN) (stops : List Nat) (K : jX → Prop) : Nat → jX → Prop
  | 0, x => K x
  | n + 1, x => jst call k scr code x (fun y => match y with
    | (pc, z) => (match jel pc stops with
      | true => K (pc, z)
      | false => jrun call k scr code stops K n (pc, z)))
theorem jWB_run {call : jQ} {k : jK} {scr : Option (Nat × (Nat → Int32))} {code : List jN} (stops : List Nat) : ∀ (n : Nat) {x : jX}, jrun call k scr code stops (jWB call k scr code) n x → jWB call k scr code x
  | 0, _, h => h
  | n + 1, x, h => fun P hP => hP x _ h (fun z hz => by
    obtain ⟨pc, z⟩ := z
    dsimp only at hz
    cases he : jel pc stops with
    | true => rw [he] at hz; exact hz P hP
    | false => rw [he] at hz; exact jWB_run stops n hz P hP)
