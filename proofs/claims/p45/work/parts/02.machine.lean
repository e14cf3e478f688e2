section
/-! THE SMALL MACHINE: the program's methods over a heap of a fixed shape. A value is an int, a long, or a reference (group, number in the group). What changes is ints and longs, by group, number, place. -/
noncomputable abbrev jV : Type := (Int32 ⊕ Int64) ⊕ (Nat × Nat)
noncomputable abbrev jS : Type := (Nat → Nat → Nat → Int32) × (Nat → Nat → Nat → Int64)
noncomputable abbrev jF : Type := (Nat → Nat × Nat) ⊕ Nat
noncomputable abbrev jC : Type := (Nat × List jF) ⊕ (Nat × Nat × ((Nat → Nat → Nat × Nat) ⊕ Nat))
noncomputable abbrev jr : Type := Nat × Nat × Nat × Int32 × Int64 × List (Int32 × Nat)
noncomputable abbrev jN : Type := Nat × Instr × Nat × jr
noncomputable abbrev jX : Type := Nat × List (Option jV) × List jV × jS
noncomputable abbrev jK : Type := Option jV → jS → Prop
noncomputable abbrev jQ : Type := Nat → List jV → jS → jK → Prop
noncomputable def jShl : List (Nat × jC) := [
  (1, .inl (6, [.inl (fun _ => (1, 0)), .inl (fun _ => (2, 0)), .inl (fun _ => (3, 0)), .inl (fun _ => (4, 0)), .inl (fun _ => (4, 1)), .inl (fun _ => (5, 0)), .inl (fun _ => (6, 0)), .inl (fun _ => (7, 6)), .inl (fun _ => (8, 0)), .inl (fun _ => (9, 0)), .inl (fun _ => (10, 0)), .inl (fun _ => (11, 0)), .inl (fun _ => (12, 0)), .inr 0, .inr 0, .inr 1, .inr 1])),
  (1, .inl (5, [.inl (fun _ => (13, 0)), .inl (fun _ => (14, 0))])),
  (1, .inl (5, [.inl (fun _ => (15, 0)), .inl (fun _ => (16, 0))])),
  (1, .inl (4, [.inl (fun _ => (4, 5)), .inl (fun _ => (17, 0)), .inr 0, .inr 0, .inr 0])),
  (6, .inl (1, [.inl (fun i => (18, i)), .inl (fun i => (19, i)), .inl (fun i => (20, i)), .inl (fun i => (21, i)), .inl (fun i => (7, i)), .inl (fun i => (22, i)), .inr 0, .inr 0, .inr 0, .inr 0, .inr 0, .inr 0, .inr 0, .inr 0, .inr 2, .inr 0])),
  (1, .inr (3, 3, .inl (fun _ j => (4, 2 + j)))),
  (1, .inr (2, 3, .inr 2)),
  (11, .inl (2, [.inl (fun i => (23, i))])),
  (1, .inl (0, [.inl (fun _ => (24, 0))])),
  (1, .inl (3, [.inl (fun _ => (26, 0)), .inl (fun _ => (27, 0)), .inl (fun _ => (28, 0)), .inr 0, .inr 0, .inr 0])),
  (1, .inr (0, 6, .inr 0)),
  (1, .inr (1, 55, .inr 1)),
  (1, .inr (0, 6, .inr 0)),
  (1, .inr (5, 6, .inl (fun _ j => (29, j)))),
  (1, .inr (0, 6, .inr 0)),
  (1, .inr (5, 4, .inl (fun _ j => (30, j)))),
  (1, .inr (0, 4, .inr 0)),
  (1, .inr (0, 60, .inr 0)),
  (6, .inr (0, 6, .inr 0)),
  (6, .inr (0, 6, .inr 0)),
  (6, .inr (0, 6, .inr 0)),
  (6, .inr (0, 6, .inr 0)),
  (6, .inr (0, 40, .inr 0)),
  (11, .inr (0, 10, .inr 0)),
  (1, .inr (5, 7, .inl (fun _ j => (25, j)))),
  (7, .inr (0, 31, .inr 0)),
  (1, .inr (4, 4, .inl (fun _ j => (7, 7 + j)))),
  (1, .inr (0, 3, .inr 0)),
  (1, .inr (0, 3, .inr 0)),
  (6, .inr (0, 40, .inr 0)),
  (4, .inr (0, 60, .inr 0)),
  (1, .inl (7, [.inl (fun _ => (32, 0)), .inr 0, .inr 0, .inr 0, .inl (fun _ => (33, 0)), .inl (fun _ => (34, 0)), .inl (fun _ => (35, 0)), .inl (fun _ => (36, 0)), .inl (fun _ => (37, 0)), .inl (fun _ => (38, 0)), .inr 0, .inr 1, .inr 1, .inr 0, .inl (fun _ => (39, 0)), .inr 0, .inr 0, .inr 0, .inr 0, .inr 0, .inl (fun _ => (40, 0)), .inr 0, .inl (fun _ => (41, 0))])),
  (1, .inr (0, 4625, .inr 0)),
  (1, .inr (0, 6, .inr 0)),
  (1, .inr (0, 6, .inr 0)),
  (1, .inr (0, 6, .inr 0)),
  (1, .inr (0, 240, .inr 0)),
  (1, .inr (0, 4, .inr 0)),
  (1, .inr (0, 240, .inr 0)),
  (1, .inr (0, 6, .inr 0)),
  (1, .inr (0, 24, .inr 0)),
  (1, .inr (0, 18, .inr 0))]
noncomputable def jSh (g : Nat) : Nat × jC := jShl.getD g (0, .inl (99, []))
noncomputable def jup (I : Nat → Nat → Nat → Int32) (g i j : Nat) (v : Int32) : Nat → Nat → Nat → Int32 := fun a b c => if a = g ∧ b = i ∧ c = j then v else I a b c
noncomputable def jupL (I : Nat → Nat → Nat → Int64) (g i j : Nat) (v : Int64) : Nat → Nat → Nat → Int64 := fun a b c => if a = g ∧ b = i ∧ c = j then v else I a b c
noncomputable def jcpy (I : Nat → Nat → Nat → Int32) (g i g' i' sp dp n : Nat) : Nat → Nat → Nat → Int32 := fun a b c => if a = g' ∧ b = i' ∧ dp ≤ c ∧ c < dp + n then I g i (sp + (c - dp)) else I a b c
noncomputable def jget : List (Option jV) → Nat → Option jV
  | [], _ => none
  | a :: _, 0 => a
  | _ :: t, n + 1 => jget t n
noncomputable def jkill : List (Option jV) → Nat → List (Option jV)
  | [], _ => []
  | a :: t, 0 => a :: t
  | a :: t, 1 => (match a with | some (.inl (.inr _)) => none | o => o) :: t
  | a :: t, n + 2 => a :: jkill t (n + 1)
noncomputable def jput : List (Option jV) → Nat → Option jV → List (Option jV)
  | [], _, _ => []
  | _ :: t, 0, v => v :: t
  | a :: t, n + 1, v => a :: jput t n v
noncomputable def jset1 (ls : List (Option jV)) (j : Nat) (v : jV) : List (Option jV) := jput (jkill ls j) j (some v)
noncomputable def jset2 (ls : List (Option jV)) (j : Nat) (v : jV) : List (Option jV) := jput (jput (jkill ls j) j (some v)) (j + 1) none
noncomputable def jlen : List (Option jV) → Nat
  | [] => 0
  | _ :: t => jlen t + 1
noncomputable def jent : List jV → List (Option jV)
  | [] => []
  | .inl (.inr x) :: t => some (.inl (.inr x)) :: none :: jent t
  | .inl (.inl x) :: t => some (.inl (.inl x)) :: jent t
  | .inr q :: t => some (.inr q) :: jent t
noncomputable def jpad : Nat → List (Option jV) → List (Option jV)
  | 0, _ => []
  | n + 1, [] => none :: jpad n []
  | n + 1, a :: t => a :: jpad n t
noncomputable def jcat1 : jV → Nat
  | .inl (.inr _) => 2
  | _ => 1
noncomputable def jcat : List jV → Nat
  | [] => 0
  | v :: t => jcat1 v + jcat t
noncomputable def jtake : Nat → List jV → List jV → Option (List jV × List jV)
  | 0, st, acc => some (acc, st)
  | _ + 1, [], _ => none
  | n + 1, v :: t, acc => jtake n t (v :: acc)
noncomputable def jat : List jN → Nat → Option (Instr × Nat × jr)
  | [], _ => none
  | e :: t, pc => match Nat.beq e.1 pc with
    | true => some e.2
    | false => jat t pc
noncomputable def jsw (x : Int32) (K : Nat → Prop) (d : Nat) : List (Int32 × Nat) → Prop
  | [] => K d
  | c :: t => (x = c.1 → K c.2) ∧ (¬ x = c.1 → jsw x K d t)
noncomputable def jletters (j : Nat) : Int32 := match j with | 0 => 112 | 1 => 99 | 2 => 104 | 3 => 115 | 4 => 108 | _ => 121
noncomputable def jro (scr : Option (Nat × (Nat → Int32))) (g : Nat) : Option (Nat × (Nat → Int32)) := match Nat.beq g 900 with
  | true => some (6, jletters)
  | false => match Nat.beq g 901 with
    | true => scr
    | false => none
noncomputable def jopt (v : Option jV) (t : List jV) : List jV := match v with
  | none => t
  | some x => x :: t
noncomputable def jcls (g : Nat) (l : List (Int32 × Nat)) : Bool := match (jSh g).2, l with
  | .inl (ci, _), [c] => Nat.beq ci c.2
  | _, _ => false
/-- one instruction: what must hold so that all goes on as K wants -/
noncomputable def jstep (call : jQ) (k : jK) (scr : Option (Nat × (Nat → Int32))) (i : Instr) (np rA rB : Nat) (rC : Int32) (rL : Int64) (rS : List (Int32 × Nat)) (ls : List (Option jV)) (st : List jV) (I : Nat → Nat → Nat → Int32) (L : Nat → Nat → Nat → Int64) (K : jX → Prop) : Prop :=
  match i with
  | .iconst _ => K (np, ls, .inl (.inl rC) :: st, I, L)
  | .bipush _ => K (np, ls, .inl (.inl rC) :: st, I, L)
  | .sipush _ => K (np, ls, .inl (.inl rC) :: st, I, L)
  | .ldc _ => K (np, ls, .inl (.inl rC) :: st, I, L)
  | .lconst _ => K (np, ls, .inl (.inr rL) :: st, I, L)
  | .ldc2_w _ => K (np, ls, .inl (.inr rL) :: st, I, L)
  | .iload _ => (match jget ls rA with | some (.inl (.inl x)) => K (np, ls, .inl (.inl x) :: st, I, L) | _ => False)
  | .iload_n _ => (match jget ls rA with | some (.inl (.inl x)) => K (np, ls, .inl (.inl x) :: st, I, L) | _ => False)
  | .lload _ => (match jget ls rA with | some (.inl (.inr x)) => K (np, ls, .inl (.inr x) :: st, I, L) | _ => False)
  | .lload_n _ => (match jget ls rA with | some (.inl (.inr x)) => K (np, ls, .inl (.inr x) :: st, I, L) | _ => False)
  | .aload _ => (match jget ls rA with | some (.inr q) => K (np, ls, .inr q :: st, I, L) | _ => False)
  | .aload_n _ => (match jget ls rA with | some (.inr q) => K (np, ls, .inr q :: st, I, L) | _ => False)
  | .istore _ => (match Nat.blt rA (jlen ls), st with | true, .inl (.inl x) :: t => K (np, jset1 ls rA (.inl (.inl x)), t, I, L) | _, _ => False)
  | .istore_n _ => (match Nat.blt rA (jlen ls), st with | true, .inl (.inl x) :: t => K (np, jset1 ls rA (.inl (.inl x)), t, I, L) | _, _ => False)
  | .astore _ => (match Nat.blt rA (jlen ls), st with | true, .inr x :: t => K (np, jset1 ls rA (.inr x), t, I, L) | _, _ => False)
  | .astore_n _ => (match Nat.blt rA (jlen ls), st with | true, .inr x :: t => K (np, jset1 ls rA (.inr x), t, I, L) | _, _ => False)
  | .lstore _ => (match Nat.blt (rA + 1) (jlen ls), st with | true, .inl (.inr x) :: t => K (np, jset2 ls rA (.inl (.inr x)), t, I, L) | _, _ => False)
  | .lstore_n _ => (match Nat.blt (rA + 1) (jlen ls), st with | true, .inl (.inr x) :: t => K (np, jset2 ls rA (.inl (.inr x)), t, I, L) | _, _ => False)
  | .iinc _ _ => (match Nat.blt rA (jlen ls), jget ls rA with | true, some (.inl (.inl x)) => K (np, jset1 ls rA (.inl (.inl (x + rC))), st, I, L) | _, _ => False)
  | .iadd => (match st with | .inl (.inl y) :: .inl (.inl x) :: t => K (np, ls, .inl (.inl (x + y)) :: t, I, L) | _ => False)
  | .isub => (match st with | .inl (.inl y) :: .inl (.inl x) :: t => K (np, ls, .inl (.inl (x - y)) :: t, I, L) | _ => False)
  | .imul => (match st with | .inl (.inl y) :: .inl (.inl x) :: t => K (np, ls, .inl (.inl (x * y)) :: t, I, L) | _ => False)
  | .iand => (match st with | .inl (.inl y) :: .inl (.inl x) :: t => K (np, ls, .inl (.inl (x &&& y)) :: t, I, L) | _ => False)
  | .ior => (match st with | .inl (.inl y) :: .inl (.inl x) :: t => K (np, ls, .inl (.inl (x ||| y)) :: t, I, L) | _ => False)
  | .ishl => (match st with | .inl (.inl y) :: .inl (.inl x) :: t => K (np, ls, .inl (.inl (x <<< (y &&& 31))) :: t, I, L) | _ => False)
  | .ishr => (match st with | .inl (.inl y) :: .inl (.inl x) :: t => K (np, ls, .inl (.inl (x >>> (y &&& 31))) :: t, I, L) | _ => False)
  | .idiv => (match st with | .inl (.inl y) :: .inl (.inl x) :: t => ¬ y = 0 ∧ K (np, ls, .inl (.inl (x / y)) :: t, I, L) | _ => False)
  | .irem => (match st with | .inl (.inl y) :: .inl (.inl x) :: t => ¬ y = 0 ∧ K (np, ls, .inl (.inl (x - x / y * y)) :: t, I, L) | _ => False)
  | .ladd => (match st with | .inl (.inr y) :: .inl (.inr x) :: t => K (np, ls, .inl (.inr (x + y)) :: t, I, L) | _ => False)
  | .lmul => (match st with | .inl (.inr y) :: .inl (.inr x) :: t => K (np, ls, .inl (.inr (x * y)) :: t, I, L) | _ => False)
  | .ldiv => (match st with | .inl (.inr y) :: .inl (.inr x) :: t => ¬ y = 0 ∧ K (np, ls, .inl (.inr (x / y)) :: t, I, L) | _ => False)
  | .lrem => (match st with | .inl (.inr y) :: .inl (.inr x) :: t => ¬ y = 0 ∧ K (np, ls, .inl (.inr (x - x / y * y)) :: t, I, L) | _ => False)
  | .lcmp => (match st with | .inl (.inr y) :: .inl (.inr x) :: t => K (np, ls, .inl (.inl (lg_cmp x y)) :: t, I, L) | _ => False)
  | .i2l => (match st with | .inl (.inl x) :: t => K (np, ls, .inl (.inr x.toInt64) :: t, I, L) | _ => False)
  | .l2i => (match st with | .inl (.inr x) :: t => K (np, ls, .inl (.inl x.toInt32) :: t, I, L) | _ => False)
  | .i2b => (match st with | .inl (.inl x) :: t => K (np, ls, .inl (.inl x.toInt8.toInt32) :: t, I, L) | _ => False)
  | .dup => (match st with | .inl (.inl x) :: t => K (np, ls, .inl (.inl x) :: .inl (.inl x) :: t, I, L) | .inr x :: t => K (np, ls, .inr x :: .inr x :: t, I, L) | _ => False)
  | .dup2 => (match st with | .inl (.inl x) :: .inr y :: t => K (np, ls, .inl (.inl x) :: .inr y :: .inl (.inl x) :: .inr y :: t, I, L) | _ => False)
  | .pop => (match st with | .inl (.inl _) :: t => K (np, ls, t, I, L) | _ => False)
  | .pop2 => (match st with | .inl (.inr _) :: t => K (np, ls, t, I, L) | _ => False)
  | .goto _ => K (rA, ls, st, I, L)
  | .ifCond .eq _ => (match st with | .inl (.inl x) :: t => (x = 0 → K (rA, ls, t, I, L)) ∧ (¬ x = 0 → K (np, ls, t, I, L)) | _ => False)
  | .ifCond .ne _ => (match st with | .inl (.inl x) :: t => (¬ x = 0 → K (rA, ls, t, I, L)) ∧ (x = 0 → K (np, ls, t, I, L)) | _ => False)
  | .ifCond .lt _ => (match st with | .inl (.inl x) :: t => (x < 0 → K (rA, ls, t, I, L)) ∧ (¬ x < 0 → K (np, ls, t, I, L)) | _ => False)
  | .ifCond .ge _ => (match st with | .inl (.inl x) :: t => (0 ≤ x → K (rA, ls, t, I, L)) ∧ (¬ 0 ≤ x → K (np, ls, t, I, L)) | _ => False)
  | .ifCond .gt _ => (match st with | .inl (.inl x) :: t => (0 < x → K (rA, ls, t, I, L)) ∧ (¬ 0 < x → K (np, ls, t, I, L)) | _ => False)
  | .ifCond .le _ => (match st with | .inl (.inl x) :: t => (x ≤ 0 → K (rA, ls, t, I, L)) ∧ (¬ x ≤ 0 → K (np, ls, t, I, L)) | _ => False)
  | .if_icmp .eq _ => (match st with | .inl (.inl y) :: .inl (.inl x) :: t => (x = y → K (rA, ls, t, I, L)) ∧ (¬ x = y → K (np, ls, t, I, L)) | _ => False)
  | .if_icmp .ne _ => (match st with | .inl (.inl y) :: .inl (.inl x) :: t => (¬ x = y → K (rA, ls, t, I, L)) ∧ (x = y → K (np, ls, t, I, L)) | _ => False)
  | .if_icmp .lt _ => (match st with | .inl (.inl y) :: .inl (.inl x) :: t => (x < y → K (rA, ls, t, I, L)) ∧ (¬ x < y → K (np, ls, t, I, L)) | _ => False)
  | .if_icmp .ge _ => (match st with | .inl (.inl y) :: .inl (.inl x) :: t => (y ≤ x → K (rA, ls, t, I, L)) ∧ (¬ y ≤ x → K (np, ls, t, I, L)) | _ => False)
  | .if_icmp .gt _ => (match st with | .inl (.inl y) :: .inl (.inl x) :: t => (y < x → K (rA, ls, t, I, L)) ∧ (¬ y < x → K (np, ls, t, I, L)) | _ => False)
  | .if_icmp .le _ => (match st with | .inl (.inl y) :: .inl (.inl x) :: t => (x ≤ y → K (rA, ls, t, I, L)) ∧ (¬ x ≤ y → K (np, ls, t, I, L)) | _ => False)
  | .tableswitch _ _ _ _ => (match st with | .inl (.inl x) :: t => jsw x (fun q => K (q, ls, t, I, L)) rA rS | _ => False)
  | .lookupswitch _ _ => (match st with | .inl (.inl x) :: t => jsw x (fun q => K (q, ls, t, I, L)) rA rS | _ => False)
  | .getfield _ => (match st with
    | .inr (g, n) :: t => (match (jSh g).2 with
      | .inl (ci, fs) => (match Nat.beq ci rB, fs[rA]? with
        | true, some (.inl f) => K (np, ls, .inr (f n) :: t, I, L)
        | true, some (.inr 1) => K (np, ls, .inl (.inr (L g n rA)) :: t, I, L)
        | true, some (.inr _) => K (np, ls, .inl (.inl (I g n rA)) :: t, I, L)
        | _, _ => False)
      | _ => False)
    | _ => False)
  | .putfield _ => (match st with
    | .inl (.inl x) :: .inr (g, n) :: t => (match (jSh g).2 with
      | .inl (ci, fs) => (match Nat.beq ci rB, fs[rA]? with
        | true, some (.inr 0) => K (np, ls, t, jup I g n rA x, L)
        | true, some (.inr 2) => (x = 0 ∨ x = 1) ∧ K (np, ls, t, jup I g n rA x, L)
        | _, _ => False)
      | _ => False)
    | .inl (.inr x) :: .inr (g, n) :: t => (match (jSh g).2 with
      | .inl (ci, fs) => (match Nat.beq ci rB, fs[rA]? with
        | true, some (.inr 1) => K (np, ls, t, I, jupL L g n rA x)
        | _, _ => False)
      | _ => False)
    | _ => False)
  | .getstatic _ => K (np, ls, .inr (900, 0) :: st, I, L)
  | .iaload => (match st with
    | .inl (.inl j) :: .inr (g, n) :: t => (match jro scr g with
      | some q => vp_in j q.1 ∧ K (np, ls, .inl (.inl (q.2 j.toNatClampNeg)) :: t, I, L)
      | none => (match (jSh g).2 with
        | .inr (_, N, .inr 0) => vp_in j N ∧ K (np, ls, .inl (.inl (I g n j.toNatClampNeg)) :: t, I, L)
        | _ => False))
    | _ => False)
  | .baload => (match st with
    | .inl (.inl j) :: .inr (g, n) :: t => (match (jSh g).2 with
      | .inr (_, N, .inr 2) => vp_in j N ∧ K (np, ls, .inl (.inl (I g n j.toNatClampNeg)) :: t, I, L)
      | _ => False)
    | _ => False)
  | .laload => (match st with
    | .inl (.inl j) :: .inr (g, n) :: t => (match (jSh g).2 with
      | .inr (_, N, .inr 1) => vp_in j N ∧ K (np, ls, .inl (.inr (L g n j.toNatClampNeg)) :: t, I, L)
      | _ => False)
    | _ => False)
  | .aaload => (match st with
    | .inl (.inl j) :: .inr (g, n) :: t => (match (jSh g).2 with
      | .inr (_, N, .inl f) => vp_in j N ∧ K (np, ls, .inr (f n j.toNatClampNeg) :: t, I, L)
      | _ => False)
    | _ => False)
  | .iastore => (match st with
    | .inl (.inl x) :: .inl (.inl j) :: .inr (g, n) :: t => (match (jSh g).2 with
      | .inr (_, N, .inr 0) => vp_in j N ∧ K (np, ls, t, jup I g n j.toNatClampNeg x, L)
      | _ => False)
    | _ => False)
  | .bastore => (match st with
    | .inl (.inl x) :: .inl (.inl j) :: .inr (g, n) :: t => (match (jSh g).2 with
      | .inr (_, N, .inr 2) => vp_in j N ∧ K (np, ls, t, jup I g n j.toNatClampNeg (vp_nar .boolean x), L)
      | _ => False)
    | _ => False)
  | .lastore => (match st with
    | .inl (.inr x) :: .inl (.inl j) :: .inr (g, n) :: t => (match (jSh g).2 with
      | .inr (_, N, .inr 1) => vp_in j N ∧ K (np, ls, t, I, jupL L g n j.toNatClampNeg x)
      | _ => False)
    | _ => False)
  | .arraylength => (match st with
    | .inr (g, _) :: t => (match jro scr g with
      | some q => K (np, ls, .inl (.inl (nI q.1)) :: t, I, L)
      | none => (match (jSh g).2 with
        | .inr (_, N, _) => K (np, ls, .inl (.inl (nI N)) :: t, I, L)
        | _ => False))
    | _ => False)
  | .invokevirtual _ => (match jtake rB st [] with
    | some (.inr q :: as, t) => (match jcls q.1 rS, Nat.ble (jcat t) 8 with
      | true, true => call rA (.inr q :: as) (I, L) (fun v σ' => K (np, ls, jopt v t, σ'))
      | _, _ => False)
    | _ => False)
  | .invokestatic _ => (match Nat.beq rA 999 with
    | true => (match st with
      | .inl (.inl n) :: .inl (.inl dp) :: .inr (g', n') :: .inl (.inl sp) :: .inr (g, m) :: t => (match (jSh g).2, (jSh g').2, Nat.ble (jcat t) 8 with
        | .inr (_, N, .inr 0), .inr (_, N', .inr 0), true => (¬ sp < 0 ∧ ¬ dp < 0 ∧ ¬ n < 0 ∧ sp.toNatClampNeg + n.toNatClampNeg ≤ N ∧ dp.toNatClampNeg + n.toNatClampNeg ≤ N') ∧ K (np, ls, t, jcpy I g m g' n' sp.toNatClampNeg dp.toNatClampNeg n.toNatClampNeg, L)
        | _, _, _ => False)
      | _ => False)
    | false => (match Nat.beq rA 998 with
      | true => (match st with
        | .inl (.inl y) :: .inl (.inl x) :: t => (match Nat.ble (jcat t) 8 with
          | true => K (np, ls, .inl (.inl (if y < x then y else x)) :: t, I, L)
          | false => False)
        | _ => False)
      | false => (match Nat.beq rA 997 with
        | true => (match st with
          | .inl (.inl y) :: .inl (.inl x) :: t => (match Nat.ble (jcat t) 8 with
            | true => K (np, ls, .inl (.inl (if x < y then y else x)) :: t, I, L)
            | false => False)
          | _ => False)
        | false => (match jtake rB st [] with
          | some (as, t) => (match Nat.ble (jcat t) 8 with
            | true => call rA as (I, L) (fun v σ' => K (np, ls, jopt v t, σ'))
            | false => False)
          | none => False))))
  | .ireturn => (match st with
    | [.inl (.inl x)] => (match rA with
      | 0 => k (some (.inl (.inl x))) (I, L)
      | _ => (x = 0 ∨ x = 1) ∧ k (some (.inl (.inl x))) (I, L))
    | _ => False)
  | .lreturn => (match st with | [.inl (.inr x)] => k (some (.inl (.inr x))) (I, L) | _ => False)
  | .return_ => (match st with | [] => k none (I, L) | _ => False)
  | _ => False
noncomputable def jst (call : jQ) (k : jK) (scr : Option (Nat × (Nat → Int32))) (code : List jN) (x : jX) (K : jX → Prop) : Prop := match x with
  | (pc, ls, st, I, L) => (match jat code pc with
    | some (i, _, np, rA, rB, rC, rL, rS) => jstep call k scr i np rA rB rC rL rS ls st I L K
    | none => False)
/-- a method's body, from x on, comes to its end with k: the least such -/
noncomputable def jWB (call : jQ) (k : jK) (scr : Option (Nat × (Nat → Int32))) (code : List jN) (x : jX) : Prop := ∀ P : jX → Prop, (∀ y K, jst call k scr code y K → (∀ z, K z → P z) → P y) → P x
theorem jWB_step {call : jQ} {k : jK} {scr : Option (Nat × (Nat → Int32))} {code : List jN} {x : jX} (h : jst call k scr code x (jWB call k scr code)) : jWB call k scr code x := fun P hP => hP x _ h (fun z hz => hz P hP)
noncomputable def jel (n : Nat) : List Nat → Bool
  | [] => false
  | a :: t => match Nat.beq a n with
    | true => true
    | false => jel n t
/-- n instructions, or up to one of the stops -/
noncomputable def jrun (call : jQ) (k : jK) (scr : Option (Nat × (Nat → Int32))) (code : List jN) (stops : List Nat) (K : jX → Prop) : Nat → jX → Prop
  | 0, x => K x
  | n + 1, x => jst call k scr code x (fun y => match y with
    | (pc, z) => (match jel pc stops with
      | true => K (pc, z)
      | false => jrun call k scr code stops K n (pc, z)))
theorem jWB_run {call : jQ} {k : jK} {scr : Option (Nat × (Nat → Int32))} {code : List jN} (stops : List Nat) : ∀ (n : Nat) {x : jX}, jrun call k scr code stops (jWB call k scr code) n x → jWB call k scr code x
  | 0, _, h => h
  | n + 1, x, h => fun P hP => hP x _ h (fun z hz => by
    obtain ⟨pc, z⟩ := z
    dsimp only at hz
    cases he : jel pc stops with
    | true => rw [he] at hz; exact hz P hP
    | false => rw [he] at hz; exact jWB_run stops n hz P hP)
end
section
/-! what the small machine's values and cells are in the great one -/
noncomputable def jcv (ρ : Nat → Nat → Nat) : jV → Value
  | .inl (.inl x) => .int x
  | .inl (.inr x) => .long x
  | .inr q => .ref (ρ q.1 q.2)
noncomputable def jfv (ρ : Nat → Nat → Nat) (σ : jS) (g n k : Nat) : jF → Value
  | .inl f => .ref (ρ (f n).1 (f n).2)
  | .inr 1 => .long (σ.2 g n k)
  | .inr _ => .int (σ.1 g n k)
noncomputable def jfs (ρ : Nat → Nat → Nat) (σ : jS) (g n : Nat) : Nat → List jF → List Value
  | _, [] => []
  | k, f :: t => jfv ρ σ g n k f :: jfs ρ σ g n (k + 1) t
noncomputable def jce (cy : Nat → ClassId) (ρ : Nat → Nat → Nat) (σ : jS) (x : Nat × Nat) : va_E := match (jSh x.1).2 with
  | .inl (ci, fs) => .inr (ci, jfs ρ σ x.1 x.2 0 fs)
  | .inr (t, n, .inl f) => .inl (cy t, n, .inr (.inr (.inr (.inr (fun j => some (ρ (f x.2 j).1 (f x.2 j).2))))))
  | .inr (t, n, .inr 1) => .inl (cy t, n, .inr (.inl (σ.2 x.1 x.2)))
  | .inr (t, n, .inr _) => .inl (cy t, n, .inl (σ.1 x.1 x.2))
noncomputable def jcells : List (Nat × Nat) := (List.range 42).flatMap (fun g => (List.range (jSh g).1).map (fun i => (g, i)))
noncomputable def jws (cy : Nat → ClassId) (ρ : Nat → Nat → Nat) (σ : jS) : va_W := jcells.map (fun x => (ρ x.1 x.2, jce cy ρ σ x))
noncomputable def jtys (cy : Nat → ClassId) : List (ClassId × FieldType) := [(cy 0, .int), (cy 1, .long), (cy 2, .boolean), (cy 3, .object "LargerPacket$House"), (cy 4, .object "LargerPacket$Larder"), (cy 5, .array .int)]
theorem jSh_big {g : Nat} (h : 42 ≤ g) : jSh g = (0, .inl (99, [])) := by
  unfold jSh
  rw [List.getD_eq_getElem?_getD, List.getElem?_eq_none (by show jShl.length ≤ g; exact h)]
  rfl
theorem jcells_mem {g i : Nat} (h : i < (jSh g).1) : (g, i) ∈ jcells := by
  have hg : g < 42 := by
    rcases Nat.lt_or_ge g 42 with q | q
    · exact q
    · rw [jSh_big q] at h; exact absurd h (Nat.not_lt_zero _)
  exact List.mem_flatMap.mpr ⟨g, List.mem_range.mpr hg, List.mem_map.mpr ⟨i, List.mem_range.mpr h, rfl⟩⟩
theorem jcells_nodup : jcells.Nodup := by decide +kernel
theorem jws_get (cy : Nat → ClassId) (ρ : Nat → Nat → Nat) (σ : jS) {g i : Nat} (h : i < (jSh g).1) : ∃ q0 : Nat, jcells[q0]? = some (g, i) ∧ (jws cy ρ σ)[q0]? = some (ρ g i, jce cy ρ σ (g, i)) := by
  obtain ⟨q0, hq⟩ := List.getElem?_of_mem (jcells_mem h)
  exact ⟨q0, hq, by unfold jws; rw [List.getElem?_map, hq]; rfl⟩
theorem jws_set (cy : Nat → ClassId) (ρ : Nat → Nat → Nat) (σ σ' : jS) {g i q0 : Nat} (hq : jcells[q0]? = some (g, i)) (hne : ∀ x, x ≠ (g, i) → jce cy ρ σ' x = jce cy ρ σ x) : (jws cy ρ σ).set q0 (ρ g i, jce cy ρ σ' (g, i)) = jws cy ρ σ' := by
  have hlt : q0 < jcells.length := (List.getElem?_eq_some_iff.mp hq).1
  apply List.ext_getElem?
  intro j
  unfold jws
  rw [List.getElem?_set, List.length_map, List.getElem?_map, List.getElem?_map]
  by_cases e : q0 = j
  · subst e
    rw [if_pos rfl, if_pos hlt, hq]; rfl
  · rw [if_neg e]
    cases hj : jcells[j]? with
    | none => rfl
    | some y =>
      have hy : y ≠ (g, i) := by
        intro e2
        subst e2
        exact e ((List.getElem?_inj hlt jcells_nodup).mp (hq.trans hj.symm))
      simp only [Option.map_some, hne y hy]
theorem jup_ne {I : Nat → Nat → Nat → Int32} {g i j : Nat} {v : Int32} {x : Nat × Nat} (h : x ≠ (g, i)) : jup I g i j v x.1 x.2 = I x.1 x.2 := by
  funext c
  unfold jup
  rw [if_neg]
  rintro ⟨h1, h2, -⟩
  exact h (Prod.ext h1 h2)
theorem jupL_ne {I : Nat → Nat → Nat → Int64} {g i j : Nat} {v : Int64} {x : Nat × Nat} (h : x ≠ (g, i)) : jupL I g i j v x.1 x.2 = I x.1 x.2 := by
  funext c
  unfold jupL
  rw [if_neg]
  rintro ⟨h1, h2, -⟩
  exact h (Prod.ext h1 h2)
theorem jcpy_ne {I : Nat → Nat → Nat → Int32} {g i g' i' sp dp n : Nat} {x : Nat × Nat} (h : x ≠ (g', i')) : jcpy I g i g' i' sp dp n x.1 x.2 = I x.1 x.2 := by
  funext c
  unfold jcpy
  rw [if_neg]
  rintro ⟨h1, h2, -⟩
  exact h (Prod.ext h1 h2)
theorem jup_self (I : Nat → Nat → Nat → Int32) (g i j : Nat) (v : Int32) : jup I g i j v g i = upd (I g i) j v := by
  funext c
  unfold jup upd
  by_cases h : c = j <;> simp [h]
theorem jupL_self (I : Nat → Nat → Nat → Int64) (g i j : Nat) (v : Int64) : jupL I g i j v g i = vp_updL (I g i) j v := by
  funext c
  unfold jupL vp_updL
  by_cases h : c = j <;> simp [h]
theorem jcpy_self (I : Nat → Nat → Nat → Int32) (g i g' i' sp dp n : Nat) : jcpy I g i g' i' sp dp n g' i' = va_cpy (I g i) (I g' i') sp dp n := by
  funext c
  unfold jcpy va_cpy
  simp
theorem jfs_congr {ρ : Nat → Nat → Nat} {σ σ' : jS} {g n : Nat} (h1 : σ'.1 g n = σ.1 g n) (h2 : σ'.2 g n = σ.2 g n) : ∀ (fs : List jF) (k : Nat), jfs ρ σ' g n k fs = jfs ρ σ g n k fs
  | [], _ => rfl
  | f :: t, k => by
    show _ :: _ = _ :: _
    rw [jfs_congr h1 h2 t (k + 1)]
    congr 1
    unfold jfv
    split <;> simp [h1, h2]
theorem jce_congr {cy : Nat → ClassId} {ρ : Nat → Nat → Nat} {σ σ' : jS} {x : Nat × Nat} (h1 : σ'.1 x.1 x.2 = σ.1 x.1 x.2) (h2 : σ'.2 x.1 x.2 = σ.2 x.1 x.2) : jce cy ρ σ' x = jce cy ρ σ x := by
  unfold jce
  split
  · rw [jfs_congr h1 h2]
  · rfl
  · rw [h2]
  · rw [h1]
theorem jfs_len {ρ : Nat → Nat → Nat} {σ : jS} {g n : Nat} : ∀ (fs : List jF) (k : Nat), (jfs ρ σ g n k fs).length = fs.length
  | [], _ => rfl
  | _ :: t, k => by show _ + 1 = _ + 1; rw [jfs_len t (k + 1)]
theorem jfs_get {ρ : Nat → Nat → Nat} {σ : jS} {g n : Nat} : ∀ (fs : List jF) (k j : Nat) {f : jF}, fs[j]? = some f → (jfs ρ σ g n k fs)[j]? = some (jfv ρ σ g n (k + j) f)
  | [], _, _, _, h => by simp at h
  | f :: t, k, 0, f', h => by
    simp at h
    subst h
    rfl
  | f :: t, k, j + 1, f', h => by
    simp only [List.getElem?_cons_succ] at h
    show (jfs ρ σ g n (k + 1) t)[j]? = _
    rw [jfs_get t (k + 1) j h, Nat.add_assoc, Nat.add_comm 1 j]
theorem jfs_set {ρ : Nat → Nat → Nat} {σ σ' : jS} {g n : Nat} {v : Value} : ∀ (fs : List jF) (k j : Nat) {f : jF}, fs[j]? = some f → jfv ρ σ' g n (k + j) f = v → (∀ c f', c ≠ k + j → jfv ρ σ' g n c f' = jfv ρ σ g n c f') → (jfs ρ σ g n k fs).set j v = jfs ρ σ' g n k fs
  | [], _, _, _, h, _, _ => by simp at h
  | f :: t, k, 0, f', h, hv, hne => by
    simp at h
    subst h
    show v :: _ = _ :: _
    congr 1
    · exact hv.symm
    · have : ∀ (t : List jF) (m : Nat), k < m → jfs ρ σ g n m t = jfs ρ σ' g n m t := by
        intro t
        induction t with
        | nil => intros; rfl
        | cons a t ih => intro m hm; show _ :: _ = _ :: _; rw [ih (m + 1) (by omega), hne m a (by omega)]
      exact this t (k + 1) (by omega)
  | f :: t, k, j + 1, f', h, hv, hne => by
    simp only [List.getElem?_cons_succ] at h
    show _ :: (jfs ρ σ g n (k + 1) t).set j v = _ :: _
    congr 1
    · exact (hne k f (by omega)).symm
    · exact jfs_set t (k + 1) j h (by rw [← hv]; congr 1; omega) (fun c f' hc => hne c f' (by omega))
/-- locals -/
noncomputable def jloc (ρ : Nat → Nat → Nat) (nL : Nat) (ls : Array Slot) (jl : List (Option jV)) : Prop := jlen jl = nL ∧ ls.size = nL ∧ lv_wf ls ∧ ∀ (i : Nat) (v : jV), jget jl i = some v → ls[i]? = some (.val (jcv ρ v))
noncomputable def jlv (ρ : Nat → Nat → Nat) (jl : List (Option jV)) : Nat → List (Nat × Value)
  | 0 => []
  | n + 1 => (match jget jl n with | some v => [(n, jcv ρ v)] | none => []) ++ jlv ρ jl n
theorem jlv_mem {ρ : Nat → Nat → Nat} {jl : List (Option jV)} {q : Nat × Value} : ∀ n : Nat, q ∈ jlv ρ jl n ↔ ∃ v, q.1 < n ∧ jget jl q.1 = some v ∧ q.2 = jcv ρ v
  | 0 => by simp [jlv]
  | n + 1 => by
    rw [jlv, List.mem_append, jlv_mem n]
    constructor
    · rintro (h | ⟨v, h1, h2, h3⟩)
      · cases hg : jget jl n with
        | none => rw [hg] at h; simp at h
        | some v => rw [hg] at h; simp at h; subst h; exact ⟨v, Nat.lt_succ_self n, hg, rfl⟩
      · exact ⟨v, by omega, h2, h3⟩
    · rintro ⟨v, h1, h2, h3⟩
      by_cases e : q.1 = n
      · left
        rw [e] at h2
        rw [h2]
        simp
        exact Prod.ext e h3
      · right
        exact ⟨v, by omega, h2, h3⟩
theorem jget_lt : ∀ {jl : List (Option jV)} {i : Nat} {v : jV}, jget jl i = some v → i < jlen jl
  | [], _, _, h => by simp [jget] at h
  | _ :: t, 0, _, _ => by simp [jlen]
  | _ :: t, i + 1, v, h => by
    have h1 : jget t i = some v := h
    have := jget_lt h1
    simp [jlen]; omega
theorem jloc.has {ρ : Nat → Nat → Nat} {nL : Nat} {ls : Array Slot} {jl : List (Option jV)} (h : jloc ρ nL ls jl) : lv_has ls nL (jlv ρ jl nL) := by
  refine ⟨h.2.1, h.2.2.1, fun q hq => ?_⟩
  obtain ⟨v, -, h2, h3⟩ := (jlv_mem nL).mp hq
  rw [h.2.2.2 q.1 v h2, h3]
theorem jput_len : ∀ (jl : List (Option jV)) (j : Nat) (v : Option jV), jlen (jput jl j v) = jlen jl
  | [], _, _ => rfl
  | _ :: _, 0, _ => rfl
  | _ :: t, j + 1, v => by show _ + 1 = _ + 1; rw [jput_len t j v]
theorem jkill_len : ∀ (jl : List (Option jV)) (j : Nat), jlen (jkill jl j) = jlen jl
  | [], _ => rfl
  | _ :: _, 0 => rfl
  | _ :: _, 1 => rfl
  | _ :: t, j + 2 => by show _ + 1 = _ + 1; rw [jkill_len t (j + 1)]
theorem jput_get : ∀ (jl : List (Option jV)) (j : Nat) (v : Option jV) (i : Nat) (w : jV), jget (jput jl j v) i = some w → (i = j ∧ v = some w) ∨ (i ≠ j ∧ jget jl i = some w)
  | [], _, _, _, _, h => by simp [jput, jget] at h
  | _ :: _, 0, _, 0, _, h => Or.inl ⟨rfl, h⟩
  | _ :: _, 0, _, i + 1, _, h => Or.inr ⟨by omega, h⟩
  | _ :: _, j + 1, _, 0, _, h => Or.inr ⟨by omega, h⟩
  | _ :: t, j + 1, v, i + 1, w, h => by
    rcases jput_get t j v i w h with ⟨h1, h2⟩ | ⟨h1, h2⟩
    · exact Or.inl ⟨by omega, h2⟩
    · exact Or.inr ⟨by omega, h2⟩
theorem jkill_get : ∀ (jl : List (Option jV)) (j i : Nat) (w : jV), jget (jkill jl j) i = some w → jget jl i = some w ∧ (i + 1 = j → jcat1 w = 1)
  | [], _, _, _, h => by simp [jkill, jget] at h
  | _ :: _, 0, _, _, h => ⟨h, fun e => by omega⟩
  | none :: _, 1, 0, w, h => by simp [jkill, jget] at h
  | some (.inl (.inl x)) :: _, 1, 0, w, h => ⟨h, fun _ => by
    have e : some (Sum.inl (Sum.inl x)) = some w := h
    cases e; rfl⟩
  | some (.inl (.inr x)) :: _, 1, 0, w, h => by simp [jkill, jget] at h
  | some (.inr x) :: _, 1, 0, w, h => ⟨h, fun _ => by
    have e : some (Sum.inr x) = some w := h
    cases e; rfl⟩
  | _ :: _, 1, i + 1, _, h => ⟨h, fun e => by omega⟩
  | _ :: _, j + 2, 0, _, h => ⟨h, fun e => by omega⟩
  | _ :: t, j + 2, i + 1, w, h => by
    obtain ⟨h1, h2⟩ := jkill_get t (j + 1) i w h
    exact ⟨h1, fun e => h2 (by omega)⟩
theorem jcv_cat (ρ : Nat → Nat → Nat) (v : jV) : (jcv ρ v).category = jcat1 v := by
  rcases v with (v | v) | v <;> rfl
theorem jloc.set1 {ρ : Nat → Nat → Nat} {nL j : Nat} {ls : Array Slot} {jl : List (Option jV)} {v : jV} (h : jloc ρ nL ls jl) {ls' : Array Slot} (hl : lv_has ls' nL ((j, jcv ρ v) :: (jlv ρ jl nL).filter (fun q => !(q.1 == j) && !(q.1 + 1 == j && q.2.category == 2)))) : jloc ρ nL ls' (jset1 jl j v) := by
  refine ⟨by unfold jset1; rw [jput_len, jkill_len]; exact h.1, hl.1, hl.2.1, fun i w hw => ?_⟩
  rcases jput_get _ _ _ _ _ hw with ⟨h1, h2⟩ | ⟨h1, h2⟩
  · cases h2
    subst h1
    exact hl.2.2 _ List.mem_cons_self
  · obtain ⟨h3, h4⟩ := jkill_get _ _ _ _ h2
    refine hl.2.2 (i, jcv ρ w) (List.mem_cons_of_mem _ (List.mem_filter.mpr ⟨(jlv_mem nL).mpr ⟨w, by rw [← h.1]; exact jget_lt h3, h3, rfl⟩, ?_⟩))
    simp only [jcv_cat]
    by_cases e : i + 1 = j
    · simp [h1, h4 e]
    · simp [h1, e]
theorem jloc.set2 {ρ : Nat → Nat → Nat} {nL j : Nat} {ls : Array Slot} {jl : List (Option jV)} {v : jV} (h : jloc ρ nL ls jl) {ls' : Array Slot} (hl : lv_has ls' nL ((j, jcv ρ v) :: (jlv ρ jl nL).filter (fun q => !(q.1 == j) && (!(q.1 == j + 1) && !(q.1 + 1 == j && q.2.category == 2))))) : jloc ρ nL ls' (jset2 jl j v) := by
  refine ⟨by unfold jset2; rw [jput_len, jput_len, jkill_len]; exact h.1, hl.1, hl.2.1, fun i w hw => ?_⟩
  rcases jput_get _ _ _ _ _ hw with ⟨h1, h2⟩ | ⟨h0, hw⟩
  · cases h2
  rcases jput_get _ _ _ _ _ hw with ⟨h1, h2⟩ | ⟨h1, h2⟩
  · cases h2
    subst h1
    exact hl.2.2 _ List.mem_cons_self
  · obtain ⟨h3, h4⟩ := jkill_get _ _ _ _ h2
    refine hl.2.2 (i, jcv ρ w) (List.mem_cons_of_mem _ (List.mem_filter.mpr ⟨(jlv_mem nL).mpr ⟨w, by rw [← h.1]; exact jget_lt h3, h3, rfl⟩, ?_⟩))
    simp only [jcv_cat]
    by_cases e : i + 1 = j
    · simp [h1, h0, h4 e]
    · simp [h1, h0, e]
end
section
/-! what the program's tables are checked for, and the rows of the small machine's heap in the great one -/
noncomputable def jtab (pc : Nat) (lo : Int) : List Int → List (Int32 × Nat)
  | [] => []
  | o :: t => (Int32.ofInt lo, ((pc : Int) + o).toNat) :: jtab pc (lo + 1) t
noncomputable def jltab (pc : Nat) : List (Int × Int) → List (Int32 × Nat)
  | [] => []
  | q :: t => (Int32.ofInt q.1, ((pc : Int) + q.2).toNat) :: jltab pc t
noncomputable def jchk (on rz : Nat) (cc : ByteArray) (e : jN) : Bool := match e with
  | (pc, i, len, np, rA, rB, rC, rL, rS) => (decide (decode cc pc = .ok (i, len)) && Nat.beq (pc + len) np) && (match i with
  | .iconst z => Nat.beq len 1 && decide (Int32.ofInt z = rC)
  | .bipush z => Nat.beq len 2 && decide ((Int8.ofInt z).toInt32 = rC)
  | .sipush z => Nat.beq len 3 && decide ((Int16.ofInt z).toInt32 = rC)
  | .ldc x => Nat.beq len 2 && decide ((on, x, rC) ∈ jk1)
  | .lconst z => Nat.beq len 1 && decide (Int64.ofNat (z : Nat) = rL)
  | .ldc2_w x => Nat.beq len 3 && decide ((on, x, rL) ∈ jk2)
  | .iload j => Nat.beq len 2 && Nat.beq j rA
  | .lload j => Nat.beq len 2 && Nat.beq j rA
  | .aload j => Nat.beq len 2 && Nat.beq j rA
  | .iload_n j => Nat.beq len 1 && Nat.beq j rA
  | .lload_n j => Nat.beq len 1 && Nat.beq j rA
  | .aload_n j => Nat.beq len 1 && Nat.beq j rA
  | .istore j => Nat.beq len 2 && Nat.beq j rA
  | .lstore j => Nat.beq len 2 && Nat.beq j rA
  | .astore j => Nat.beq len 2 && Nat.beq j rA
  | .istore_n j => Nat.beq len 1 && Nat.beq j rA
  | .lstore_n j => Nat.beq len 1 && Nat.beq j rA
  | .astore_n j => Nat.beq len 1 && Nat.beq j rA
  | .iinc j z => Nat.beq len 3 && (Nat.beq j rA && decide (Int32.ofInt z = rC))
  | .goto o => Nat.beq len 3 && decide ((pc : Int) + o = (rA : Int))
  | .ifCond _ o => Nat.beq len 3 && decide ((pc : Int) + o = (rA : Int))
  | .if_icmp _ o => Nat.beq len 3 && decide ((pc : Int) + o = (rA : Int))
  | .tableswitch d lo hi offs => decide (((pc : Int) + d = (rA : Int)) ∧ (-2147483648 ≤ lo ∧ hi < 2147483648 ∧ lo + offs.toList.length = hi + 1) ∧ rS = jtab pc lo offs.toList ∧ ∀ o ∈ offs.toList, 0 ≤ (pc : Int) + o)
  | .lookupswitch d ps => decide (((pc : Int) + d = (rA : Int)) ∧ (ps.toList.zip (ps.toList.drop 1)).all (fun (a, next) => a.1 < next.1) = true ∧ rS = jltab pc ps.toList ∧ ∀ q ∈ ps.toList, 0 ≤ (pc : Int) + q.2 ∧ -2147483648 ≤ q.1 ∧ q.1 < 2147483648)
  | .getfield x => Nat.beq len 3 && (decide ((on, x, rB, rA, 0) ∈ jfl) || decide ((on, x, rB, rA, 1) ∈ jfl))
  | .putfield x => Nat.beq len 3 && (decide ((on, x, rB, rA, 0) ∈ jfl) || decide ((on, x, rB, rA, 1) ∈ jfl))
  | .getstatic x => Nat.beq len 3 && decide ((on, x) = jgs)
  | .invokevirtual x => Nat.beq len 3 && (match rS with | [q] => decide ((on, x, rA, rB, q.2) ∈ jvl) | _ => false)
  | .invokestatic x => Nat.beq len 3 && (match Nat.beq rA 999 with
    | true => decide ((on, x) ∈ jal)
    | false => (match Nat.beq rA 998 with
      | true => decide ((on, x, 998) ∈ jmt)
      | false => (match Nat.beq rA 997 with
        | true => decide ((on, x, 997) ∈ jmt)
        | false => decide ((on, x, rA, rB) ∈ jsl))))
  | .ireturn => Nat.beq len 1 && Nat.beq rA rz && Nat.ble rz 1
  | .lreturn => Nat.beq len 1 && Nat.beq rz 2
  | .return_ => Nat.beq len 1 && Nat.beq rz 3
  | _ => Nat.beq len 1)
noncomputable def jshchk : Bool := (List.range 42).all (fun g => match (jSh g).2 with
  | .inl (ci, fs) => (match vwCl[ci]? with
    | some (_, T, N) => Nat.beq fs.length N && (List.range N).all (fun k => match fs[k]? with
      | some (.inr 0) => decide ((T k).2.2.1 = "I" ∧ (T k).2.2.2 = false)
      | some (.inr 1) => decide ((T k).2.2.1 = "J" ∧ (T k).2.2.2 = false)
      | some (.inr 2) => decide ((T k).2.2.1 = "Z" ∧ (T k).2.2.2 = false)
      | some (.inl f) => (List.range (jSh g).1).all (fun n => decide ((f n).2 < (jSh (f n).1).1))
      | _ => false)
    | none => false)
  | .inr (t, _, .inr 0) => Nat.beq t 0
  | .inr (t, _, .inr 1) => Nat.beq t 1
  | .inr (t, _, .inr 2) => Nat.beq t 2
  | .inr (t, N, .inl f) => (Nat.beq t 3 || Nat.beq t 4 || Nat.beq t 5) && (List.range (jSh g).1).all (fun n => (List.range N).all (fun j => decide ((f n j).2 < (jSh (f n j).1).1)))
  | _ => false)
theorem jshchk_ok : jshchk = true := by decide +kernel
theorem jsh_lt {g n : Nat} (hn : n < (jSh g).1) : g < 42 := by
  rcases Nat.lt_or_ge g 42 with q | q
  · exact q
  · rw [jSh_big q] at hn; exact absurd hn (Nat.not_lt_zero _)
noncomputable def jfP (T : u_T) (k n : Nat) (f : jF) : Prop := match f with
  | .inr 0 => (T k).2.2.1 = "I" ∧ (T k).2.2.2 = false
  | .inr 1 => (T k).2.2.1 = "J" ∧ (T k).2.2.2 = false
  | .inr 2 => (T k).2.2.1 = "Z" ∧ (T k).2.2.2 = false
  | .inl f => (f n).2 < (jSh (f n).1).1
  | _ => False
theorem jsh_obj {g n ci : Nat} {fs : List jF} (hn : n < (jSh g).1) (h : (jSh g).2 = .inl (ci, fs)) : ∃ (C : String) (T : u_T) (N : Nat), vwCl[ci]? = some (C, T, N) ∧ fs.length = N ∧ ∀ (k : Nat) (f : jF), fs[k]? = some f → k < N ∧ jfP T k n f := by
  have h1 := List.all_eq_true.mp jshchk_ok g (List.mem_range.mpr (jsh_lt hn))
  simp only [h] at h1
  cases hv : vwCl[ci]? with
  | none => simp [hv] at h1
  | some q =>
    obtain ⟨C, T, N⟩ := q
    simp only [hv, Bool.and_eq_true] at h1
    obtain ⟨h2, h3⟩ := h1
    have h2 : fs.length = N := Nat.eq_of_beq_eq_true h2
    refine ⟨C, T, N, rfl, h2, fun k f hf => ?_⟩
    have hk : k < N := by rw [← h2]; exact (List.getElem?_eq_some_iff.mp hf).1
    refine ⟨hk, ?_⟩
    have h4 := List.all_eq_true.mp h3 k (List.mem_range.mpr hk)
    simp only [hf] at h4
    rcases f with f | (_ | _ | _ | z)
    · show (f n).2 < (jSh (f n).1).1
      exact of_decide_eq_true (List.all_eq_true.mp h4 n (List.mem_range.mpr hn))
    · show (T k).2.2.1 = "I" ∧ (T k).2.2.2 = false
      exact of_decide_eq_true h4
    · show (T k).2.2.1 = "J" ∧ (T k).2.2.2 = false
      exact of_decide_eq_true h4
    · show (T k).2.2.1 = "Z" ∧ (T k).2.2.2 = false
      exact of_decide_eq_true h4
    · exact absurd h4 (by simp)
theorem jsh_arr {g n t N z : Nat} (hn : n < (jSh g).1) (h : (jSh g).2 = .inr (t, N, .inr z)) : t = z ∧ z ≤ 2 := by
  have h1 := List.all_eq_true.mp jshchk_ok g (List.mem_range.mpr (jsh_lt hn))
  simp only [h] at h1
  rcases z with (_ | _ | _ | z)
  · exact ⟨Nat.eq_of_beq_eq_true h1, by decide⟩
  · exact ⟨Nat.eq_of_beq_eq_true h1, by decide⟩
  · exact ⟨Nat.eq_of_beq_eq_true h1, by decide⟩
  · exact absurd h1 (by simp)
theorem jsh_ref {g n t N : Nat} {f : Nat → Nat → Nat × Nat} (hn : n < (jSh g).1) (h : (jSh g).2 = .inr (t, N, .inl f)) : (t = 3 ∨ t = 4 ∨ t = 5) ∧ ∀ j, j < N → (f n j).2 < (jSh (f n j).1).1 := by
  have h1 := List.all_eq_true.mp jshchk_ok g (List.mem_range.mpr (jsh_lt hn))
  simp only [h, Bool.and_eq_true, Bool.or_eq_true] at h1
  obtain ⟨h2, h3⟩ := h1
  refine ⟨?_, fun j hj => of_decide_eq_true (List.all_eq_true.mp (List.all_eq_true.mp h3 n (List.mem_range.mpr hn)) j (List.mem_range.mpr hj))⟩
  rcases h2 with (h2 | h2) | h2
  · exact Or.inl (Nat.eq_of_beq_eq_true h2)
  · exact Or.inr (Or.inl (Nat.eq_of_beq_eq_true h2))
  · exact Or.inr (Or.inr (Nat.eq_of_beq_eq_true h2))
noncomputable def jok (v : jV) : Prop := match v with
  | .inr q => q.2 < (jSh q.1).1 ∨ ((q.1 = 900 ∨ q.1 = 901) ∧ q.2 = 0)
  | _ => True
/-- what a method's body stands on -/
noncomputable def jCx (p : Program) (s : State) (m : MethodId) (args : Array Value) (c : Code) (dC : Nat → ClassId) (dI : Nat → Nat → Nat) (cy : Nat → ClassId) (ρ : Nat → Nat → Nat) (A : Nat → Prop) (on : Nat) (cc : ByteArray) (nL : Nat) (scr : Option (Nat × (Nat → Int32))) : Prop :=
  p.tables.exec = Jvm.exec ∧ c.code = cc ∧ c.maxLocals = nL ∧ s.vm.findClass (jown on) = some m.cls ∧ (∀ w ∈ jtb, w.before args s = true) ∧ va_K (dC, dI) vwCl (jtys cy) s ∧ (∀ q, s.heap.size ≤ q → A q) ∧ (∀ w ∈ jnl, va_Nw w s) ∧ va_Z "LargerPacket" "LETTERS" "[I" (.ref (ρ 900 0)) A s s.heap ∧ va_T .int (ρ 900 0) 6 (fun j => .int (jletters j)) A s s.heap ∧ (∀ q, scr = some q → va_T .int (ρ 901 0) q.1 (fun j => .int (q.2 j)) A s s.heap)
noncomputable def jWd (dC : Nat → ClassId) (dI : Nat → Nat → Nat) (cy : Nat → ClassId) (ρ : Nat → Nat → Nat) (A : Nat → Prop) (H0 H : Heap) (locs : List Loc) (σ : jS) : Prop := va_P (dC, dI) vwCl (jws cy ρ σ) H ∧ va_D A (jws cy ρ σ) ∧ va_S A H0 H locs
section JR
variable {p : Program} {l : Launch} {e : Env} {R : Room} {s : State} {m : MethodId} {args : Array Value} {below : List Frame} {meth : Method} {c : Code} {H : Heap} {locs : List Loc} {cells slots : Nat} {Q : State → Prop}
variable {cc : ByteArray} {pc : Nat} {ls : Array Slot} {rest : List Value} {dC : Nat → ClassId} {dI : Nat → Nat → Nat} {cy : Nat → ClassId} {ρ : Nat → Nat → Nat} {A : Nat → Prop} {on nL : Nat} {scr : Option (Nat × (Nat → Int32))} {σ : jS} {g n : Nat}
theorem jr_get (CX : jCx p s m args c dC dI cy ρ A on cc nL scr) (hw : jWd dC dI cy ρ A s.heap H locs σ) (hn : n < (jSh g).1) {ci k idx z : Nat} {fs : List jF} {f : jF} (hsh : (jSh g).2 = .inl (ci, fs)) (hf : fs[k]? = some f) (hl : (on, idx, ci, k, z) ∈ jfl) (hdg : decode cc pc = .ok (.getfield idx, 3))
    (kk : W p l e R s m args below meth c H locs cells slots Q (F0 m (pc + 3) ls (jfv ρ σ g n k f :: rest))) : W p l e R s m args below meth c H locs cells slots Q (F0 m pc ls (.ref (ρ g n) :: rest)) := by
  obtain ⟨hx, hb, hml, hown, hts, hK, hA, hN, hZ, hT, hX⟩ := CX
  obtain ⟨hP, hD, hS⟩ := hw
  obtain ⟨q0, -, hq⟩ := jws_get cy ρ σ hn
  obtain ⟨C, T, N, hc, hk, hTk, hlk⟩ := jfl_ok _ hl
  obtain ⟨hin, ty0, hty, hnm⟩ := jc_ok _ _ _ _ hc
  have he : (jws cy ρ σ)[q0]? = some (ρ g n, .inr (ci, jfs ρ σ g n 0 fs)) := by rw [hq]; simp only [jce, hsh]
  have hv : (jfs ρ σ g n 0 fs)[k]? = some (jfv ρ σ g n k f) := by
    have := jfs_get (ρ := ρ) (σ := σ) (g := g) (n := n) fs 0 k hf
    rw [Nat.zero_add] at this
    exact this
  rcases z with _ | z
  · exact va_get hx hb hts hin hown hK hP q0 he hc k hk (hts _ hlk) (fun x h => by rw [← hTk]; exact h) hv hdg kk
  · exact va_getN hx hb hts hin hown hK hP q0 he hc k hk (va_Nw.use rfl (hN _ hlk)) (fun x h => by rw [← hTk]; exact h) hv hdg kk
theorem jr_put (CX : jCx p s m args c dC dI cy ρ A on cc nL scr) (hw : jWd dC dI cy ρ A s.heap H locs σ) (hn : n < (jSh g).1) {ci k idx z : Nat} {fs : List jF} {f : jF} (hsh : (jSh g).2 = .inl (ci, fs)) (hf : fs[k]? = some f) (hl : (on, idx, ci, k, z) ∈ jfl) (hdg : decode cc pc = .ok (.putfield idx, 3)) {σ' : jS} {v : Value} {ty : FieldType} {d : String}
    (hfd : ∀ T : u_T, jfP T k n f → (T k).2.2.1 = d ∧ (T k).2.2.2 = false) (hd : parseFieldDescriptor d = some ty) (hna : narrow ty v = v) (hfi : fits ty v = true) (hv : jfv ρ σ' g n k f = v) (hne : ∀ a f', a ≠ k → jfv ρ σ' g n a f' = jfv ρ σ g n a f') (hoth : ∀ x, x ≠ (g, n) → jce cy ρ σ' x = jce cy ρ σ x)
    (kk : ∀ (H1 : Heap) (locs1 : List Loc), jWd dC dI cy ρ A s.heap H1 locs1 σ' → W p l e R s m args below meth c H1 locs1 cells slots Q (F0 m (pc + 3) ls rest)) : W p l e R s m args below meth c H locs cells slots Q (F0 m pc ls (v :: .ref (ρ g n) :: rest)) := by
  obtain ⟨hx, hb, hml, hown, hts, hK, hA, hN, hZ, hT, hX⟩ := CX
  obtain ⟨hP, hD, hS⟩ := hw
  obtain ⟨q0, hq0, hq⟩ := jws_get cy ρ σ hn
  obtain ⟨C, T, N, hc, hk, hTk, hlk⟩ := jfl_ok _ hl
  obtain ⟨hin, ty0, hty, hnm⟩ := jc_ok _ _ _ _ hc
  obtain ⟨C', T', N', hc', hlen, hfs⟩ := jsh_obj hn hsh
  cases hc.symm.trans hc'
  obtain ⟨hd1, hfin⟩ := hfd T (hfs k f hf).2
  have he : (jws cy ρ σ)[q0]? = some (ρ g n, .inr (ci, jfs ρ σ g n 0 fs)) := by rw [hq]; simp only [jce, hsh]
  have hset : (jws cy ρ σ).set q0 (ρ g n, .inr (ci, (jfs ρ σ g n 0 fs).set k v)) = jws cy ρ σ' := by
    rw [jfs_set (σ' := σ') fs 0 k hf (by rw [Nat.zero_add]; exact hv) (fun a f' ha => hne a f' (by omega))]
    rw [← jws_set cy ρ σ σ' hq0 hoth]
    simp only [jce, hsh]
  have hlt : k < (jfs ρ σ g n 0 fs).length := by rw [jfs_len, hlen]; exact hk
  rcases z with _ | z
  · exact va_put hx hb hts hin ty0 hty hnm hown hK hP hD hS q0 he hc k hk (hts _ hlk) (fun x h => by rw [← hTk]; exact h) hfin (by rw [hd1]; exact hd) hna hfi hlt hdg (fun H1 locs1 h1 h2 h3 => kk H1 locs1 ⟨by rw [← hset]; exact h1, by rw [← hset]; exact h2, h3⟩)
  · exact va_putN hx hb hts hin ty0 hty hnm hown hK hP hD hS q0 he hc k hk (va_Nw.use rfl (hN _ hlk)) (fun x h => by rw [← hTk]; exact h) hfin (by rw [hd1]; exact hd) hna hfi hlt hdg (fun H1 locs1 h1 h2 h3 => kk H1 locs1 ⟨by rw [← hset]; exact h1, by rw [← hset]; exact h2, h3⟩)
theorem jr_iald (CX : jCx p s m args c dC dI cy ρ A on cc nL scr) (hw : jWd dC dI cy ρ A s.heap H locs σ) (hn : n < (jSh g).1) {t N : Nat} (hsh : (jSh g).2 = .inr (t, N, .inr 0)) {i : Int32} (hi : vp_in i N) (hdg : decode cc pc = .ok (.iaload, 1))
    (kk : W p l e R s m args below meth c H locs cells slots Q (F0 m (pc + 1) ls (.int (σ.1 g n i.toNatClampNeg) :: rest))) : W p l e R s m args below meth c H locs cells slots Q (F0 m pc ls (.int i :: .ref (ρ g n) :: rest)) := by
  obtain ⟨hx, hb, hml, hown, hts, hK, hA, hN, hZ, hT, hX⟩ := CX
  obtain ⟨hP, hD, hS⟩ := hw
  obtain ⟨q0, -, hq⟩ := jws_get cy ρ σ hn
  obtain ⟨rfl, -⟩ := jsh_arr hn hsh
  exact va_iald hx hb hK hP q0 0 (cA := cy 0) (n := N) (f := σ.1 g n) (by rw [hq]; simp only [jce, hsh]) rfl hi hdg kk
theorem jr_zald (CX : jCx p s m args c dC dI cy ρ A on cc nL scr) (hw : jWd dC dI cy ρ A s.heap H locs σ) (hn : n < (jSh g).1) {t N : Nat} (hsh : (jSh g).2 = .inr (t, N, .inr 2)) {i : Int32} (hi : vp_in i N) (hdg : decode cc pc = .ok (.baload, 1))
    (kk : W p l e R s m args below meth c H locs cells slots Q (F0 m (pc + 1) ls (.int (σ.1 g n i.toNatClampNeg) :: rest))) : W p l e R s m args below meth c H locs cells slots Q (F0 m pc ls (.int i :: .ref (ρ g n) :: rest)) := by
  obtain ⟨hx, hb, hml, hown, hts, hK, hA, hN, hZ, hT, hX⟩ := CX
  obtain ⟨hP, hD, hS⟩ := hw
  obtain ⟨q0, -, hq⟩ := jws_get cy ρ σ hn
  obtain ⟨rfl, -⟩ := jsh_arr hn hsh
  exact va_zald hx hb hK hP q0 2 (cA := cy 2) (n := N) (f := σ.1 g n) (by rw [hq]; simp only [jce, hsh]) rfl hi hdg kk
theorem jr_lald (CX : jCx p s m args c dC dI cy ρ A on cc nL scr) (hw : jWd dC dI cy ρ A s.heap H locs σ) (hn : n < (jSh g).1) {t N : Nat} (hsh : (jSh g).2 = .inr (t, N, .inr 1)) {i : Int32} (hi : vp_in i N) (hdg : decode cc pc = .ok (.laload, 1))
    (kk : W p l e R s m args below meth c H locs cells slots Q (F0 m (pc + 1) ls (.long (σ.2 g n i.toNatClampNeg) :: rest))) : W p l e R s m args below meth c H locs cells slots Q (F0 m pc ls (.int i :: .ref (ρ g n) :: rest)) := by
  obtain ⟨hx, hb, hml, hown, hts, hK, hA, hN, hZ, hT, hX⟩ := CX
  obtain ⟨hP, hD, hS⟩ := hw
  obtain ⟨q0, -, hq⟩ := jws_get cy ρ σ hn
  obtain ⟨rfl, -⟩ := jsh_arr hn hsh
  exact va_lald hx hb hK hP q0 1 (cA := cy 1) (n := N) (f := σ.2 g n) (by rw [hq]; simp only [jce, hsh]) rfl hi hdg kk
theorem jr_aald (CX : jCx p s m args c dC dI cy ρ A on cc nL scr) (hw : jWd dC dI cy ρ A s.heap H locs σ) (hn : n < (jSh g).1) {t N : Nat} {f : Nat → Nat → Nat × Nat} (hsh : (jSh g).2 = .inr (t, N, .inl f)) {i : Int32} (hi : vp_in i N) (hdg : decode cc pc = .ok (.aaload, 1))
    (kk : W p l e R s m args below meth c H locs cells slots Q (F0 m (pc + 1) ls (.ref (ρ (f n i.toNatClampNeg).1 (f n i.toNatClampNeg).2) :: rest))) : W p l e R s m args below meth c H locs cells slots Q (F0 m pc ls (.int i :: .ref (ρ g n) :: rest)) := by
  obtain ⟨hx, hb, hml, hown, hts, hK, hA, hN, hZ, hT, hX⟩ := CX
  obtain ⟨hP, hD, hS⟩ := hw
  obtain ⟨q0, -, hq⟩ := jws_get cy ρ σ hn
  obtain ⟨ht, -⟩ := jsh_ref hn hsh
  have ha : (jws cy ρ σ)[q0]? = some (ρ g n, .inl (cy t, N, .inr (.inr (.inr (.inr (fun j => some (ρ (f n j).1 (f n j).2))))))) := by rw [hq]; simp only [jce, hsh]
  have hlt : i.toNatClampNeg < N := Nat.not_le.mp fun q => hi (Or.inr q)
  rcases ht with rfl | rfl | rfl
  · exact W.aald (v := .ref (ρ (f n i.toNatClampNeg).1 (f n i.toNatClampNeg).2)) (ty := .object "LargerPacket$House") hx hb (hP q0 _ ha) ((hK.2 3 _ rfl).1 N (fun j => va_rf (some (ρ (f n j).1 (f n j).2)))) rfl (fun q => by cases q) (by show ¬ (i < 0 ∨ (arrV _ _ _).slots.size ≤ _); rw [arrV_size]; exact hi) (by show (arrV _ _ _).slots[_]? = _; rw [arrV_read _ _ hlt]; rfl) rfl rfl hdg kk
  · exact W.aald (v := .ref (ρ (f n i.toNatClampNeg).1 (f n i.toNatClampNeg).2)) (ty := .object "LargerPacket$Larder") hx hb (hP q0 _ ha) ((hK.2 4 _ rfl).1 N (fun j => va_rf (some (ρ (f n j).1 (f n j).2)))) rfl (fun q => by cases q) (by show ¬ (i < 0 ∨ (arrV _ _ _).slots.size ≤ _); rw [arrV_size]; exact hi) (by show (arrV _ _ _).slots[_]? = _; rw [arrV_read _ _ hlt]; rfl) rfl rfl hdg kk
  · exact W.aald (v := .ref (ρ (f n i.toNatClampNeg).1 (f n i.toNatClampNeg).2)) (ty := .array .int) hx hb (hP q0 _ ha) ((hK.2 5 _ rfl).1 N (fun j => va_rf (some (ρ (f n j).1 (f n j).2)))) rfl (fun q => by cases q) (by show ¬ (i < 0 ∨ (arrV _ _ _).slots.size ≤ _); rw [arrV_size]; exact hi) (by show (arrV _ _ _).slots[_]? = _; rw [arrV_read _ _ hlt]; rfl) rfl rfl hdg kk
theorem jr_alen (CX : jCx p s m args c dC dI cy ρ A on cc nL scr) (hw : jWd dC dI cy ρ A s.heap H locs σ) (hn : n < (jSh g).1) {t N : Nat} {z : (Nat → Nat → Nat × Nat) ⊕ Nat} (hsh : (jSh g).2 = .inr (t, N, z)) (hdg : decode cc pc = .ok (.arraylength, 1))
    (kk : W p l e R s m args below meth c H locs cells slots Q (F0 m (pc + 1) ls (.int (nI N) :: rest))) : W p l e R s m args below meth c H locs cells slots Q (F0 m pc ls (.ref (ρ g n) :: rest)) := by
  obtain ⟨hx, hb, hml, hown, hts, hK, hA, hN, hZ, hT, hX⟩ := CX
  obtain ⟨hP, hD, hS⟩ := hw
  obtain ⟨q0, -, hq⟩ := jws_get cy ρ σ hn
  rcases z with f | z
  · obtain ⟨ht, -⟩ := jsh_ref hn hsh
    have ha : (jws cy ρ σ)[q0]? = some (ρ g n, .inl (cy t, N, .inr (.inr (.inr (.inr (fun j => some (ρ (f n j).1 (f n j).2))))))) := by rw [hq]; simp only [jce, hsh]
    rcases ht with rfl | rfl | rfl
    · exact va_alen hx hb hK hP q0 3 ha rfl (v := nI N) rfl hdg kk
    · exact va_alen hx hb hK hP q0 4 ha rfl (v := nI N) rfl hdg kk
    · exact va_alen hx hb hK hP q0 5 ha rfl (v := nI N) rfl hdg kk
  · obtain ⟨ht, hz⟩ := jsh_arr hn hsh
    rcases (show z = 0 ∨ z = 1 ∨ z = 2 by omega) with h0 | h0 | h0
    · subst h0; subst ht
      have ha : (jws cy ρ σ)[q0]? = some (ρ g n, .inl (cy 0, N, .inl (σ.1 g n))) := by rw [hq]; simp only [jce, hsh]
      exact va_alen hx hb hK hP q0 0 ha rfl (v := nI N) rfl hdg kk
    · subst h0; subst ht
      have ha : (jws cy ρ σ)[q0]? = some (ρ g n, .inl (cy 1, N, .inr (.inl (σ.2 g n)))) := by rw [hq]; simp only [jce, hsh]
      exact va_alen hx hb hK hP q0 1 ha rfl (v := nI N) rfl hdg kk
    · subst h0; subst ht
      have ha : (jws cy ρ σ)[q0]? = some (ρ g n, .inl (cy 2, N, .inl (σ.1 g n))) := by rw [hq]; simp only [jce, hsh]
      exact va_alen hx hb hK hP q0 2 ha rfl (v := nI N) rfl hdg kk
theorem jr_iast (CX : jCx p s m args c dC dI cy ρ A on cc nL scr) (hw : jWd dC dI cy ρ A s.heap H locs σ) (hn : n < (jSh g).1) {t N : Nat} (hsh : (jSh g).2 = .inr (t, N, .inr 0)) {i v : Int32} (hi : vp_in i N) (hdg : decode cc pc = .ok (.iastore, 1))
    (kk : ∀ (H1 : Heap) (locs1 : List Loc), jWd dC dI cy ρ A s.heap H1 locs1 (jup σ.1 g n i.toNatClampNeg v, σ.2) → W p l e R s m args below meth c H1 locs1 cells slots Q (F0 m (pc + 1) ls rest)) : W p l e R s m args below meth c H locs cells slots Q (F0 m pc ls (.int v :: .int i :: .ref (ρ g n) :: rest)) := by
  obtain ⟨hx, hb, hml, hown, hts, hK, hA, hN, hZ, hT, hX⟩ := CX
  obtain ⟨hP, hD, hS⟩ := hw
  obtain ⟨q0, hq0, hq⟩ := jws_get cy ρ σ hn
  obtain ⟨rfl, -⟩ := jsh_arr hn hsh
  have hset : (jws cy ρ σ).set q0 (ρ g n, .inl (cy 0, N, .inl (upd (σ.1 g n) i.toNatClampNeg v))) = jws cy ρ (jup σ.1 g n i.toNatClampNeg v, σ.2) := by
    rw [← jws_set cy ρ σ (jup σ.1 g n i.toNatClampNeg v, σ.2) hq0 (fun x hx => jce_congr (jup_ne hx) rfl)]
    simp only [jce, hsh, jup_self]
  exact va_iast hx hb hK hP hD hS q0 0 (cA := cy 0) (n := N) (f := σ.1 g n) (by rw [hq]; simp only [jce, hsh]) rfl hi hdg (fun H1 locs1 h1 h2 h3 => kk H1 locs1 ⟨by rw [← hset]; exact h1, by rw [← hset]; exact h2, h3⟩)
theorem jr_zast (CX : jCx p s m args c dC dI cy ρ A on cc nL scr) (hw : jWd dC dI cy ρ A s.heap H locs σ) (hn : n < (jSh g).1) {t N : Nat} (hsh : (jSh g).2 = .inr (t, N, .inr 2)) {i v : Int32} (hi : vp_in i N) (hdg : decode cc pc = .ok (.bastore, 1))
    (kk : ∀ (H1 : Heap) (locs1 : List Loc), jWd dC dI cy ρ A s.heap H1 locs1 (jup σ.1 g n i.toNatClampNeg (vp_nar .boolean v), σ.2) → W p l e R s m args below meth c H1 locs1 cells slots Q (F0 m (pc + 1) ls rest)) : W p l e R s m args below meth c H locs cells slots Q (F0 m pc ls (.int v :: .int i :: .ref (ρ g n) :: rest)) := by
  obtain ⟨hx, hb, hml, hown, hts, hK, hA, hN, hZ, hT, hX⟩ := CX
  obtain ⟨hP, hD, hS⟩ := hw
  obtain ⟨q0, hq0, hq⟩ := jws_get cy ρ σ hn
  obtain ⟨rfl, -⟩ := jsh_arr hn hsh
  have hset : (jws cy ρ σ).set q0 (ρ g n, .inl (cy 2, N, .inl (upd (σ.1 g n) i.toNatClampNeg (vp_nar .boolean v)))) = jws cy ρ (jup σ.1 g n i.toNatClampNeg (vp_nar .boolean v), σ.2) := by
    rw [← jws_set cy ρ σ (jup σ.1 g n i.toNatClampNeg (vp_nar .boolean v), σ.2) hq0 (fun x hx => jce_congr (jup_ne hx) rfl)]
    simp only [jce, hsh, jup_self]
  exact va_zast hx hb hK hP hD hS q0 2 (cA := cy 2) (n := N) (f := σ.1 g n) (by rw [hq]; simp only [jce, hsh]) rfl hi hdg (fun H1 locs1 h1 h2 h3 => kk H1 locs1 ⟨by rw [← hset]; exact h1, by rw [← hset]; exact h2, h3⟩)
theorem jr_last (CX : jCx p s m args c dC dI cy ρ A on cc nL scr) (hw : jWd dC dI cy ρ A s.heap H locs σ) (hn : n < (jSh g).1) {t N : Nat} (hsh : (jSh g).2 = .inr (t, N, .inr 1)) {i : Int32} {v : Int64} (hi : vp_in i N) (hdg : decode cc pc = .ok (.lastore, 1))
    (kk : ∀ (H1 : Heap) (locs1 : List Loc), jWd dC dI cy ρ A s.heap H1 locs1 (σ.1, jupL σ.2 g n i.toNatClampNeg v) → W p l e R s m args below meth c H1 locs1 cells slots Q (F0 m (pc + 1) ls rest)) : W p l e R s m args below meth c H locs cells slots Q (F0 m pc ls (.long v :: .int i :: .ref (ρ g n) :: rest)) := by
  obtain ⟨hx, hb, hml, hown, hts, hK, hA, hN, hZ, hT, hX⟩ := CX
  obtain ⟨hP, hD, hS⟩ := hw
  obtain ⟨q0, hq0, hq⟩ := jws_get cy ρ σ hn
  obtain ⟨rfl, -⟩ := jsh_arr hn hsh
  have hset : (jws cy ρ σ).set q0 (ρ g n, .inl (cy 1, N, .inr (.inl (vp_updL (σ.2 g n) i.toNatClampNeg v)))) = jws cy ρ (σ.1, jupL σ.2 g n i.toNatClampNeg v) := by
    rw [← jws_set cy ρ σ (σ.1, jupL σ.2 g n i.toNatClampNeg v) hq0 (fun x hx => jce_congr rfl (jupL_ne hx))]
    simp only [jce, hsh, jupL_self]
  exact va_last hx hb hK hP hD hS q0 1 (cA := cy 1) (n := N) (f := σ.2 g n) (by rw [hq]; simp only [jce, hsh]) rfl hi hdg (fun H1 locs1 h1 h2 h3 => kk H1 locs1 ⟨by rw [← hset]; exact h1, by rw [← hset]; exact h2, h3⟩)
theorem jr_copy (CX : jCx p s m args c dC dI cy ρ A on cc nL scr) (hw : jWd dC dI cy ρ A s.heap H locs σ) {g' n' : Nat} (hn : n < (jSh g).1) (hn' : n' < (jSh g').1) {t N t' N' : Nat} (hsh : (jSh g).2 = .inr (t, N, .inr 0)) (hsh' : (jSh g').2 = .inr (t', N', .inr 0)) {sp dp z : Int32} (h1 : ¬ sp < 0) (h2 : ¬ dp < 0) (h3 : ¬ z < 0) (h4 : sp.toNatClampNeg + z.toNatClampNeg ≤ N) (h5 : dp.toNatClampNeg + z.toNatClampNeg ≤ N') {idx : Nat} (hl : (on, idx) ∈ jal) (hls : ls.size = nL) (hframes : 1 ≤ R.frames) (hlocals : (rest.map fun v => v.category).sum + 18 ≤ R.locals) (hdg : decode cc pc = .ok (.invokestatic idx, 3))
    (kk : ∀ (H1 : Heap) (locs1 : List Loc), jWd dC dI cy ρ A s.heap H1 locs1 (jcpy σ.1 g n g' n' sp.toNatClampNeg dp.toNatClampNeg z.toNatClampNeg, σ.2) → W p l e R s m args below meth c H1 locs1 cells slots Q (F0 m (pc + 3) ls rest)) : W p l e R s m args below meth c H locs cells slots Q (F0 m pc ls (.int z :: .int dp :: .ref (ρ g' n') :: .int sp :: .ref (ρ g n) :: rest)) := by
  obtain ⟨hx, hb, hml, hown, hts, hK, hA, hN, hZ, hT, hX⟩ := CX
  obtain ⟨hP, hD, hS⟩ := hw
  obtain ⟨q0, hq0, hq⟩ := jws_get cy ρ σ hn
  obtain ⟨q1, hq1, hq'⟩ := jws_get cy ρ σ hn'
  obtain ⟨rfl, -⟩ := jsh_arr hn hsh
  obtain ⟨rfl, -⟩ := jsh_arr hn' hsh'
  have hset : (jws cy ρ σ).set q1 (ρ g' n', .inl (cy 0, N', .inl (va_cpy (σ.1 g n) (σ.1 g' n') sp.toNatClampNeg dp.toNatClampNeg z.toNatClampNeg))) = jws cy ρ (jcpy σ.1 g n g' n' sp.toNatClampNeg dp.toNatClampNeg z.toNatClampNeg, σ.2) := by
    rw [← jws_set cy ρ σ (jcpy σ.1 g n g' n' sp.toNatClampNeg dp.toNatClampNeg z.toNatClampNeg, σ.2) hq1 (fun x hx => jce_congr (jcpy_ne hx) rfl)]
    simp only [jce, hsh', jcpy_self]
  exact va_copyi (own := jown on) hx hb (by rw [hml, hls]) hown (hts _ (jal_ok _ hl)) (hts _ jac_nat) (hts _ jac_sta) (hts _ jac_ini) hK hP hD hS q0 q1 0 0 (c0 := cy 0) (c1 := cy 0) (n0 := N) (n1 := N') (f := σ.1 g n) (g := σ.1 g' n') (by rw [hq]; simp only [jce, hsh]) (by rw [hq']; simp only [jce, hsh']) rfl rfl rfl h1 h2 h3 h4 h5 (fun _ _ => rfl) hframes hlocals hdg (fun H1 locs1 h1 h2 h3 => kk H1 locs1 ⟨by rw [← hset]; exact h1, by rw [← hset]; exact h2, h3⟩)
end JR
end
section
/-! the code's bytes gone through once, from the first to the last -/
noncomputable def jwrs (on rz : Nat) (e : jN) : Bool := match e with
  | (pc, i, len, np, rA, rB, rC, rL, rS) => (match i with
  | .iconst z => Nat.beq len 1 && decide (Int32.ofInt z = rC)
  | .bipush z => Nat.beq len 2 && decide ((Int8.ofInt z).toInt32 = rC)
  | .sipush z => Nat.beq len 3 && decide ((Int16.ofInt z).toInt32 = rC)
  | .ldc x => Nat.beq len 2 && decide ((on, x, rC) ∈ jk1)
  | .lconst z => Nat.beq len 1 && decide (Int64.ofNat (z : Nat) = rL)
  | .ldc2_w x => Nat.beq len 3 && decide ((on, x, rL) ∈ jk2)
  | .iload j => Nat.beq len 2 && Nat.beq j rA
  | .lload j => Nat.beq len 2 && Nat.beq j rA
  | .aload j => Nat.beq len 2 && Nat.beq j rA
  | .iload_n j => Nat.beq len 1 && Nat.beq j rA
  | .lload_n j => Nat.beq len 1 && Nat.beq j rA
  | .aload_n j => Nat.beq len 1 && Nat.beq j rA
  | .istore j => Nat.beq len 2 && Nat.beq j rA
  | .lstore j => Nat.beq len 2 && Nat.beq j rA
  | .astore j => Nat.beq len 2 && Nat.beq j rA
  | .istore_n j => Nat.beq len 1 && Nat.beq j rA
  | .lstore_n j => Nat.beq len 1 && Nat.beq j rA
  | .astore_n j => Nat.beq len 1 && Nat.beq j rA
  | .iinc j z => Nat.beq len 3 && (Nat.beq j rA && decide (Int32.ofInt z = rC))
  | .goto o => Nat.beq len 3 && decide ((pc : Int) + o = (rA : Int))
  | .ifCond _ o => Nat.beq len 3 && decide ((pc : Int) + o = (rA : Int))
  | .if_icmp _ o => Nat.beq len 3 && decide ((pc : Int) + o = (rA : Int))
  | .tableswitch d lo hi offs => decide (((pc : Int) + d = (rA : Int)) ∧ (-2147483648 ≤ lo ∧ hi < 2147483648 ∧ lo + offs.toList.length = hi + 1) ∧ rS = jtab pc lo offs.toList ∧ ∀ o ∈ offs.toList, 0 ≤ (pc : Int) + o)
  | .lookupswitch d ps => decide (((pc : Int) + d = (rA : Int)) ∧ (ps.toList.zip (ps.toList.drop 1)).all (fun (a, next) => a.1 < next.1) = true ∧ rS = jltab pc ps.toList ∧ ∀ q ∈ ps.toList, 0 ≤ (pc : Int) + q.2 ∧ -2147483648 ≤ q.1 ∧ q.1 < 2147483648)
  | .getfield x => Nat.beq len 3 && (decide ((on, x, rB, rA, 0) ∈ jfl) || decide ((on, x, rB, rA, 1) ∈ jfl))
  | .putfield x => Nat.beq len 3 && (decide ((on, x, rB, rA, 0) ∈ jfl) || decide ((on, x, rB, rA, 1) ∈ jfl))
  | .getstatic x => Nat.beq len 3 && decide ((on, x) = jgs)
  | .invokevirtual x => Nat.beq len 3 && (match rS with | [q] => decide ((on, x, rA, rB, q.2) ∈ jvl) | _ => false)
  | .invokestatic x => Nat.beq len 3 && (match Nat.beq rA 999 with
    | true => decide ((on, x) ∈ jal)
    | false => (match Nat.beq rA 998 with
      | true => decide ((on, x, 998) ∈ jmt)
      | false => (match Nat.beq rA 997 with
        | true => decide ((on, x, 997) ∈ jmt)
        | false => decide ((on, x, rA, rB) ∈ jsl))))
  | .ireturn => Nat.beq len 1 && Nat.beq rA rz && Nat.ble rz 1
  | .lreturn => Nat.beq len 1 && Nat.beq rz 2
  | .return_ => Nat.beq len 1 && Nat.beq rz 3
  | _ => Nat.beq len 1)
theorem wk_u1 {cc : ByteArray} {p : Nat} {c : UInt8} {t : List UInt8} (hd : cc.data.toList.drop p = c :: t) : (Jvm.ClassFile.Reader.u1 : Jvm.ClassFile.Decoder Nat) cc p = .ok (c.toNat, p + 1) := by
  have hp : p < cc.data.toList.length := by
    rcases Nat.lt_or_ge p cc.data.toList.length with q | q
    · exact q
    · rw [List.drop_eq_nil_of_le q] at hd; cases hd
  have hg : cc.data.toList[p] = c := by
    have := List.drop_eq_getElem_cons hp
    rw [hd] at this
    exact (List.cons.inj this).1.symm
  have hs : p < cc.size := hp
  have hc : cc[p] = c := hg
  show (if h : p < cc.size then (do set (p + 1); pure cc[p].toNat) else throw (Jvm.ClassFile.HasTruncated.truncated p) : Jvm.ClassFile.Decoder Nat) cc p = _
  rw [dif_pos hs, hc]
  rfl
theorem wk_s1 {cc : ByteArray} {p : Nat} {c : UInt8} {t : List UInt8} (hd : cc.data.toList.drop p = c :: t) : (Jvm.ClassFile.Reader.s1 : Jvm.ClassFile.Decoder Int) cc p = .ok (Jvm.ClassFile.Reader.signed 8 c.toNat, p + 1) := by
  show Except.bind ((Jvm.ClassFile.Reader.u1 : Jvm.ClassFile.Decoder Nat) cc p) (fun q => Except.ok (Jvm.ClassFile.Reader.signed 8 q.1, q.2)) = _
  rw [wk_u1 hd]
  rfl
theorem wk_u2 {cc : ByteArray} {p : Nat} {c e : UInt8} {t : List UInt8} (hd : cc.data.toList.drop p = c :: e :: t) : (Jvm.ClassFile.Reader.u2 : Jvm.ClassFile.Decoder Nat) cc p = .ok (c.toNat * 256 + e.toNat, p + 2) := by
  have h2 : cc.data.toList.drop (p + 1) = e :: t := by rw [← List.drop_drop, hd]; rfl
  show Except.bind ((Jvm.ClassFile.Reader.u1 : Jvm.ClassFile.Decoder Nat) cc p) (fun q => Except.bind ((Jvm.ClassFile.Reader.u1 : Jvm.ClassFile.Decoder Nat) cc q.2) (fun r => Except.ok (q.1 * 256 + r.1, r.2))) = _
  rw [wk_u1 hd]
  show Except.bind ((Jvm.ClassFile.Reader.u1 : Jvm.ClassFile.Decoder Nat) cc (p + 1)) (fun r => Except.ok (c.toNat * 256 + r.1, r.2)) = _
  rw [wk_u1 h2]
  rfl
theorem wk_s2 {cc : ByteArray} {p : Nat} {c e : UInt8} {t : List UInt8} (hd : cc.data.toList.drop p = c :: e :: t) : (Jvm.ClassFile.Reader.s2 : Jvm.ClassFile.Decoder Int) cc p = .ok (Jvm.ClassFile.Reader.signed 16 (c.toNat * 256 + e.toNat), p + 2) := by
  show Except.bind ((Jvm.ClassFile.Reader.u2 : Jvm.ClassFile.Decoder Nat) cc p) (fun q => Except.ok (Jvm.ClassFile.Reader.signed 16 q.1, q.2)) = _
  rw [wk_u2 hd]
  rfl
theorem wk_bi {α β : Type} {m : Jvm.ClassFile.Decoder α} {f : α → Jvm.ClassFile.Decoder β} {cc : ByteArray} {p q : Nat} {a : α} (h : m cc p = .ok (a, q)) : (m >>= f : Jvm.ClassFile.Decoder β) cc p = f a cc q := by
  show Except.bind (m cc p) (fun r => f r.1 cc r.2) = _
  rw [h]
  rfl
noncomputable def wkK (pc : Nat) : {K : Nat → Jvm.ClassFile.Decoder Jvm.ClassFile.Instr // Jvm.ClassFile.Decoder.instr pc = Jvm.ClassFile.Reader.u1 >>= K} := ⟨_, rfl⟩
theorem wk_dc {cc : ByteArray} {pc v n : Nat} {o : UInt8} {t : List UInt8} {r : Jvm.ClassFile.Instr} (hd : cc.data.toList.drop pc = o :: t) (h : o.toNat = v) (hv : (wkK pc).1 v cc (pc + 1) = .ok (r, pc + n)) : decode cc pc = .ok (r, n) := by
  have e : Jvm.ClassFile.Decoder.instr pc cc pc = .ok (r, pc + n) := by
    rw [(wkK pc).2, wk_bi (wk_u1 hd), h]
    exact hv
  show Except.bind (Jvm.ClassFile.Decoder.instr pc cc pc) (fun p => Except.ok (p.1, p.2 - pc)) = _
  rw [e]
  show Except.ok (r, pc + n - pc) = _
  rw [Nat.add_sub_cancel_left]
noncomputable def kU1 (t : List UInt8) (x : Nat) : Bool := match t with
  | c :: _ => Nat.beq c.toNat x
  | [] => false
noncomputable def kS1 (t : List UInt8) (z : Int) : Bool := match t with
  | c :: _ => decide (Jvm.ClassFile.Reader.signed 8 c.toNat = z)
  | [] => false
noncomputable def kU2 (t : List UInt8) (x : Nat) : Bool := match t with
  | c :: e :: _ => Nat.beq (c.toNat * 256 + e.toNat) x
  | _ => false
noncomputable def kS2 (t : List UInt8) (z : Int) : Bool := match t with
  | c :: e :: _ => decide (Jvm.ClassFile.Reader.signed 16 (c.toNat * 256 + e.toNat) = z)
  | _ => false
theorem kU1_ok {t : List UInt8} {x : Nat} (h : kU1 t x = true) : ∃ c r, t = c :: r ∧ c.toNat = x := by
  match t, h with
  | c :: r, h => exact ⟨c, r, rfl, Nat.eq_of_beq_eq_true h⟩
theorem kS1_ok {t : List UInt8} {z : Int} (h : kS1 t z = true) : ∃ c r, t = c :: r ∧ Jvm.ClassFile.Reader.signed 8 c.toNat = z := by
  match t, h with
  | c :: r, h => exact ⟨c, r, rfl, of_decide_eq_true h⟩
theorem kU2_ok {t : List UInt8} {x : Nat} (h : kU2 t x = true) : ∃ c e r, t = c :: e :: r ∧ c.toNat * 256 + e.toNat = x := by
  match t, h with
  | c :: e :: r, h => exact ⟨c, e, r, rfl, Nat.eq_of_beq_eq_true h⟩
theorem kS2_ok {t : List UInt8} {z : Int} (h : kS2 t z = true) : ∃ c e r, t = c :: e :: r ∧ Jvm.ClassFile.Reader.signed 16 (c.toNat * 256 + e.toNat) = z := by
  match t, h with
  | c :: e :: r, h => exact ⟨c, e, r, rfl, of_decide_eq_true h⟩
theorem wk_tl {cc : ByteArray} {pc : Nat} {o : UInt8} {t : List UInt8} (hd : cc.data.toList.drop pc = o :: t) : cc.data.toList.drop (pc + 1) = t := by rw [← List.drop_drop, hd]; rfl
noncomputable def kCo (c : Jvm.ClassFile.Cond) : Nat := match c with
  | .eq => 0
  | .ne => 1
  | .lt => 2
  | .ge => 3
  | .gt => 4
  | .le => 5
noncomputable def jop (i : Jvm.ClassFile.Instr) (len : Nat) (b : List UInt8) : Bool := match b with
  | [] => false
  | o :: t => (match i with
    | .iaload => Nat.beq o.toNat 46 && Nat.beq len 1
    | .laload => Nat.beq o.toNat 47 && Nat.beq len 1
    | .aaload => Nat.beq o.toNat 50 && Nat.beq len 1
    | .baload => Nat.beq o.toNat 51 && Nat.beq len 1
    | .iastore => Nat.beq o.toNat 79 && Nat.beq len 1
    | .lastore => Nat.beq o.toNat 80 && Nat.beq len 1
    | .bastore => Nat.beq o.toNat 84 && Nat.beq len 1
    | .pop => Nat.beq o.toNat 87 && Nat.beq len 1
    | .pop2 => Nat.beq o.toNat 88 && Nat.beq len 1
    | .dup => Nat.beq o.toNat 89 && Nat.beq len 1
    | .dup2 => Nat.beq o.toNat 92 && Nat.beq len 1
    | .iadd => Nat.beq o.toNat 96 && Nat.beq len 1
    | .ladd => Nat.beq o.toNat 97 && Nat.beq len 1
    | .isub => Nat.beq o.toNat 100 && Nat.beq len 1
    | .lsub => Nat.beq o.toNat 101 && Nat.beq len 1
    | .imul => Nat.beq o.toNat 104 && Nat.beq len 1
    | .lmul => Nat.beq o.toNat 105 && Nat.beq len 1
    | .idiv => Nat.beq o.toNat 108 && Nat.beq len 1
    | .ldiv => Nat.beq o.toNat 109 && Nat.beq len 1
    | .irem => Nat.beq o.toNat 112 && Nat.beq len 1
    | .lrem => Nat.beq o.toNat 113 && Nat.beq len 1
    | .ishl => Nat.beq o.toNat 120 && Nat.beq len 1
    | .ishr => Nat.beq o.toNat 122 && Nat.beq len 1
    | .iand => Nat.beq o.toNat 126 && Nat.beq len 1
    | .ior => Nat.beq o.toNat 128 && Nat.beq len 1
    | .i2l => Nat.beq o.toNat 133 && Nat.beq len 1
    | .l2i => Nat.beq o.toNat 136 && Nat.beq len 1
    | .i2b => Nat.beq o.toNat 145 && Nat.beq len 1
    | .lcmp => Nat.beq o.toNat 148 && Nat.beq len 1
    | .ireturn => Nat.beq o.toNat 172 && Nat.beq len 1
    | .lreturn => Nat.beq o.toNat 173 && Nat.beq len 1
    | .return_ => Nat.beq o.toNat 177 && Nat.beq len 1
    | .arraylength => Nat.beq o.toNat 190 && Nat.beq len 1
    | .iload_n j => Nat.beq o.toNat (26 + j.val) && Nat.beq len 1
    | .lload_n j => Nat.beq o.toNat (30 + j.val) && Nat.beq len 1
    | .aload_n j => Nat.beq o.toNat (42 + j.val) && Nat.beq len 1
    | .istore_n j => Nat.beq o.toNat (59 + j.val) && Nat.beq len 1
    | .lstore_n j => Nat.beq o.toNat (63 + j.val) && Nat.beq len 1
    | .astore_n j => Nat.beq o.toNat (75 + j.val) && Nat.beq len 1
    | .lconst j => Nat.beq o.toNat (9 + j.val) && Nat.beq len 1
    | .iconst (.ofNat z) => (Nat.beq o.toNat (3 + z) && Nat.ble z 5) && Nat.beq len 1
    | .iconst (.negSucc z) => (Nat.beq o.toNat 2 && Nat.beq z 0) && Nat.beq len 1
    | .ldc x => (Nat.beq o.toNat 18 && kU1 t x) && Nat.beq len 2
    | .iload x => (Nat.beq o.toNat 21 && kU1 t x) && Nat.beq len 2
    | .lload x => (Nat.beq o.toNat 22 && kU1 t x) && Nat.beq len 2
    | .aload x => (Nat.beq o.toNat 25 && kU1 t x) && Nat.beq len 2
    | .istore x => (Nat.beq o.toNat 54 && kU1 t x) && Nat.beq len 2
    | .lstore x => (Nat.beq o.toNat 55 && kU1 t x) && Nat.beq len 2
    | .astore x => (Nat.beq o.toNat 58 && kU1 t x) && Nat.beq len 2
    | .bipush z => (Nat.beq o.toNat 16 && kS1 t z) && Nat.beq len 2
    | .ldc2_w x => (Nat.beq o.toNat 20 && kU2 t x) && Nat.beq len 3
    | .getstatic x => (Nat.beq o.toNat 178 && kU2 t x) && Nat.beq len 3
    | .getfield x => (Nat.beq o.toNat 180 && kU2 t x) && Nat.beq len 3
    | .putfield x => (Nat.beq o.toNat 181 && kU2 t x) && Nat.beq len 3
    | .invokevirtual x => (Nat.beq o.toNat 182 && kU2 t x) && Nat.beq len 3
    | .invokestatic x => (Nat.beq o.toNat 184 && kU2 t x) && Nat.beq len 3
    | .sipush z => (Nat.beq o.toNat 17 && kS2 t z) && Nat.beq len 3
    | .goto z => (Nat.beq o.toNat 167 && kS2 t z) && Nat.beq len 3
    | .ifCond c z => (Nat.beq o.toNat (153 + kCo c) && kS2 t z) && Nat.beq len 3
    | .if_icmp c z => (Nat.beq o.toNat (159 + kCo c) && kS2 t z) && Nat.beq len 3
    | .iinc x z => (Nat.beq o.toNat 132 && (kU1 t x && kS1 t.tail z)) && Nat.beq len 3
    | _ => false)
theorem jop_2 {a b : Bool} (h : (a && b) = true) : a = true ∧ b = true := (Bool.and_eq_true a b).mp h
set_option maxHeartbeats 4000000 in
theorem jop_ok {cc : ByteArray} {pc len : Nat} {i : Jvm.ClassFile.Instr} {b : List UInt8} (hd : cc.data.toList.drop pc = b) (h : jop i len b = true) : decode cc pc = .ok (i, len) := by
  match b, hd, h with
  | [], _, h => cases h
  | o :: t, hd, h =>
  have ht := wk_tl hd
  cases i with
  | iaload =>
    obtain ⟨h1, h2⟩ := jop_2 h
    rw [Nat.eq_of_beq_eq_true h2]
    exact wk_dc hd (Nat.eq_of_beq_eq_true h1) rfl
  | laload =>
    obtain ⟨h1, h2⟩ := jop_2 h
    rw [Nat.eq_of_beq_eq_true h2]
    exact wk_dc hd (Nat.eq_of_beq_eq_true h1) rfl
  | aaload =>
    obtain ⟨h1, h2⟩ := jop_2 h
    rw [Nat.eq_of_beq_eq_true h2]
    exact wk_dc hd (Nat.eq_of_beq_eq_true h1) rfl
  | baload =>
    obtain ⟨h1, h2⟩ := jop_2 h
    rw [Nat.eq_of_beq_eq_true h2]
    exact wk_dc hd (Nat.eq_of_beq_eq_true h1) rfl
  | iastore =>
    obtain ⟨h1, h2⟩ := jop_2 h
    rw [Nat.eq_of_beq_eq_true h2]
    exact wk_dc hd (Nat.eq_of_beq_eq_true h1) rfl
  | lastore =>
    obtain ⟨h1, h2⟩ := jop_2 h
    rw [Nat.eq_of_beq_eq_true h2]
    exact wk_dc hd (Nat.eq_of_beq_eq_true h1) rfl
  | bastore =>
    obtain ⟨h1, h2⟩ := jop_2 h
    rw [Nat.eq_of_beq_eq_true h2]
    exact wk_dc hd (Nat.eq_of_beq_eq_true h1) rfl
  | pop =>
    obtain ⟨h1, h2⟩ := jop_2 h
    rw [Nat.eq_of_beq_eq_true h2]
    exact wk_dc hd (Nat.eq_of_beq_eq_true h1) rfl
  | pop2 =>
    obtain ⟨h1, h2⟩ := jop_2 h
    rw [Nat.eq_of_beq_eq_true h2]
    exact wk_dc hd (Nat.eq_of_beq_eq_true h1) rfl
  | dup =>
    obtain ⟨h1, h2⟩ := jop_2 h
    rw [Nat.eq_of_beq_eq_true h2]
    exact wk_dc hd (Nat.eq_of_beq_eq_true h1) rfl
  | dup2 =>
    obtain ⟨h1, h2⟩ := jop_2 h
    rw [Nat.eq_of_beq_eq_true h2]
    exact wk_dc hd (Nat.eq_of_beq_eq_true h1) rfl
  | iadd =>
    obtain ⟨h1, h2⟩ := jop_2 h
    rw [Nat.eq_of_beq_eq_true h2]
    exact wk_dc hd (Nat.eq_of_beq_eq_true h1) rfl
  | ladd =>
    obtain ⟨h1, h2⟩ := jop_2 h
    rw [Nat.eq_of_beq_eq_true h2]
    exact wk_dc hd (Nat.eq_of_beq_eq_true h1) rfl
  | isub =>
    obtain ⟨h1, h2⟩ := jop_2 h
    rw [Nat.eq_of_beq_eq_true h2]
    exact wk_dc hd (Nat.eq_of_beq_eq_true h1) rfl
  | lsub =>
    obtain ⟨h1, h2⟩ := jop_2 h
    rw [Nat.eq_of_beq_eq_true h2]
    exact wk_dc hd (Nat.eq_of_beq_eq_true h1) rfl
  | imul =>
    obtain ⟨h1, h2⟩ := jop_2 h
    rw [Nat.eq_of_beq_eq_true h2]
    exact wk_dc hd (Nat.eq_of_beq_eq_true h1) rfl
  | lmul =>
    obtain ⟨h1, h2⟩ := jop_2 h
    rw [Nat.eq_of_beq_eq_true h2]
    exact wk_dc hd (Nat.eq_of_beq_eq_true h1) rfl
  | idiv =>
    obtain ⟨h1, h2⟩ := jop_2 h
    rw [Nat.eq_of_beq_eq_true h2]
    exact wk_dc hd (Nat.eq_of_beq_eq_true h1) rfl
  | ldiv =>
    obtain ⟨h1, h2⟩ := jop_2 h
    rw [Nat.eq_of_beq_eq_true h2]
    exact wk_dc hd (Nat.eq_of_beq_eq_true h1) rfl
  | irem =>
    obtain ⟨h1, h2⟩ := jop_2 h
    rw [Nat.eq_of_beq_eq_true h2]
    exact wk_dc hd (Nat.eq_of_beq_eq_true h1) rfl
  | lrem =>
    obtain ⟨h1, h2⟩ := jop_2 h
    rw [Nat.eq_of_beq_eq_true h2]
    exact wk_dc hd (Nat.eq_of_beq_eq_true h1) rfl
  | ishl =>
    obtain ⟨h1, h2⟩ := jop_2 h
    rw [Nat.eq_of_beq_eq_true h2]
    exact wk_dc hd (Nat.eq_of_beq_eq_true h1) rfl
  | ishr =>
    obtain ⟨h1, h2⟩ := jop_2 h
    rw [Nat.eq_of_beq_eq_true h2]
    exact wk_dc hd (Nat.eq_of_beq_eq_true h1) rfl
  | iand =>
    obtain ⟨h1, h2⟩ := jop_2 h
    rw [Nat.eq_of_beq_eq_true h2]
    exact wk_dc hd (Nat.eq_of_beq_eq_true h1) rfl
  | ior =>
    obtain ⟨h1, h2⟩ := jop_2 h
    rw [Nat.eq_of_beq_eq_true h2]
    exact wk_dc hd (Nat.eq_of_beq_eq_true h1) rfl
  | i2l =>
    obtain ⟨h1, h2⟩ := jop_2 h
    rw [Nat.eq_of_beq_eq_true h2]
    exact wk_dc hd (Nat.eq_of_beq_eq_true h1) rfl
  | l2i =>
    obtain ⟨h1, h2⟩ := jop_2 h
    rw [Nat.eq_of_beq_eq_true h2]
    exact wk_dc hd (Nat.eq_of_beq_eq_true h1) rfl
  | i2b =>
    obtain ⟨h1, h2⟩ := jop_2 h
    rw [Nat.eq_of_beq_eq_true h2]
    exact wk_dc hd (Nat.eq_of_beq_eq_true h1) rfl
  | lcmp =>
    obtain ⟨h1, h2⟩ := jop_2 h
    rw [Nat.eq_of_beq_eq_true h2]
    exact wk_dc hd (Nat.eq_of_beq_eq_true h1) rfl
  | ireturn =>
    obtain ⟨h1, h2⟩ := jop_2 h
    rw [Nat.eq_of_beq_eq_true h2]
    exact wk_dc hd (Nat.eq_of_beq_eq_true h1) rfl
  | lreturn =>
    obtain ⟨h1, h2⟩ := jop_2 h
    rw [Nat.eq_of_beq_eq_true h2]
    exact wk_dc hd (Nat.eq_of_beq_eq_true h1) rfl
  | return_ =>
    obtain ⟨h1, h2⟩ := jop_2 h
    rw [Nat.eq_of_beq_eq_true h2]
    exact wk_dc hd (Nat.eq_of_beq_eq_true h1) rfl
  | arraylength =>
    obtain ⟨h1, h2⟩ := jop_2 h
    rw [Nat.eq_of_beq_eq_true h2]
    exact wk_dc hd (Nat.eq_of_beq_eq_true h1) rfl
  | iload_n j =>
    obtain ⟨h1, h2⟩ := jop_2 h
    rw [Nat.eq_of_beq_eq_true h2]
    match j, h1 with
    | ⟨0, _⟩, h1 => exact wk_dc hd (Nat.eq_of_beq_eq_true h1) rfl
    | ⟨1, _⟩, h1 => exact wk_dc hd (Nat.eq_of_beq_eq_true h1) rfl
    | ⟨2, _⟩, h1 => exact wk_dc hd (Nat.eq_of_beq_eq_true h1) rfl
    | ⟨3, _⟩, h1 => exact wk_dc hd (Nat.eq_of_beq_eq_true h1) rfl
  | lload_n j =>
    obtain ⟨h1, h2⟩ := jop_2 h
    rw [Nat.eq_of_beq_eq_true h2]
    match j, h1 with
    | ⟨0, _⟩, h1 => exact wk_dc hd (Nat.eq_of_beq_eq_true h1) rfl
    | ⟨1, _⟩, h1 => exact wk_dc hd (Nat.eq_of_beq_eq_true h1) rfl
    | ⟨2, _⟩, h1 => exact wk_dc hd (Nat.eq_of_beq_eq_true h1) rfl
    | ⟨3, _⟩, h1 => exact wk_dc hd (Nat.eq_of_beq_eq_true h1) rfl
  | aload_n j =>
    obtain ⟨h1, h2⟩ := jop_2 h
    rw [Nat.eq_of_beq_eq_true h2]
    match j, h1 with
    | ⟨0, _⟩, h1 => exact wk_dc hd (Nat.eq_of_beq_eq_true h1) rfl
    | ⟨1, _⟩, h1 => exact wk_dc hd (Nat.eq_of_beq_eq_true h1) rfl
    | ⟨2, _⟩, h1 => exact wk_dc hd (Nat.eq_of_beq_eq_true h1) rfl
    | ⟨3, _⟩, h1 => exact wk_dc hd (Nat.eq_of_beq_eq_true h1) rfl
  | istore_n j =>
    obtain ⟨h1, h2⟩ := jop_2 h
    rw [Nat.eq_of_beq_eq_true h2]
    match j, h1 with
    | ⟨0, _⟩, h1 => exact wk_dc hd (Nat.eq_of_beq_eq_true h1) rfl
    | ⟨1, _⟩, h1 => exact wk_dc hd (Nat.eq_of_beq_eq_true h1) rfl
    | ⟨2, _⟩, h1 => exact wk_dc hd (Nat.eq_of_beq_eq_true h1) rfl
    | ⟨3, _⟩, h1 => exact wk_dc hd (Nat.eq_of_beq_eq_true h1) rfl
  | lstore_n j =>
    obtain ⟨h1, h2⟩ := jop_2 h
    rw [Nat.eq_of_beq_eq_true h2]
    match j, h1 with
    | ⟨0, _⟩, h1 => exact wk_dc hd (Nat.eq_of_beq_eq_true h1) rfl
    | ⟨1, _⟩, h1 => exact wk_dc hd (Nat.eq_of_beq_eq_true h1) rfl
    | ⟨2, _⟩, h1 => exact wk_dc hd (Nat.eq_of_beq_eq_true h1) rfl
    | ⟨3, _⟩, h1 => exact wk_dc hd (Nat.eq_of_beq_eq_true h1) rfl
  | astore_n j =>
    obtain ⟨h1, h2⟩ := jop_2 h
    rw [Nat.eq_of_beq_eq_true h2]
    match j, h1 with
    | ⟨0, _⟩, h1 => exact wk_dc hd (Nat.eq_of_beq_eq_true h1) rfl
    | ⟨1, _⟩, h1 => exact wk_dc hd (Nat.eq_of_beq_eq_true h1) rfl
    | ⟨2, _⟩, h1 => exact wk_dc hd (Nat.eq_of_beq_eq_true h1) rfl
    | ⟨3, _⟩, h1 => exact wk_dc hd (Nat.eq_of_beq_eq_true h1) rfl
  | lconst j =>
    obtain ⟨h1, h2⟩ := jop_2 h
    rw [Nat.eq_of_beq_eq_true h2]
    match j, h1 with
    | ⟨0, _⟩, h1 => exact wk_dc hd (Nat.eq_of_beq_eq_true h1) rfl
    | ⟨1, _⟩, h1 => exact wk_dc hd (Nat.eq_of_beq_eq_true h1) rfl
  | iconst z =>
    match z, h with
    | .ofNat z, h =>
      obtain ⟨h1, h2⟩ := jop_2 h
      obtain ⟨h1, h3⟩ := jop_2 h1
      rw [Nat.eq_of_beq_eq_true h2]
      have h1 := Nat.eq_of_beq_eq_true h1
      have h3 := Nat.le_of_ble_eq_true h3
      match z, h1, h3 with
      | 0, h1, _ => exact wk_dc hd h1 rfl
      | 1, h1, _ => exact wk_dc hd h1 rfl
      | 2, h1, _ => exact wk_dc hd h1 rfl
      | 3, h1, _ => exact wk_dc hd h1 rfl
      | 4, h1, _ => exact wk_dc hd h1 rfl
      | 5, h1, _ => exact wk_dc hd h1 rfl
      | z + 6, _, h3 => exact absurd h3 (by omega)
    | .negSucc z, h =>
      obtain ⟨h1, h2⟩ := jop_2 h
      obtain ⟨h1, h3⟩ := jop_2 h1
      rw [Nat.eq_of_beq_eq_true h2, Nat.eq_of_beq_eq_true h3]
      exact wk_dc hd (Nat.eq_of_beq_eq_true h1) rfl
  | ldc x =>
    obtain ⟨hq, h2⟩ := jop_2 h
    obtain ⟨h1, h3⟩ := jop_2 hq
    rw [Nat.eq_of_beq_eq_true h2]
    clear hq h h2
    obtain ⟨c, r, rfl, e⟩ := kU1_ok h3
    rw [← e]
    exact wk_dc hd (Nat.eq_of_beq_eq_true h1) (wk_bi (m := Jvm.ClassFile.Reader.u1) (f := fun x => pure (Jvm.ClassFile.Instr.ldc x)) (wk_u1 ht))
  | iload x =>
    obtain ⟨hq, h2⟩ := jop_2 h
    obtain ⟨h1, h3⟩ := jop_2 hq
    rw [Nat.eq_of_beq_eq_true h2]
    clear hq h h2
    obtain ⟨c, r, rfl, e⟩ := kU1_ok h3
    rw [← e]
    exact wk_dc hd (Nat.eq_of_beq_eq_true h1) (wk_bi (m := Jvm.ClassFile.Reader.u1) (f := fun x => pure (Jvm.ClassFile.Instr.iload x)) (wk_u1 ht))
  | lload x =>
    obtain ⟨hq, h2⟩ := jop_2 h
    obtain ⟨h1, h3⟩ := jop_2 hq
    rw [Nat.eq_of_beq_eq_true h2]
    clear hq h h2
    obtain ⟨c, r, rfl, e⟩ := kU1_ok h3
    rw [← e]
    exact wk_dc hd (Nat.eq_of_beq_eq_true h1) (wk_bi (m := Jvm.ClassFile.Reader.u1) (f := fun x => pure (Jvm.ClassFile.Instr.lload x)) (wk_u1 ht))
  | aload x =>
    obtain ⟨hq, h2⟩ := jop_2 h
    obtain ⟨h1, h3⟩ := jop_2 hq
    rw [Nat.eq_of_beq_eq_true h2]
    clear hq h h2
    obtain ⟨c, r, rfl, e⟩ := kU1_ok h3
    rw [← e]
    exact wk_dc hd (Nat.eq_of_beq_eq_true h1) (wk_bi (m := Jvm.ClassFile.Reader.u1) (f := fun x => pure (Jvm.ClassFile.Instr.aload x)) (wk_u1 ht))
  | istore x =>
    obtain ⟨hq, h2⟩ := jop_2 h
    obtain ⟨h1, h3⟩ := jop_2 hq
    rw [Nat.eq_of_beq_eq_true h2]
    clear hq h h2
    obtain ⟨c, r, rfl, e⟩ := kU1_ok h3
    rw [← e]
    exact wk_dc hd (Nat.eq_of_beq_eq_true h1) (wk_bi (m := Jvm.ClassFile.Reader.u1) (f := fun x => pure (Jvm.ClassFile.Instr.istore x)) (wk_u1 ht))
  | lstore x =>
    obtain ⟨hq, h2⟩ := jop_2 h
    obtain ⟨h1, h3⟩ := jop_2 hq
    rw [Nat.eq_of_beq_eq_true h2]
    clear hq h h2
    obtain ⟨c, r, rfl, e⟩ := kU1_ok h3
    rw [← e]
    exact wk_dc hd (Nat.eq_of_beq_eq_true h1) (wk_bi (m := Jvm.ClassFile.Reader.u1) (f := fun x => pure (Jvm.ClassFile.Instr.lstore x)) (wk_u1 ht))
  | astore x =>
    obtain ⟨hq, h2⟩ := jop_2 h
    obtain ⟨h1, h3⟩ := jop_2 hq
    rw [Nat.eq_of_beq_eq_true h2]
    clear hq h h2
    obtain ⟨c, r, rfl, e⟩ := kU1_ok h3
    rw [← e]
    exact wk_dc hd (Nat.eq_of_beq_eq_true h1) (wk_bi (m := Jvm.ClassFile.Reader.u1) (f := fun x => pure (Jvm.ClassFile.Instr.astore x)) (wk_u1 ht))
  | bipush z =>
    obtain ⟨hq, h2⟩ := jop_2 h
    obtain ⟨h1, h3⟩ := jop_2 hq
    rw [Nat.eq_of_beq_eq_true h2]
    clear hq h h2
    obtain ⟨c, r, rfl, e⟩ := kS1_ok h3
    rw [← e]
    exact wk_dc hd (Nat.eq_of_beq_eq_true h1) (wk_bi (m := Jvm.ClassFile.Reader.s1) (f := fun x => pure (Jvm.ClassFile.Instr.bipush x)) (wk_s1 ht))
  | ldc2_w x =>
    obtain ⟨hq, h2⟩ := jop_2 h
    obtain ⟨h1, h3⟩ := jop_2 hq
    rw [Nat.eq_of_beq_eq_true h2]
    clear hq h h2
    obtain ⟨c, d, r, rfl, e⟩ := kU2_ok h3
    rw [← e]
    exact wk_dc hd (Nat.eq_of_beq_eq_true h1) (wk_bi (m := Jvm.ClassFile.Reader.u2) (f := fun x => pure (Jvm.ClassFile.Instr.ldc2_w x)) (wk_u2 ht))
  | getstatic x =>
    obtain ⟨hq, h2⟩ := jop_2 h
    obtain ⟨h1, h3⟩ := jop_2 hq
    rw [Nat.eq_of_beq_eq_true h2]
    clear hq h h2
    obtain ⟨c, d, r, rfl, e⟩ := kU2_ok h3
    rw [← e]
    exact wk_dc hd (Nat.eq_of_beq_eq_true h1) (wk_bi (m := Jvm.ClassFile.Reader.u2) (f := fun x => pure (Jvm.ClassFile.Instr.getstatic x)) (wk_u2 ht))
  | getfield x =>
    obtain ⟨hq, h2⟩ := jop_2 h
    obtain ⟨h1, h3⟩ := jop_2 hq
    rw [Nat.eq_of_beq_eq_true h2]
    clear hq h h2
    obtain ⟨c, d, r, rfl, e⟩ := kU2_ok h3
    rw [← e]
    exact wk_dc hd (Nat.eq_of_beq_eq_true h1) (wk_bi (m := Jvm.ClassFile.Reader.u2) (f := fun x => pure (Jvm.ClassFile.Instr.getfield x)) (wk_u2 ht))
  | putfield x =>
    obtain ⟨hq, h2⟩ := jop_2 h
    obtain ⟨h1, h3⟩ := jop_2 hq
    rw [Nat.eq_of_beq_eq_true h2]
    clear hq h h2
    obtain ⟨c, d, r, rfl, e⟩ := kU2_ok h3
    rw [← e]
    exact wk_dc hd (Nat.eq_of_beq_eq_true h1) (wk_bi (m := Jvm.ClassFile.Reader.u2) (f := fun x => pure (Jvm.ClassFile.Instr.putfield x)) (wk_u2 ht))
  | invokevirtual x =>
    obtain ⟨hq, h2⟩ := jop_2 h
    obtain ⟨h1, h3⟩ := jop_2 hq
    rw [Nat.eq_of_beq_eq_true h2]
    clear hq h h2
    obtain ⟨c, d, r, rfl, e⟩ := kU2_ok h3
    rw [← e]
    exact wk_dc hd (Nat.eq_of_beq_eq_true h1) (wk_bi (m := Jvm.ClassFile.Reader.u2) (f := fun x => pure (Jvm.ClassFile.Instr.invokevirtual x)) (wk_u2 ht))
  | invokestatic x =>
    obtain ⟨hq, h2⟩ := jop_2 h
    obtain ⟨h1, h3⟩ := jop_2 hq
    rw [Nat.eq_of_beq_eq_true h2]
    clear hq h h2
    obtain ⟨c, d, r, rfl, e⟩ := kU2_ok h3
    rw [← e]
    exact wk_dc hd (Nat.eq_of_beq_eq_true h1) (wk_bi (m := Jvm.ClassFile.Reader.u2) (f := fun x => pure (Jvm.ClassFile.Instr.invokestatic x)) (wk_u2 ht))
  | sipush z =>
    obtain ⟨hq, h2⟩ := jop_2 h
    obtain ⟨h1, h3⟩ := jop_2 hq
    rw [Nat.eq_of_beq_eq_true h2]
    clear hq h h2
    obtain ⟨c, d, r, rfl, e⟩ := kS2_ok h3
    rw [← e]
    exact wk_dc hd (Nat.eq_of_beq_eq_true h1) (wk_bi (m := Jvm.ClassFile.Reader.s2) (f := fun x => pure (Jvm.ClassFile.Instr.sipush x)) (wk_s2 ht))
  | goto z =>
    obtain ⟨hq, h2⟩ := jop_2 h
    obtain ⟨h1, h3⟩ := jop_2 hq
    rw [Nat.eq_of_beq_eq_true h2]
    clear hq h h2
    obtain ⟨c, d, r, rfl, e⟩ := kS2_ok h3
    rw [← e]
    exact wk_dc hd (Nat.eq_of_beq_eq_true h1) (wk_bi (m := Jvm.ClassFile.Reader.s2) (f := fun x => pure (Jvm.ClassFile.Instr.goto x)) (wk_s2 ht))
  | ifCond co z =>
    obtain ⟨hq, h2⟩ := jop_2 h
    obtain ⟨h1, h3⟩ := jop_2 hq
    rw [Nat.eq_of_beq_eq_true h2]
    clear hq h h2
    obtain ⟨c, d, r, rfl, e⟩ := kS2_ok h3
    rw [← e]
    match co, h1 with
    | .eq, h1 => exact wk_dc hd (Nat.eq_of_beq_eq_true h1) (wk_bi (m := Jvm.ClassFile.Reader.s2) (f := fun x => pure (Jvm.ClassFile.Instr.ifCond .eq x)) (wk_s2 ht))
    | .ne, h1 => exact wk_dc hd (Nat.eq_of_beq_eq_true h1) (wk_bi (m := Jvm.ClassFile.Reader.s2) (f := fun x => pure (Jvm.ClassFile.Instr.ifCond .ne x)) (wk_s2 ht))
    | .lt, h1 => exact wk_dc hd (Nat.eq_of_beq_eq_true h1) (wk_bi (m := Jvm.ClassFile.Reader.s2) (f := fun x => pure (Jvm.ClassFile.Instr.ifCond .lt x)) (wk_s2 ht))
    | .ge, h1 => exact wk_dc hd (Nat.eq_of_beq_eq_true h1) (wk_bi (m := Jvm.ClassFile.Reader.s2) (f := fun x => pure (Jvm.ClassFile.Instr.ifCond .ge x)) (wk_s2 ht))
    | .gt, h1 => exact wk_dc hd (Nat.eq_of_beq_eq_true h1) (wk_bi (m := Jvm.ClassFile.Reader.s2) (f := fun x => pure (Jvm.ClassFile.Instr.ifCond .gt x)) (wk_s2 ht))
    | .le, h1 => exact wk_dc hd (Nat.eq_of_beq_eq_true h1) (wk_bi (m := Jvm.ClassFile.Reader.s2) (f := fun x => pure (Jvm.ClassFile.Instr.ifCond .le x)) (wk_s2 ht))
  | if_icmp co z =>
    obtain ⟨hq, h2⟩ := jop_2 h
    obtain ⟨h1, h3⟩ := jop_2 hq
    rw [Nat.eq_of_beq_eq_true h2]
    clear hq h h2
    obtain ⟨c, d, r, rfl, e⟩ := kS2_ok h3
    rw [← e]
    match co, h1 with
    | .eq, h1 => exact wk_dc hd (Nat.eq_of_beq_eq_true h1) (wk_bi (m := Jvm.ClassFile.Reader.s2) (f := fun x => pure (Jvm.ClassFile.Instr.if_icmp .eq x)) (wk_s2 ht))
    | .ne, h1 => exact wk_dc hd (Nat.eq_of_beq_eq_true h1) (wk_bi (m := Jvm.ClassFile.Reader.s2) (f := fun x => pure (Jvm.ClassFile.Instr.if_icmp .ne x)) (wk_s2 ht))
    | .lt, h1 => exact wk_dc hd (Nat.eq_of_beq_eq_true h1) (wk_bi (m := Jvm.ClassFile.Reader.s2) (f := fun x => pure (Jvm.ClassFile.Instr.if_icmp .lt x)) (wk_s2 ht))
    | .ge, h1 => exact wk_dc hd (Nat.eq_of_beq_eq_true h1) (wk_bi (m := Jvm.ClassFile.Reader.s2) (f := fun x => pure (Jvm.ClassFile.Instr.if_icmp .ge x)) (wk_s2 ht))
    | .gt, h1 => exact wk_dc hd (Nat.eq_of_beq_eq_true h1) (wk_bi (m := Jvm.ClassFile.Reader.s2) (f := fun x => pure (Jvm.ClassFile.Instr.if_icmp .gt x)) (wk_s2 ht))
    | .le, h1 => exact wk_dc hd (Nat.eq_of_beq_eq_true h1) (wk_bi (m := Jvm.ClassFile.Reader.s2) (f := fun x => pure (Jvm.ClassFile.Instr.if_icmp .le x)) (wk_s2 ht))
  | iinc x z =>
    obtain ⟨hq, h2⟩ := jop_2 h
    obtain ⟨h1, hp⟩ := jop_2 hq
    obtain ⟨h3, h4⟩ := jop_2 hp
    rw [Nat.eq_of_beq_eq_true h2]
    clear hq h h2 hp
    obtain ⟨c, r, rfl, e⟩ := kU1_ok h3
    clear h3
    have h4 : kS1 r z = true := h4
    obtain ⟨d, s, rfl, e'⟩ := kS1_ok h4
    rw [← e, ← e']
    exact wk_dc hd (Nat.eq_of_beq_eq_true h1) ((wk_bi (m := Jvm.ClassFile.Reader.u1) (f := fun x => Jvm.ClassFile.Reader.s1 >>= fun z => pure (Jvm.ClassFile.Instr.iinc x z)) (wk_u1 ht)).trans (wk_bi (m := Jvm.ClassFile.Reader.s1) (f := fun z => pure (Jvm.ClassFile.Instr.iinc c.toNat z)) (wk_s1 (wk_tl ht))))
  | _ => exact absurd h Bool.false_ne_true
noncomputable def jwk (on rz : Nat) (cc : ByteArray) : List jN → List UInt8 → Nat → Bool
  | [], _, _ => true
  | e :: r, b, p => (((Nat.beq e.1 p && (jop e.2.1 e.2.2.1 b || decide (decode cc p = .ok (e.2.1, e.2.2.1)))) && Nat.beq (p + e.2.2.1) e.2.2.2.1) && jwrs on rz e) && jwk on rz cc r (b.drop e.2.2.1) (p + e.2.2.1)
theorem jwk_ok {on rz : Nat} {cc : ByteArray} : ∀ (l : List jN) (b : List UInt8) (p : Nat), cc.data.toList.drop p = b → jwk on rz cc l b p = true → l.all (jchk on rz cc) = true
  | [], _, _, _, _ => rfl
  | (pc, i, len, np, rA, rB, rC, rL, rS) :: r, b, p, hb, h => by
    obtain ⟨h, h5⟩ := jop_2 h
    obtain ⟨h, h4⟩ := jop_2 h
    obtain ⟨h, h3⟩ := jop_2 h
    obtain ⟨h1, h2⟩ := jop_2 h
    have e : pc = p := Nat.eq_of_beq_eq_true h1
    subst e
    have hd : decode cc pc = .ok (i, len) := by
      rcases (Bool.or_eq_true _ _).mp h2 with q | q
      · exact jop_ok hb q
      · exact of_decide_eq_true q
    have h3 : Nat.beq (pc + len) np = true := h3
    have t := jwk_ok r _ _ (by rw [← hb, List.drop_drop]) h5
    rw [List.all_cons, t, Bool.and_true]
    show ((decide (decode cc pc = .ok (i, len)) && Nat.beq (pc + len) np) && jwrs on rz (pc, i, len, np, rA, rB, rC, rL, rS)) = true
    rw [decide_eq_true hd, h3, h4]
    rfl
theorem jwk_of {on rz : Nat} {cc : ByteArray} {l : List jN} (p : Nat) (h : jwk on rz cc l (cc.data.toList.drop p) p = true) : l.all (jchk on rz cc) = true := jwk_ok l _ p rfl h
end
