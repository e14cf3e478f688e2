section
/-! THE PARTIAL MACHINE: as the small one, but what must be safe is taken as given: what holds at the end, if there is one -/
noncomputable def pstep (call : jQ) (k : jK) (scr : Option (Nat × (Nat → Int32))) (i : Instr) (np rA rB : Nat) (rC : Int32) (rL : Int64) (rS : List (Int32 × Nat)) (ls : List (Option jV)) (st : List jV) (I : Nat → Nat → Nat → Int32) (L : Nat → Nat → Nat → Int64) (K : jX → Prop) : Prop :=
  match i with
  | .iconst _ => K (np, ls, .inl (.inl rC) :: st, I, L)
  | .bipush _ => K (np, ls, .inl (.inl rC) :: st, I, L)
  | .sipush _ => K (np, ls, .inl (.inl rC) :: st, I, L)
  | .ldc _ => K (np, ls, .inl (.inl rC) :: st, I, L)
  | .lconst _ => K (np, ls, .inl (.inr rL) :: st, I, L)
  | .ldc2_w _ => K (np, ls, .inl (.inr rL) :: st, I, L)
  | .iload _ => (match jget ls rA with | some (.inl (.inl x)) => K (np, ls, .inl (.inl x) :: st, I, L) | _ => True)
  | .iload_n _ => (match jget ls rA with | some (.inl (.inl x)) => K (np, ls, .inl (.inl x) :: st, I, L) | _ => True)
  | .lload _ => (match jget ls rA with | some (.inl (.inr x)) => K (np, ls, .inl (.inr x) :: st, I, L) | _ => True)
  | .lload_n _ => (match jget ls rA with | some (.inl (.inr x)) => K (np, ls, .inl (.inr x) :: st, I, L) | _ => True)
  | .aload _ => (match jget ls rA with | some (.inr q) => K (np, ls, .inr q :: st, I, L) | _ => True)
  | .aload_n _ => (match jget ls rA with | some (.inr q) => K (np, ls, .inr q :: st, I, L) | _ => True)
  | .istore _ => (match Nat.blt rA (jlen ls), st with | true, .inl (.inl x) :: t => K (np, jset1 ls rA (.inl (.inl x)), t, I, L) | _, _ => True)
  | .istore_n _ => (match Nat.blt rA (jlen ls), st with | true, .inl (.inl x) :: t => K (np, jset1 ls rA (.inl (.inl x)), t, I, L) | _, _ => True)
  | .astore _ => (match Nat.blt rA (jlen ls), st with | true, .inr x :: t => K (np, jset1 ls rA (.inr x), t, I, L) | _, _ => True)
  | .astore_n _ => (match Nat.blt rA (jlen ls), st with | true, .inr x :: t => K (np, jset1 ls rA (.inr x), t, I, L) | _, _ => True)
  | .lstore _ => (match Nat.blt (rA + 1) (jlen ls), st with | true, .inl (.inr x) :: t => K (np, jset2 ls rA (.inl (.inr x)), t, I, L) | _, _ => True)
  | .lstore_n _ => (match Nat.blt (rA + 1) (jlen ls), st with | true, .inl (.inr x) :: t => K (np, jset2 ls rA (.inl (.inr x)), t, I, L) | _, _ => True)
  | .iinc _ _ => (match Nat.blt rA (jlen ls), jget ls rA with | true, some (.inl (.inl x)) => K (np, jset1 ls rA (.inl (.inl (x + rC))), st, I, L) | _, _ => True)
  | .iadd => (match st with | .inl (.inl y) :: .inl (.inl x) :: t => K (np, ls, .inl (.inl (x + y)) :: t, I, L) | _ => True)
  | .isub => (match st with | .inl (.inl y) :: .inl (.inl x) :: t => K (np, ls, .inl (.inl (x - y)) :: t, I, L) | _ => True)
  | .imul => (match st with | .inl (.inl y) :: .inl (.inl x) :: t => K (np, ls, .inl (.inl (x * y)) :: t, I, L) | _ => True)
  | .iand => (match st with | .inl (.inl y) :: .inl (.inl x) :: t => K (np, ls, .inl (.inl (x &&& y)) :: t, I, L) | _ => True)
  | .ior => (match st with | .inl (.inl y) :: .inl (.inl x) :: t => K (np, ls, .inl (.inl (x ||| y)) :: t, I, L) | _ => True)
  | .ishl => (match st with | .inl (.inl y) :: .inl (.inl x) :: t => K (np, ls, .inl (.inl (x <<< (y &&& 31))) :: t, I, L) | _ => True)
  | .ishr => (match st with | .inl (.inl y) :: .inl (.inl x) :: t => K (np, ls, .inl (.inl (x >>> (y &&& 31))) :: t, I, L) | _ => True)
  | .idiv => (match st with | .inl (.inl y) :: .inl (.inl x) :: t => ¬ y = 0 → K (np, ls, .inl (.inl (x / y)) :: t, I, L) | _ => True)
  | .irem => (match st with | .inl (.inl y) :: .inl (.inl x) :: t => ¬ y = 0 → K (np, ls, .inl (.inl (x - x / y * y)) :: t, I, L) | _ => True)
  | .ladd => (match st with | .inl (.inr y) :: .inl (.inr x) :: t => K (np, ls, .inl (.inr (x + y)) :: t, I, L) | _ => True)
  | .lmul => (match st with | .inl (.inr y) :: .inl (.inr x) :: t => K (np, ls, .inl (.inr (x * y)) :: t, I, L) | _ => True)
  | .ldiv => (match st with | .inl (.inr y) :: .inl (.inr x) :: t => ¬ y = 0 → K (np, ls, .inl (.inr (x / y)) :: t, I, L) | _ => True)
  | .lrem => (match st with | .inl (.inr y) :: .inl (.inr x) :: t => ¬ y = 0 → K (np, ls, .inl (.inr (x - x / y * y)) :: t, I, L) | _ => True)
  | .lcmp => (match st with | .inl (.inr y) :: .inl (.inr x) :: t => K (np, ls, .inl (.inl (lg_cmp x y)) :: t, I, L) | _ => True)
  | .i2l => (match st with | .inl (.inl x) :: t => K (np, ls, .inl (.inr x.toInt64) :: t, I, L) | _ => True)
  | .l2i => (match st with | .inl (.inr x) :: t => K (np, ls, .inl (.inl x.toInt32) :: t, I, L) | _ => True)
  | .i2b => (match st with | .inl (.inl x) :: t => K (np, ls, .inl (.inl x.toInt8.toInt32) :: t, I, L) | _ => True)
  | .dup => (match st with | .inl (.inl x) :: t => K (np, ls, .inl (.inl x) :: .inl (.inl x) :: t, I, L) | .inr x :: t => K (np, ls, .inr x :: .inr x :: t, I, L) | _ => True)
  | .dup2 => (match st with | .inl (.inl x) :: .inr y :: t => K (np, ls, .inl (.inl x) :: .inr y :: .inl (.inl x) :: .inr y :: t, I, L) | _ => True)
  | .pop => (match st with | .inl (.inl _) :: t => K (np, ls, t, I, L) | _ => True)
  | .pop2 => (match st with | .inl (.inr _) :: t => K (np, ls, t, I, L) | _ => True)
  | .goto _ => K (rA, ls, st, I, L)
  | .ifCond .eq _ => (match st with | .inl (.inl x) :: t => (x = 0 → K (rA, ls, t, I, L)) ∧ (¬ x = 0 → K (np, ls, t, I, L)) | _ => True)
  | .ifCond .ne _ => (match st with | .inl (.inl x) :: t => (¬ x = 0 → K (rA, ls, t, I, L)) ∧ (x = 0 → K (np, ls, t, I, L)) | _ => True)
  | .ifCond .lt _ => (match st with | .inl (.inl x) :: t => (x < 0 → K (rA, ls, t, I, L)) ∧ (¬ x < 0 → K (np, ls, t, I, L)) | _ => True)
  | .ifCond .ge _ => (match st with | .inl (.inl x) :: t => (0 ≤ x → K (rA, ls, t, I, L)) ∧ (¬ 0 ≤ x → K (np, ls, t, I, L)) | _ => True)
  | .ifCond .gt _ => (match st with | .inl (.inl x) :: t => (0 < x → K (rA, ls, t, I, L)) ∧ (¬ 0 < x → K (np, ls, t, I, L)) | _ => True)
  | .ifCond .le _ => (match st with | .inl (.inl x) :: t => (x ≤ 0 → K (rA, ls, t, I, L)) ∧ (¬ x ≤ 0 → K (np, ls, t, I, L)) | _ => True)
  | .if_icmp .eq _ => (match st with | .inl (.inl y) :: .inl (.inl x) :: t => (x = y → K (rA, ls, t, I, L)) ∧ (¬ x = y → K (np, ls, t, I, L)) | _ => True)
  | .if_icmp .ne _ => (match st with | .inl (.inl y) :: .inl (.inl x) :: t => (¬ x = y → K (rA, ls, t, I, L)) ∧ (x = y → K (np, ls, t, I, L)) | _ => True)
  | .if_icmp .lt _ => (match st with | .inl (.inl y) :: .inl (.inl x) :: t => (x < y → K (rA, ls, t, I, L)) ∧ (¬ x < y → K (np, ls, t, I, L)) | _ => True)
  | .if_icmp .ge _ => (match st with | .inl (.inl y) :: .inl (.inl x) :: t => (y ≤ x → K (rA, ls, t, I, L)) ∧ (¬ y ≤ x → K (np, ls, t, I, L)) | _ => True)
  | .if_icmp .gt _ => (match st with | .inl (.inl y) :: .inl (.inl x) :: t => (y < x → K (rA, ls, t, I, L)) ∧ (¬ y < x → K (np, ls, t, I, L)) | _ => True)
  | .if_icmp .le _ => (match st with | .inl (.inl y) :: .inl (.inl x) :: t => (x ≤ y → K (rA, ls, t, I, L)) ∧ (¬ x ≤ y → K (np, ls, t, I, L)) | _ => True)
  | .tableswitch _ _ _ _ => (match st with | .inl (.inl x) :: t => jsw x (fun q => K (q, ls, t, I, L)) rA rS | _ => True)
  | .lookupswitch _ _ => (match st with | .inl (.inl x) :: t => jsw x (fun q => K (q, ls, t, I, L)) rA rS | _ => True)
  | .getfield _ => (match st with
    | .inr (g, n) :: t => (match (jSh g).2 with
      | .inl (ci, fs) => (match Nat.beq ci rB, fs[rA]? with
        | true, some (.inl f) => K (np, ls, .inr (f n) :: t, I, L)
        | true, some (.inr 1) => K (np, ls, .inl (.inr (L g n rA)) :: t, I, L)
        | true, some (.inr _) => K (np, ls, .inl (.inl (I g n rA)) :: t, I, L)
        | _, _ => True)
      | _ => True)
    | _ => True)
  | .putfield _ => (match st with
    | .inl (.inl x) :: .inr (g, n) :: t => (match (jSh g).2 with
      | .inl (ci, fs) => (match Nat.beq ci rB, fs[rA]? with
        | true, some (.inr 0) => K (np, ls, t, jup I g n rA x, L)
        | true, some (.inr 2) => (x = 0 ∨ x = 1) → K (np, ls, t, jup I g n rA x, L)
        | _, _ => True)
      | _ => True)
    | .inl (.inr x) :: .inr (g, n) :: t => (match (jSh g).2 with
      | .inl (ci, fs) => (match Nat.beq ci rB, fs[rA]? with
        | true, some (.inr 1) => K (np, ls, t, I, jupL L g n rA x)
        | _, _ => True)
      | _ => True)
    | _ => True)
  | .getstatic _ => K (np, ls, .inr (900, 0) :: st, I, L)
  | .iaload => (match st with
    | .inl (.inl j) :: .inr (g, n) :: t => (match jro scr g with
      | some q => vp_in j q.1 → K (np, ls, .inl (.inl (q.2 j.toNatClampNeg)) :: t, I, L)
      | none => (match (jSh g).2 with
        | .inr (_, N, .inr 0) => vp_in j N → K (np, ls, .inl (.inl (I g n j.toNatClampNeg)) :: t, I, L)
        | _ => True))
    | _ => True)
  | .baload => (match st with
    | .inl (.inl j) :: .inr (g, n) :: t => (match (jSh g).2 with
      | .inr (_, N, .inr 2) => vp_in j N → K (np, ls, .inl (.inl (I g n j.toNatClampNeg)) :: t, I, L)
      | _ => True)
    | _ => True)
  | .laload => (match st with
    | .inl (.inl j) :: .inr (g, n) :: t => (match (jSh g).2 with
      | .inr (_, N, .inr 1) => vp_in j N → K (np, ls, .inl (.inr (L g n j.toNatClampNeg)) :: t, I, L)
      | _ => True)
    | _ => True)
  | .aaload => (match st with
    | .inl (.inl j) :: .inr (g, n) :: t => (match (jSh g).2 with
      | .inr (_, N, .inl f) => vp_in j N → K (np, ls, .inr (f n j.toNatClampNeg) :: t, I, L)
      | _ => True)
    | _ => True)
  | .iastore => (match st with
    | .inl (.inl x) :: .inl (.inl j) :: .inr (g, n) :: t => (match (jSh g).2 with
      | .inr (_, N, .inr 0) => vp_in j N → K (np, ls, t, jup I g n j.toNatClampNeg x, L)
      | _ => True)
    | _ => True)
  | .bastore => (match st with
    | .inl (.inl x) :: .inl (.inl j) :: .inr (g, n) :: t => (match (jSh g).2 with
      | .inr (_, N, .inr 2) => vp_in j N → K (np, ls, t, jup I g n j.toNatClampNeg (vp_nar .boolean x), L)
      | _ => True)
    | _ => True)
  | .lastore => (match st with
    | .inl (.inr x) :: .inl (.inl j) :: .inr (g, n) :: t => (match (jSh g).2 with
      | .inr (_, N, .inr 1) => vp_in j N → K (np, ls, t, I, jupL L g n j.toNatClampNeg x)
      | _ => True)
    | _ => True)
  | .arraylength => (match st with
    | .inr (g, _) :: t => (match jro scr g with
      | some q => K (np, ls, .inl (.inl (nI q.1)) :: t, I, L)
      | none => (match (jSh g).2 with
        | .inr (_, N, _) => K (np, ls, .inl (.inl (nI N)) :: t, I, L)
        | _ => True))
    | _ => True)
  | .invokevirtual _ => (match jtake rB st [] with
    | some (.inr q :: as, t) => (match jcls q.1 rS, Nat.ble (jcat t) 8 with
      | true, true => call rA (.inr q :: as) (I, L) (fun v σ' => K (np, ls, jopt v t, σ'))
      | _, _ => True)
    | _ => True)
  | .invokestatic _ => (match Nat.beq rA 999 with
    | true => (match st with
      | .inl (.inl n) :: .inl (.inl dp) :: .inr (g', n') :: .inl (.inl sp) :: .inr (g, m) :: t => (match (jSh g).2, (jSh g').2, Nat.ble (jcat t) 8 with
        | .inr (_, N, .inr 0), .inr (_, N', .inr 0), true => (¬ sp < 0 ∧ ¬ dp < 0 ∧ ¬ n < 0 ∧ sp.toNatClampNeg + n.toNatClampNeg ≤ N ∧ dp.toNatClampNeg + n.toNatClampNeg ≤ N') → K (np, ls, t, jcpy I g m g' n' sp.toNatClampNeg dp.toNatClampNeg n.toNatClampNeg, L)
        | _, _, _ => True)
      | _ => True)
    | false => (match Nat.beq rA 998 with
      | true => (match st with
        | .inl (.inl y) :: .inl (.inl x) :: t => (match Nat.ble (jcat t) 8 with
          | true => K (np, ls, .inl (.inl (if y < x then y else x)) :: t, I, L)
          | false => True)
        | _ => True)
      | false => (match Nat.beq rA 997 with
        | true => (match st with
          | .inl (.inl y) :: .inl (.inl x) :: t => (match Nat.ble (jcat t) 8 with
            | true => K (np, ls, .inl (.inl (if x < y then y else x)) :: t, I, L)
            | false => True)
          | _ => True)
        | false => (match jtake rB st [] with
          | some (as, t) => (match Nat.ble (jcat t) 8 with
            | true => call rA as (I, L) (fun v σ' => K (np, ls, jopt v t, σ'))
            | false => True)
          | none => True))))
  | .ireturn => (match st with
    | [.inl (.inl x)] => (match rA with
      | 0 => k (some (.inl (.inl x))) (I, L)
      | _ => (x = 0 ∨ x = 1) → k (some (.inl (.inl x))) (I, L))
    | _ => True)
  | .lreturn => (match st with | [.inl (.inr x)] => k (some (.inl (.inr x))) (I, L) | _ => True)
  | .return_ => (match st with | [] => k none (I, L) | _ => True)
  | _ => True
noncomputable def vN (R : jX → Prop) (E : Option jV → jS → Prop) (C : Nat → List jV → jS → (Option jV → jS → jX) → Prop) (call : jQ) (k : jK) (K : jX → Prop) : Prop := (∀ z, R z → K z) ∧ (∀ v σ, E v σ → k v σ) ∧ ∀ m as σ f, C m as σ f → call m as σ (fun v σ' => K (f v σ'))
noncomputable def vW (T P : jQ → jK → (jX → Prop) → Prop) : Prop := ∃ (S : Prop) (R : jX → Prop) (E : Option jV → jS → Prop) (C : Nat → List jV → jS → (Option jV → jS → jX) → Prop), (∀ call k K, T call k K ↔ S ∧ vN R E C call k K) ∧ ∀ call k K, P call k K ↔ (S → vN R E C call k K)
theorem v_stuck : vW (fun _ _ _ => False) (fun _ _ _ => True) := ⟨False, fun _ => False, fun _ _ => False, fun _ _ _ _ => False, fun _ _ _ => ⟨fun h => h.elim, fun h => h.1⟩, fun _ _ _ => ⟨fun _ h => h.elim, fun _ => trivial⟩⟩
theorem v_goS (A : Prop) (z : jX) : vW (fun _ _ K => A ∧ K z) (fun _ _ K => A → K z) := ⟨A, fun w => w = z, fun _ _ => False, fun _ _ _ _ => False, fun _ _ K => ⟨fun h => ⟨h.1, fun w e => by rw [e]; exact h.2, fun _ _ h => h.elim, fun _ _ _ _ h => h.elim⟩, fun h => ⟨h.1, h.2.1 z rfl⟩⟩, fun _ _ K => ⟨fun h a => ⟨fun w e => by rw [e]; exact h a, fun _ _ h => h.elim, fun _ _ _ _ h => h.elim⟩, fun h a => (h a).1 z rfl⟩⟩
theorem v_go (z : jX) : vW (fun _ _ K => K z) (fun _ _ K => K z) := ⟨True, fun w => w = z, fun _ _ => False, fun _ _ _ _ => False, fun _ _ K => ⟨fun h => ⟨trivial, fun w e => by rw [e]; exact h, fun _ _ h => h.elim, fun _ _ _ _ h => h.elim⟩, fun h => h.2.1 z rfl⟩, fun _ _ K => ⟨fun h a => ⟨fun w e => by rw [e]; exact h, fun _ _ h => h.elim, fun _ _ _ _ h => h.elim⟩, fun h => (h trivial).1 z rfl⟩⟩
theorem v_br (c : Prop) (z z' : jX) : vW (fun _ _ K => (c → K z) ∧ (¬ c → K z')) (fun _ _ K => (c → K z) ∧ (¬ c → K z')) := by
  have e : ∀ (call : jQ) (k : jK) (K : jX → Prop), ((c → K z) ∧ (¬ c → K z')) ↔ vN (fun w => (c ∧ w = z) ∨ (¬ c ∧ w = z')) (fun _ _ => False) (fun _ _ _ _ => False) call k K := fun call k K => by
    constructor
    · intro h
      refine ⟨fun w e => ?_, fun _ _ h => h.elim, fun _ _ _ _ h => h.elim⟩
      rcases e with ⟨e1, e2⟩ | ⟨e1, e2⟩
      · rw [e2]; exact h.1 e1
      · rw [e2]; exact h.2 e1
    · intro h
      exact ⟨fun q => h.1 z (Or.inl ⟨q, rfl⟩), fun q => h.1 z' (Or.inr ⟨q, rfl⟩)⟩
  exact ⟨True, _, _, _, fun call k K => ⟨fun h => ⟨trivial, (e call k K).mp h⟩, fun h => (e call k K).mpr h.2⟩, fun call k K => ⟨fun h _ => (e call k K).mp h, fun h => (e call k K).mpr (h trivial)⟩⟩
theorem v_brn (c : Prop) (z z' : jX) : vW (fun _ _ K => (¬ c → K z) ∧ (c → K z')) (fun _ _ K => (¬ c → K z) ∧ (c → K z')) := by
  have e : ∀ (call : jQ) (k : jK) (K : jX → Prop), ((¬ c → K z) ∧ (c → K z')) ↔ vN (fun w => (¬ c ∧ w = z) ∨ (c ∧ w = z')) (fun _ _ => False) (fun _ _ _ _ => False) call k K := fun call k K => by
    constructor
    · intro h
      refine ⟨fun w e => ?_, fun _ _ h => h.elim, fun _ _ _ _ h => h.elim⟩
      rcases e with ⟨e1, e2⟩ | ⟨e1, e2⟩
      · rw [e2]; exact h.1 e1
      · rw [e2]; exact h.2 e1
    · intro h
      exact ⟨fun q => h.1 z (Or.inl ⟨q, rfl⟩), fun q => h.1 z' (Or.inr ⟨q, rfl⟩)⟩
  exact ⟨True, _, _, _, fun call k K => ⟨fun h => ⟨trivial, (e call k K).mp h⟩, fun h => (e call k K).mpr h.2⟩, fun call k K => ⟨fun h _ => (e call k K).mp h, fun h => (e call k K).mpr (h trivial)⟩⟩
theorem v_ret (v : Option jV) (σ : jS) : vW (fun _ k _ => k v σ) (fun _ k _ => k v σ) := ⟨True, fun _ => False, fun w τ => w = v ∧ τ = σ, fun _ _ _ _ => False, fun _ k _ => ⟨fun h => ⟨trivial, fun _ h => h.elim, fun w τ e => by rw [e.1, e.2]; exact h, fun _ _ _ _ h => h.elim⟩, fun h => h.2.2.1 v σ ⟨rfl, rfl⟩⟩, fun _ k _ => ⟨fun h _ => ⟨fun _ h => h.elim, fun w τ e => by rw [e.1, e.2]; exact h, fun _ _ _ _ h => h.elim⟩, fun h => (h trivial).2.1 v σ ⟨rfl, rfl⟩⟩⟩
theorem v_retS (A : Prop) (v : Option jV) (σ : jS) : vW (fun _ k _ => A ∧ k v σ) (fun _ k _ => A → k v σ) := ⟨A, fun _ => False, fun w τ => w = v ∧ τ = σ, fun _ _ _ _ => False, fun _ k _ => ⟨fun h => ⟨h.1, fun _ h => h.elim, fun w τ e => by rw [e.1, e.2]; exact h.2, fun _ _ _ _ h => h.elim⟩, fun h => ⟨h.1, h.2.2.1 v σ ⟨rfl, rfl⟩⟩⟩, fun _ k _ => ⟨fun h a => ⟨fun _ h => h.elim, fun w τ e => by rw [e.1, e.2]; exact h a, fun _ _ _ _ h => h.elim⟩, fun h a => (h a).2.1 v σ ⟨rfl, rfl⟩⟩⟩
theorem v_call (m : Nat) (as : List jV) (σ : jS) (f : Option jV → jS → jX) : vW (fun call _ K => call m as σ (fun v σ' => K (f v σ'))) (fun call _ K => call m as σ (fun v σ' => K (f v σ'))) := by
  have e : ∀ (call : jQ) (k : jK) (K : jX → Prop), call m as σ (fun v σ' => K (f v σ')) ↔ vN (fun _ => False) (fun _ _ => False) (fun m' as' σ' f' => m' = m ∧ as' = as ∧ σ' = σ ∧ f' = f) call k K := fun call k K => by
    constructor
    · intro h
      refine ⟨fun _ h => h.elim, fun _ _ h => h.elim, fun m' as' σ' f' e => ?_⟩
      obtain ⟨e1, e2, e3, e4⟩ := e
      rw [e1, e2, e3, e4]
      exact h
    · intro h
      exact h.2.2 m as σ f ⟨rfl, rfl, rfl, rfl⟩
  exact ⟨True, _, _, _, fun call k K => ⟨fun h => ⟨trivial, (e call k K).mp h⟩, fun h => (e call k K).mpr h.2⟩, fun call k K => ⟨fun h _ => (e call k K).mp h, fun h => (e call k K).mpr (h trivial)⟩⟩
theorem sw_all (x : Int32) (d : Nat) : ∀ l : List (Int32 × Nat), ∃ R : Nat → Prop, ∀ K : Nat → Prop, jsw x K d l ↔ ∀ q, R q → K q
  | [] => ⟨fun q => q = d, fun K => ⟨fun h q e => by rw [e]; exact h, fun h => h d rfl⟩⟩
  | c :: t => by
    obtain ⟨R, hR⟩ := sw_all x d t
    refine ⟨fun q => (x = c.1 ∧ q = c.2) ∨ (¬ x = c.1 ∧ R q), fun K => ⟨fun h q e => ?_, fun h => ⟨fun a => h c.2 (Or.inl ⟨a, rfl⟩), fun a => (hR K).mpr (fun q r => h q (Or.inr ⟨a, r⟩))⟩⟩⟩
    rcases e with ⟨e1, e2⟩ | ⟨e1, e2⟩
    · rw [e2]; exact h.1 e1
    · exact (hR K).mp (h.2 e1) q e2
theorem v_sw (x : Int32) (d : Nat) (l : List (Int32 × Nat)) (f : Nat → jX) : vW (fun _ _ K => jsw x (fun q => K (f q)) d l) (fun _ _ K => jsw x (fun q => K (f q)) d l) := by
  obtain ⟨R, hR⟩ := sw_all x d l
  have e : ∀ (call : jQ) (k : jK) (K : jX → Prop), jsw x (fun q => K (f q)) d l ↔ vN (fun w => ∃ q, R q ∧ w = f q) (fun _ _ => False) (fun _ _ _ _ => False) call k K := fun call k K => by
    constructor
    · intro h
      refine ⟨fun w e => ?_, fun _ _ h => h.elim, fun _ _ _ _ h => h.elim⟩
      obtain ⟨q, e1, e2⟩ := e
      rw [e2]
      exact (hR _).mp h q e1
    · intro h
      exact (hR _).mpr (fun q r => h.1 (f q) ⟨q, r, rfl⟩)
  exact ⟨True, _, _, _, fun call k K => ⟨fun h => ⟨trivial, (e call k K).mp h⟩, fun h => (e call k K).mpr h.2⟩, fun call k K => ⟨fun h _ => (e call k K).mp h, fun h => (e call k K).mpr (h trivial)⟩⟩
set_option maxHeartbeats 4000000 in
theorem jview (scr : Option (Nat × (Nat → Int32))) (i : Instr) (np rA rB : Nat) (rC : Int32) (rL : Int64) (rS : List (Int32 × Nat)) (ls : List (Option jV)) (st : List jV) (I : Nat → Nat → Nat → Int32) (L : Nat → Nat → Nat → Int64) : vW (fun call k K => jstep call k scr i np rA rB rC rL rS ls st I L K) (fun call k K => pstep call k scr i np rA rB rC rL rS ls st I L K) := by
  cases i
  all_goals first | exact v_stuck | exact v_go _ | skip
  case iload z =>
    dsimp only [jstep, pstep]
    generalize jget ls rA = q
    rcases q with _ | ((x | x) | x) <;> first | exact v_stuck | exact v_go _ | exact v_goS _ _ | exact v_br _ _ _ | exact v_brn _ _ _ | exact v_ret _ _ | exact v_retS _ _ _ | exact v_call _ _ _ _ | exact v_sw _ _ _ _
  case iload_n z =>
    dsimp only [jstep, pstep]
    generalize jget ls rA = q
    rcases q with _ | ((x | x) | x) <;> first | exact v_stuck | exact v_go _ | exact v_goS _ _ | exact v_br _ _ _ | exact v_brn _ _ _ | exact v_ret _ _ | exact v_retS _ _ _ | exact v_call _ _ _ _ | exact v_sw _ _ _ _
  case lload z =>
    dsimp only [jstep, pstep]
    generalize jget ls rA = q
    rcases q with _ | ((x | x) | x) <;> first | exact v_stuck | exact v_go _ | exact v_goS _ _ | exact v_br _ _ _ | exact v_brn _ _ _ | exact v_ret _ _ | exact v_retS _ _ _ | exact v_call _ _ _ _ | exact v_sw _ _ _ _
  case lload_n z =>
    dsimp only [jstep, pstep]
    generalize jget ls rA = q
    rcases q with _ | ((x | x) | x) <;> first | exact v_stuck | exact v_go _ | exact v_goS _ _ | exact v_br _ _ _ | exact v_brn _ _ _ | exact v_ret _ _ | exact v_retS _ _ _ | exact v_call _ _ _ _ | exact v_sw _ _ _ _
  case aload z =>
    dsimp only [jstep, pstep]
    generalize jget ls rA = q
    rcases q with _ | ((x | x) | x) <;> first | exact v_stuck | exact v_go _ | exact v_goS _ _ | exact v_br _ _ _ | exact v_brn _ _ _ | exact v_ret _ _ | exact v_retS _ _ _ | exact v_call _ _ _ _ | exact v_sw _ _ _ _
  case aload_n z =>
    dsimp only [jstep, pstep]
    generalize jget ls rA = q
    rcases q with _ | ((x | x) | x) <;> first | exact v_stuck | exact v_go _ | exact v_goS _ _ | exact v_br _ _ _ | exact v_brn _ _ _ | exact v_ret _ _ | exact v_retS _ _ _ | exact v_call _ _ _ _ | exact v_sw _ _ _ _
  case istore z =>
    dsimp only [jstep, pstep]
    generalize Nat.blt rA (jlen ls) = b
    rcases b with _ | _ <;> rcases st with _ | ⟨((x | x) | x), t⟩ <;> first | exact v_stuck | exact v_go _ | exact v_goS _ _ | exact v_br _ _ _ | exact v_brn _ _ _ | exact v_ret _ _ | exact v_retS _ _ _ | exact v_call _ _ _ _ | exact v_sw _ _ _ _
  case istore_n z =>
    dsimp only [jstep, pstep]
    generalize Nat.blt rA (jlen ls) = b
    rcases b with _ | _ <;> rcases st with _ | ⟨((x | x) | x), t⟩ <;> first | exact v_stuck | exact v_go _ | exact v_goS _ _ | exact v_br _ _ _ | exact v_brn _ _ _ | exact v_ret _ _ | exact v_retS _ _ _ | exact v_call _ _ _ _ | exact v_sw _ _ _ _
  case astore z =>
    dsimp only [jstep, pstep]
    generalize Nat.blt rA (jlen ls) = b
    rcases b with _ | _ <;> rcases st with _ | ⟨((x | x) | x), t⟩ <;> first | exact v_stuck | exact v_go _ | exact v_goS _ _ | exact v_br _ _ _ | exact v_brn _ _ _ | exact v_ret _ _ | exact v_retS _ _ _ | exact v_call _ _ _ _ | exact v_sw _ _ _ _
  case astore_n z =>
    dsimp only [jstep, pstep]
    generalize Nat.blt rA (jlen ls) = b
    rcases b with _ | _ <;> rcases st with _ | ⟨((x | x) | x), t⟩ <;> first | exact v_stuck | exact v_go _ | exact v_goS _ _ | exact v_br _ _ _ | exact v_brn _ _ _ | exact v_ret _ _ | exact v_retS _ _ _ | exact v_call _ _ _ _ | exact v_sw _ _ _ _
  case lstore z =>
    dsimp only [jstep, pstep]
    generalize Nat.blt (rA + 1) (jlen ls) = b
    rcases b with _ | _ <;> rcases st with _ | ⟨((x | x) | x), t⟩ <;> first | exact v_stuck | exact v_go _ | exact v_goS _ _ | exact v_br _ _ _ | exact v_brn _ _ _ | exact v_ret _ _ | exact v_retS _ _ _ | exact v_call _ _ _ _ | exact v_sw _ _ _ _
  case lstore_n z =>
    dsimp only [jstep, pstep]
    generalize Nat.blt (rA + 1) (jlen ls) = b
    rcases b with _ | _ <;> rcases st with _ | ⟨((x | x) | x), t⟩ <;> first | exact v_stuck | exact v_go _ | exact v_goS _ _ | exact v_br _ _ _ | exact v_brn _ _ _ | exact v_ret _ _ | exact v_retS _ _ _ | exact v_call _ _ _ _ | exact v_sw _ _ _ _
  case iinc z w =>
    dsimp only [jstep, pstep]
    generalize Nat.blt rA (jlen ls) = b
    generalize jget ls rA = q
    rcases b with _ | _ <;> rcases q with _ | ((x | x) | x) <;> first | exact v_stuck | exact v_go _ | exact v_goS _ _ | exact v_br _ _ _ | exact v_brn _ _ _ | exact v_ret _ _ | exact v_retS _ _ _ | exact v_call _ _ _ _ | exact v_sw _ _ _ _
  case iadd =>
    rcases st with _ | ⟨((y | y) | y), _ | ⟨((x | x) | x), t⟩⟩ <;> first | exact v_stuck | exact v_go _ | exact v_goS _ _ | exact v_br _ _ _ | exact v_brn _ _ _ | exact v_ret _ _ | exact v_retS _ _ _ | exact v_call _ _ _ _ | exact v_sw _ _ _ _
  case isub =>
    rcases st with _ | ⟨((y | y) | y), _ | ⟨((x | x) | x), t⟩⟩ <;> first | exact v_stuck | exact v_go _ | exact v_goS _ _ | exact v_br _ _ _ | exact v_brn _ _ _ | exact v_ret _ _ | exact v_retS _ _ _ | exact v_call _ _ _ _ | exact v_sw _ _ _ _
  case imul =>
    rcases st with _ | ⟨((y | y) | y), _ | ⟨((x | x) | x), t⟩⟩ <;> first | exact v_stuck | exact v_go _ | exact v_goS _ _ | exact v_br _ _ _ | exact v_brn _ _ _ | exact v_ret _ _ | exact v_retS _ _ _ | exact v_call _ _ _ _ | exact v_sw _ _ _ _
  case iand =>
    rcases st with _ | ⟨((y | y) | y), _ | ⟨((x | x) | x), t⟩⟩ <;> first | exact v_stuck | exact v_go _ | exact v_goS _ _ | exact v_br _ _ _ | exact v_brn _ _ _ | exact v_ret _ _ | exact v_retS _ _ _ | exact v_call _ _ _ _ | exact v_sw _ _ _ _
  case ior =>
    rcases st with _ | ⟨((y | y) | y), _ | ⟨((x | x) | x), t⟩⟩ <;> first | exact v_stuck | exact v_go _ | exact v_goS _ _ | exact v_br _ _ _ | exact v_brn _ _ _ | exact v_ret _ _ | exact v_retS _ _ _ | exact v_call _ _ _ _ | exact v_sw _ _ _ _
  case ishl =>
    rcases st with _ | ⟨((y | y) | y), _ | ⟨((x | x) | x), t⟩⟩ <;> first | exact v_stuck | exact v_go _ | exact v_goS _ _ | exact v_br _ _ _ | exact v_brn _ _ _ | exact v_ret _ _ | exact v_retS _ _ _ | exact v_call _ _ _ _ | exact v_sw _ _ _ _
  case ishr =>
    rcases st with _ | ⟨((y | y) | y), _ | ⟨((x | x) | x), t⟩⟩ <;> first | exact v_stuck | exact v_go _ | exact v_goS _ _ | exact v_br _ _ _ | exact v_brn _ _ _ | exact v_ret _ _ | exact v_retS _ _ _ | exact v_call _ _ _ _ | exact v_sw _ _ _ _
  case idiv =>
    rcases st with _ | ⟨((y | y) | y), _ | ⟨((x | x) | x), t⟩⟩ <;> first | exact v_stuck | exact v_go _ | exact v_goS _ _ | exact v_br _ _ _ | exact v_brn _ _ _ | exact v_ret _ _ | exact v_retS _ _ _ | exact v_call _ _ _ _ | exact v_sw _ _ _ _
  case irem =>
    rcases st with _ | ⟨((y | y) | y), _ | ⟨((x | x) | x), t⟩⟩ <;> first | exact v_stuck | exact v_go _ | exact v_goS _ _ | exact v_br _ _ _ | exact v_brn _ _ _ | exact v_ret _ _ | exact v_retS _ _ _ | exact v_call _ _ _ _ | exact v_sw _ _ _ _
  case ladd =>
    rcases st with _ | ⟨((y | y) | y), _ | ⟨((x | x) | x), t⟩⟩ <;> first | exact v_stuck | exact v_go _ | exact v_goS _ _ | exact v_br _ _ _ | exact v_brn _ _ _ | exact v_ret _ _ | exact v_retS _ _ _ | exact v_call _ _ _ _ | exact v_sw _ _ _ _
  case lmul =>
    rcases st with _ | ⟨((y | y) | y), _ | ⟨((x | x) | x), t⟩⟩ <;> first | exact v_stuck | exact v_go _ | exact v_goS _ _ | exact v_br _ _ _ | exact v_brn _ _ _ | exact v_ret _ _ | exact v_retS _ _ _ | exact v_call _ _ _ _ | exact v_sw _ _ _ _
  case ldiv =>
    rcases st with _ | ⟨((y | y) | y), _ | ⟨((x | x) | x), t⟩⟩ <;> first | exact v_stuck | exact v_go _ | exact v_goS _ _ | exact v_br _ _ _ | exact v_brn _ _ _ | exact v_ret _ _ | exact v_retS _ _ _ | exact v_call _ _ _ _ | exact v_sw _ _ _ _
  case lrem =>
    rcases st with _ | ⟨((y | y) | y), _ | ⟨((x | x) | x), t⟩⟩ <;> first | exact v_stuck | exact v_go _ | exact v_goS _ _ | exact v_br _ _ _ | exact v_brn _ _ _ | exact v_ret _ _ | exact v_retS _ _ _ | exact v_call _ _ _ _ | exact v_sw _ _ _ _
  case lcmp =>
    rcases st with _ | ⟨((y | y) | y), _ | ⟨((x | x) | x), t⟩⟩ <;> first | exact v_stuck | exact v_go _ | exact v_goS _ _ | exact v_br _ _ _ | exact v_brn _ _ _ | exact v_ret _ _ | exact v_retS _ _ _ | exact v_call _ _ _ _ | exact v_sw _ _ _ _
  case dup2 =>
    rcases st with _ | ⟨((y | y) | y), _ | ⟨((x | x) | x), t⟩⟩ <;> first | exact v_stuck | exact v_go _ | exact v_goS _ _ | exact v_br _ _ _ | exact v_brn _ _ _ | exact v_ret _ _ | exact v_retS _ _ _ | exact v_call _ _ _ _ | exact v_sw _ _ _ _
  case i2l =>
    rcases st with _ | ⟨((x | x) | x), t⟩ <;> first | exact v_stuck | exact v_go _ | exact v_goS _ _ | exact v_br _ _ _ | exact v_brn _ _ _ | exact v_ret _ _ | exact v_retS _ _ _ | exact v_call _ _ _ _ | exact v_sw _ _ _ _
  case l2i =>
    rcases st with _ | ⟨((x | x) | x), t⟩ <;> first | exact v_stuck | exact v_go _ | exact v_goS _ _ | exact v_br _ _ _ | exact v_brn _ _ _ | exact v_ret _ _ | exact v_retS _ _ _ | exact v_call _ _ _ _ | exact v_sw _ _ _ _
  case i2b =>
    rcases st with _ | ⟨((x | x) | x), t⟩ <;> first | exact v_stuck | exact v_go _ | exact v_goS _ _ | exact v_br _ _ _ | exact v_brn _ _ _ | exact v_ret _ _ | exact v_retS _ _ _ | exact v_call _ _ _ _ | exact v_sw _ _ _ _
  case dup =>
    rcases st with _ | ⟨((x | x) | x), t⟩ <;> first | exact v_stuck | exact v_go _ | exact v_goS _ _ | exact v_br _ _ _ | exact v_brn _ _ _ | exact v_ret _ _ | exact v_retS _ _ _ | exact v_call _ _ _ _ | exact v_sw _ _ _ _
  case pop =>
    rcases st with _ | ⟨((x | x) | x), t⟩ <;> first | exact v_stuck | exact v_go _ | exact v_goS _ _ | exact v_br _ _ _ | exact v_brn _ _ _ | exact v_ret _ _ | exact v_retS _ _ _ | exact v_call _ _ _ _ | exact v_sw _ _ _ _
  case pop2 =>
    rcases st with _ | ⟨((x | x) | x), t⟩ <;> first | exact v_stuck | exact v_go _ | exact v_goS _ _ | exact v_br _ _ _ | exact v_brn _ _ _ | exact v_ret _ _ | exact v_retS _ _ _ | exact v_call _ _ _ _ | exact v_sw _ _ _ _
  case ifCond c z =>
    cases c <;> rcases st with _ | ⟨((x | x) | x), t⟩ <;> first | exact v_stuck | exact v_go _ | exact v_goS _ _ | exact v_br _ _ _ | exact v_brn _ _ _ | exact v_ret _ _ | exact v_retS _ _ _ | exact v_call _ _ _ _ | exact v_sw _ _ _ _
  case if_icmp c z =>
    cases c <;> rcases st with _ | ⟨((y | y) | y), _ | ⟨((x | x) | x), t⟩⟩ <;> first | exact v_stuck | exact v_go _ | exact v_goS _ _ | exact v_br _ _ _ | exact v_brn _ _ _ | exact v_ret _ _ | exact v_retS _ _ _ | exact v_call _ _ _ _ | exact v_sw _ _ _ _
  case tableswitch a b c e =>
    rcases st with _ | ⟨((x | x) | x), t⟩ <;> first | exact v_stuck | exact v_go _ | exact v_goS _ _ | exact v_br _ _ _ | exact v_brn _ _ _ | exact v_ret _ _ | exact v_retS _ _ _ | exact v_call _ _ _ _ | exact v_sw _ _ _ _
  case lookupswitch a b =>
    rcases st with _ | ⟨((x | x) | x), t⟩ <;> first | exact v_stuck | exact v_go _ | exact v_goS _ _ | exact v_br _ _ _ | exact v_brn _ _ _ | exact v_ret _ _ | exact v_retS _ _ _ | exact v_call _ _ _ _ | exact v_sw _ _ _ _
  case getfield z =>
    rcases st with _ | ⟨((x | x) | ⟨g, n⟩), t⟩
    · exact v_stuck
    · exact v_stuck
    · exact v_stuck
    · dsimp only [jstep, pstep]
      generalize (jSh g).2 = sh
      rcases sh with ⟨ci, fs⟩ | sh
      · dsimp only
        generalize Nat.beq ci rB = b
        generalize fs[rA]? = o
        rcases b with _ | _ <;> rcases o with _ | (f | (_ | _ | z)) <;> first | exact v_stuck | exact v_go _ | exact v_goS _ _ | exact v_br _ _ _ | exact v_brn _ _ _ | exact v_ret _ _ | exact v_retS _ _ _ | exact v_call _ _ _ _ | exact v_sw _ _ _ _
      · exact v_stuck
  case putfield z =>
    rcases st with _ | ⟨((x | x) | ⟨g, n⟩), _ | ⟨((y | y) | ⟨g, n⟩), t⟩⟩
    all_goals first | exact v_stuck | skip
    · dsimp only [jstep, pstep]
      generalize (jSh g).2 = sh
      rcases sh with ⟨ci, fs⟩ | sh
      · dsimp only
        generalize Nat.beq ci rB = b
        generalize fs[rA]? = o
        rcases b with _ | _ <;> rcases o with _ | (f | (_ | _ | _ | z)) <;> first | exact v_stuck | exact v_go _ | exact v_goS _ _ | exact v_br _ _ _ | exact v_brn _ _ _ | exact v_ret _ _ | exact v_retS _ _ _ | exact v_call _ _ _ _ | exact v_sw _ _ _ _
      · exact v_stuck
    · dsimp only [jstep, pstep]
      generalize (jSh g).2 = sh
      rcases sh with ⟨ci, fs⟩ | sh
      · dsimp only
        generalize Nat.beq ci rB = b
        generalize fs[rA]? = o
        rcases b with _ | _ <;> rcases o with _ | (f | (_ | _ | _ | z)) <;> first | exact v_stuck | exact v_go _ | exact v_goS _ _ | exact v_br _ _ _ | exact v_brn _ _ _ | exact v_ret _ _ | exact v_retS _ _ _ | exact v_call _ _ _ _ | exact v_sw _ _ _ _
      · exact v_stuck
  case iaload =>
    rcases st with _ | ⟨((j | x) | ⟨g, n⟩), _ | ⟨((y | y) | ⟨g, n⟩), t⟩⟩
    all_goals first | exact v_stuck | skip
    dsimp only [jstep, pstep]
    generalize jro scr g = q
    generalize (jSh g).2 = sh
    rcases q with _ | q
    · rcases sh with sh | ⟨a, N, (f | (_ | z))⟩ <;> first | exact v_stuck | exact v_go _ | exact v_goS _ _ | exact v_br _ _ _ | exact v_brn _ _ _ | exact v_ret _ _ | exact v_retS _ _ _ | exact v_call _ _ _ _ | exact v_sw _ _ _ _
    · exact v_goS _ _
  case baload =>
    rcases st with _ | ⟨((j | x) | ⟨g, n⟩), _ | ⟨((y | y) | ⟨g, n⟩), t⟩⟩
    all_goals first | exact v_stuck | skip
    dsimp only [jstep, pstep]
    generalize (jSh g).2 = sh
    rcases sh with sh | ⟨a, N, (f | (_ | _ | _ | z))⟩ <;> first | exact v_stuck | exact v_go _ | exact v_goS _ _ | exact v_br _ _ _ | exact v_brn _ _ _ | exact v_ret _ _ | exact v_retS _ _ _ | exact v_call _ _ _ _ | exact v_sw _ _ _ _
  case laload =>
    rcases st with _ | ⟨((j | x) | ⟨g, n⟩), _ | ⟨((y | y) | ⟨g, n⟩), t⟩⟩
    all_goals first | exact v_stuck | skip
    dsimp only [jstep, pstep]
    generalize (jSh g).2 = sh
    rcases sh with sh | ⟨a, N, (f | (_ | _ | z))⟩ <;> first | exact v_stuck | exact v_go _ | exact v_goS _ _ | exact v_br _ _ _ | exact v_brn _ _ _ | exact v_ret _ _ | exact v_retS _ _ _ | exact v_call _ _ _ _ | exact v_sw _ _ _ _
  case aaload =>
    rcases st with _ | ⟨((j | x) | ⟨g, n⟩), _ | ⟨((y | y) | ⟨g, n⟩), t⟩⟩
    all_goals first | exact v_stuck | skip
    dsimp only [jstep, pstep]
    generalize (jSh g).2 = sh
    rcases sh with sh | ⟨a, N, (f | z)⟩ <;> first | exact v_stuck | exact v_go _ | exact v_goS _ _ | exact v_br _ _ _ | exact v_brn _ _ _ | exact v_ret _ _ | exact v_retS _ _ _ | exact v_call _ _ _ _ | exact v_sw _ _ _ _
  case iastore =>
    rcases st with _ | ⟨((x | x) | x), _ | ⟨((j | j) | j), _ | ⟨((y | y) | ⟨g, n⟩), t⟩⟩⟩
    all_goals first | exact v_stuck | skip
    dsimp only [jstep, pstep]
    generalize (jSh g).2 = sh
    rcases sh with sh | ⟨a, N, (f | (_ | z))⟩ <;> first | exact v_stuck | exact v_go _ | exact v_goS _ _ | exact v_br _ _ _ | exact v_brn _ _ _ | exact v_ret _ _ | exact v_retS _ _ _ | exact v_call _ _ _ _ | exact v_sw _ _ _ _
  case bastore =>
    rcases st with _ | ⟨((x | x) | x), _ | ⟨((j | j) | j), _ | ⟨((y | y) | ⟨g, n⟩), t⟩⟩⟩
    all_goals first | exact v_stuck | skip
    dsimp only [jstep, pstep]
    generalize (jSh g).2 = sh
    rcases sh with sh | ⟨a, N, (f | (_ | _ | _ | z))⟩ <;> first | exact v_stuck | exact v_go _ | exact v_goS _ _ | exact v_br _ _ _ | exact v_brn _ _ _ | exact v_ret _ _ | exact v_retS _ _ _ | exact v_call _ _ _ _ | exact v_sw _ _ _ _
  case lastore =>
    rcases st with _ | ⟨((x | x) | x), _ | ⟨((j | j) | j), _ | ⟨((y | y) | ⟨g, n⟩), t⟩⟩⟩
    all_goals first | exact v_stuck | skip
    dsimp only [jstep, pstep]
    generalize (jSh g).2 = sh
    rcases sh with sh | ⟨a, N, (f | (_ | _ | z))⟩ <;> first | exact v_stuck | exact v_go _ | exact v_goS _ _ | exact v_br _ _ _ | exact v_brn _ _ _ | exact v_ret _ _ | exact v_retS _ _ _ | exact v_call _ _ _ _ | exact v_sw _ _ _ _
  case arraylength =>
    rcases st with _ | ⟨((x | x) | ⟨g, n⟩), t⟩
    all_goals first | exact v_stuck | skip
    dsimp only [jstep, pstep]
    generalize jro scr g = q
    generalize (jSh g).2 = sh
    rcases q with _ | q
    · rcases sh with sh | ⟨a, N, f⟩ <;> first | exact v_stuck | exact v_go _ | exact v_goS _ _ | exact v_br _ _ _ | exact v_brn _ _ _ | exact v_ret _ _ | exact v_retS _ _ _ | exact v_call _ _ _ _ | exact v_sw _ _ _ _
    · exact v_go _
  case invokevirtual z =>
    dsimp only [jstep, pstep]
    generalize jtake rB st [] = q
    rcases q with _ | ⟨(_ | ⟨((x | x) | q), as⟩), t⟩
    all_goals first | exact v_stuck | skip
    dsimp only
    generalize jcls q.1 rS = b
    generalize Nat.ble (jcat t) 8 = c
    rcases b with _ | _ <;> rcases c with _ | _ <;> first | exact v_stuck | exact v_go _ | exact v_goS _ _ | exact v_br _ _ _ | exact v_brn _ _ _ | exact v_ret _ _ | exact v_retS _ _ _ | exact v_call _ _ _ _ | exact v_sw _ _ _ _
  case invokestatic z =>
    dsimp only [jstep, pstep]
    generalize Nat.beq rA 999 = b9
    rcases b9 with _ | _
    · dsimp only
      generalize Nat.beq rA 998 = b8
      rcases b8 with _ | _
      · dsimp only
        generalize Nat.beq rA 997 = b7
        rcases b7 with _ | _
        · dsimp only
          generalize jtake rB st [] = q
          rcases q with _ | ⟨as, t⟩
          · exact v_stuck
          · dsimp only
            generalize Nat.ble (jcat t) 8 = c
            rcases c with _ | _ <;> first | exact v_stuck | exact v_go _ | exact v_goS _ _ | exact v_br _ _ _ | exact v_brn _ _ _ | exact v_ret _ _ | exact v_retS _ _ _ | exact v_call _ _ _ _ | exact v_sw _ _ _ _
        · rcases st with _ | ⟨((y | y) | y), _ | ⟨((x | x) | x), t⟩⟩
          all_goals first | exact v_stuck | skip
          dsimp only
          generalize Nat.ble (jcat t) 8 = c
          rcases c with _ | _ <;> first | exact v_stuck | exact v_go _ | exact v_goS _ _ | exact v_br _ _ _ | exact v_brn _ _ _ | exact v_ret _ _ | exact v_retS _ _ _ | exact v_call _ _ _ _ | exact v_sw _ _ _ _
      · rcases st with _ | ⟨((y | y) | y), _ | ⟨((x | x) | x), t⟩⟩
        all_goals first | exact v_stuck | skip
        dsimp only
        generalize Nat.ble (jcat t) 8 = c
        rcases c with _ | _ <;> first | exact v_stuck | exact v_go _ | exact v_goS _ _ | exact v_br _ _ _ | exact v_brn _ _ _ | exact v_ret _ _ | exact v_retS _ _ _ | exact v_call _ _ _ _ | exact v_sw _ _ _ _
    · rcases st with _ | ⟨((a | a) | a), _ | ⟨((b | b) | b), _ | ⟨((c | c) | ⟨g', n'⟩), _ | ⟨((e | e) | e), _ | ⟨((h | h) | ⟨g, m⟩), t⟩⟩⟩⟩⟩
      all_goals first | exact v_stuck | skip
      dsimp only
      generalize (jSh g).2 = sh
      generalize (jSh g').2 = sh'
      generalize Nat.ble (jcat t) 8 = c
      rcases sh with sh | ⟨u, N, (f | (_ | z))⟩ <;> rcases sh' with sh' | ⟨u', N', (f' | (_ | z'))⟩ <;> rcases c with _ | _ <;> first | exact v_stuck | exact v_go _ | exact v_goS _ _ | exact v_br _ _ _ | exact v_brn _ _ _ | exact v_ret _ _ | exact v_retS _ _ _ | exact v_call _ _ _ _ | exact v_sw _ _ _ _
  case ireturn =>
    rcases st with _ | ⟨((x | x) | x), _ | ⟨y, t⟩⟩
    all_goals first | exact v_stuck | skip
    rcases rA with _ | rA <;> first | exact v_stuck | exact v_go _ | exact v_goS _ _ | exact v_br _ _ _ | exact v_brn _ _ _ | exact v_ret _ _ | exact v_retS _ _ _ | exact v_call _ _ _ _ | exact v_sw _ _ _ _
  case lreturn =>
    rcases st with _ | ⟨((x | x) | x), _ | ⟨y, t⟩⟩ <;> first | exact v_stuck | exact v_go _ | exact v_goS _ _ | exact v_br _ _ _ | exact v_brn _ _ _ | exact v_ret _ _ | exact v_retS _ _ _ | exact v_call _ _ _ _ | exact v_sw _ _ _ _
  case return_ =>
    rcases st with _ | ⟨y, t⟩ <;> first | exact v_stuck | exact v_go _ | exact v_goS _ _ | exact v_br _ _ _ | exact v_brn _ _ _ | exact v_ret _ _ | exact v_retS _ _ _ | exact v_call _ _ _ _ | exact v_sw _ _ _ _
noncomputable def pst (call : jQ) (k : jK) (scr : Option (Nat × (Nat → Int32))) (code : List jN) (x : jX) (K : jX → Prop) : Prop := match x with
  | (pc, ls, st, I, L) => (match jat code pc with
    | some (i, _, np, rA, rB, rC, rL, rS) => pstep call k scr i np rA rB rC rL rS ls st I L K
    | none => True)
theorem pview (scr : Option (Nat × (Nat → Int32))) (code : List jN) (x : jX) : vW (fun call k K => jst call k scr code x K) (fun call k K => pst call k scr code x K) := by
  obtain ⟨pc, ls, st, I, L⟩ := x
  dsimp only [jst, pst]
  generalize jat code pc = q
  rcases q with _ | ⟨i, a, np, rA, rB, rC, rL, rS⟩
  · exact v_stuck
  · exact jview scr i np rA rB rC rL rS ls st I L
noncomputable def qAnd (k1 k2 : jK) : jK := fun v σ => k1 v σ ∧ k2 v σ
theorem st_mono {call : jQ} {k k' : jK} {scr : Option (Nat × (Nat → Int32))} {code : List jN} {x : jX} {K K' : jX → Prop} (Hc : ∀ m as σ K K', (∀ v σ, K v σ → K' v σ) → call m as σ K → call m as σ K') (hk : ∀ v σ, k v σ → k' v σ) (hK : ∀ z, K z → K' z) (h : jst call k scr code x K) : jst call k' scr code x K' := by
  obtain ⟨S, R, E, C, hT, -⟩ := pview scr code x
  obtain ⟨s, h1, h2, h3⟩ := (hT call k K).mp h
  exact (hT call k' K').mpr ⟨s, fun z r => hK z (h1 z r), fun v σ e => hk v σ (h2 v σ e), fun m as σ f c => Hc m as σ _ _ (fun v σ q => hK _ q) (h3 m as σ f c)⟩
theorem pst_mono {call call' : jQ} {k k' : jK} {scr : Option (Nat × (Nat → Int32))} {code : List jN} {x : jX} {K K' : jX → Prop} (Hc : ∀ m as σ K K', (∀ v σ, K v σ → K' v σ) → call m as σ K → call' m as σ K') (hk : ∀ v σ, k v σ → k' v σ) (hK : ∀ z, K z → K' z) (h : pst call k scr code x K) : pst call' k' scr code x K' := by
  obtain ⟨S, R, E, C, -, hP⟩ := pview scr code x
  refine (hP call' k' K').mpr (fun s => ?_)
  obtain ⟨h1, h2, h3⟩ := (hP call k K).mp h s
  exact ⟨fun z r => hK z (h1 z r), fun v σ e => hk v σ (h2 v σ e), fun m as σ f c => Hc m as σ _ _ (fun v σ q => hK _ q) (h3 m as σ f c)⟩
theorem pst_all {call : jQ} {k : Nat → jK} {scr : Option (Nat × (Nat → Int32))} {code : List jN} {x : jX} {K : Nat → jX → Prop} (Hc : ∀ m as σ (K : Nat → jK), (∀ n, call m as σ (K n)) → call m as σ (fun v σ => ∀ n, K n v σ)) (h : ∀ n, pst call (k n) scr code x (K n)) : pst call (fun v σ => ∀ n, k n v σ) scr code x (fun z => ∀ n, K n z) := by
  obtain ⟨S, R, E, C, -, hP⟩ := pview scr code x
  refine (hP call _ _).mpr (fun s => ?_)
  have h := fun n => (hP call (k n) (K n)).mp (h n) s
  exact ⟨fun z r n => (h n).1 z r, fun v σ e n => (h n).2.1 v σ e, fun m as σ f c => Hc m as σ _ (fun n => (h n).2.2 m as σ f c)⟩
theorem pst_comb {callW callP : jQ} {k1 k2 : jK} {scr : Option (Nat × (Nat → Int32))} {code : List jN} {x : jX} {K1 K2 : jX → Prop} (Hc : ∀ m as σ K1 K2, callW m as σ K1 → callP m as σ K2 → callW m as σ (qAnd K1 K2)) (h1 : jst callW k1 scr code x K1) (h2 : pst callP k2 scr code x K2) : jst callW (qAnd k1 k2) scr code x (fun z => K1 z ∧ K2 z) := by
  obtain ⟨S, R, E, C, hT, hP⟩ := pview scr code x
  obtain ⟨s, a1, a2, a3⟩ := (hT callW k1 K1).mp h1
  obtain ⟨b1, b2, b3⟩ := (hP callP k2 K2).mp h2 s
  exact (hT callW _ _).mpr ⟨s, fun z r => ⟨a1 z r, b1 z r⟩, fun v σ e => ⟨a2 v σ e, b2 v σ e⟩, fun m as σ f c => Hc m as σ _ _ (a3 m as σ f c) (b3 m as σ f c)⟩
theorem pst_of {callW callP : jQ} {k : jK} {scr : Option (Nat × (Nat → Int32))} {code : List jN} {x : jX} {K : jX → Prop} (Hc : ∀ m as σ K, callW m as σ K → callP m as σ K) (h : jst callW k scr code x K) : pst callP k scr code x K := by
  obtain ⟨S, R, E, C, hT, hP⟩ := pview scr code x
  obtain ⟨s, a1, a2, a3⟩ := (hT callW k K).mp h
  exact (hP callP k K).mpr (fun _ => ⟨a1, a2, fun m as σ f c => Hc m as σ _ (a3 m as σ f c)⟩)
noncomputable def pn (call : jQ) (k : jK) (scr : Option (Nat × (Nat → Int32))) (code : List jN) : Nat → jX → Prop
  | 0, _ => True
  | n + 1, x => pst call k scr code x (pn call k scr code n)
noncomputable def jPM : Nat → jQ
  | 0 => fun _ _ _ _ => True
  | d + 1 => fun m as σ k => match Nat.ble (jlen (jent as)) (jmi m).2.2.1 with
    | true => ∀ n, pn (jPM d) k none (jco m) n (0, jpad (jmi m).2.2.1 (jent as), [], σ)
    | false => True
theorem pn_mono {call call' : jQ} {k k' : jK} {scr : Option (Nat × (Nat → Int32))} {code : List jN} (Hc : ∀ m as σ K K', (∀ v σ, K v σ → K' v σ) → call m as σ K → call' m as σ K') (hk : ∀ v σ, k v σ → k' v σ) : ∀ (n : Nat) {x : jX}, pn call k scr code n x → pn call' k' scr code n x
  | 0, _, _ => trivial
  | n + 1, _, h => pst_mono Hc hk (fun z hz => pn_mono Hc hk n hz) h
theorem jPM_mono : ∀ (d : Nat) (m : Nat) (as : List jV) (σ : jS) (K K' : jK), (∀ v σ, K v σ → K' v σ) → jPM d m as σ K → jPM d m as σ K'
  | 0, _, _, _, _, _, _, _ => trivial
  | d + 1, m, as, σ, K, K', hK, h => by
    unfold jPM at h ⊢
    split
    · rename_i e
      rw [e] at h
      exact fun n => pn_mono (jPM_mono d) hK n (h n)
    · trivial
theorem pn_dec {d : Nat} {k : jK} {scr : Option (Nat × (Nat → Int32))} {code : List jN} : ∀ (n : Nat) {x : jX}, pn (jPM d) k scr code (n + 1) x → pn (jPM d) k scr code n x
  | 0, _, _ => trivial
  | n + 1, _, h => pst_mono (jPM_mono d) (fun _ _ q => q) (fun z hz => pn_dec n hz) h
theorem jPM_dec : ∀ (d : Nat) (m : Nat) (as : List jV) (σ : jS) (K : jK), jPM (d + 1) m as σ K → jPM d m as σ K
  | 0, _, _, _, _, _ => trivial
  | d + 1, m, as, σ, K, h => by
    unfold jPM at h ⊢
    split
    · rename_i e
      rw [e] at h
      exact fun n => pn_mono (fun m as σ K K' q w => jPM_dec d m as σ K' (jPM_mono (d + 1) m as σ K K' q w)) (fun _ _ q => q) n (h n)
    · trivial
theorem jPM_le {m : Nat} {as : List jV} {σ : jS} {K : jK} : ∀ {d e : Nat}, d ≤ e → jPM e m as σ K → jPM d m as σ K
  | d, 0, h, q => by rw [Nat.le_zero.mp h]; exact q
  | d, e + 1, h, q => by
    rcases Nat.lt_or_ge e d with w | w
    · rw [Nat.le_antisymm h w]; exact q
    · exact jPM_le w (jPM_dec e m as σ K q)
theorem pn_all {call : jQ} {k : Nat → jK} {scr : Option (Nat × (Nat → Int32))} {code : List jN} (Hc : ∀ m as σ (K : Nat → jK), (∀ n, call m as σ (K n)) → call m as σ (fun v σ => ∀ n, K n v σ)) (Hm : ∀ m as σ K K', (∀ v σ, K v σ → K' v σ) → call m as σ K → call m as σ K') : ∀ (n : Nat) {x : jX}, (∀ i, pn call (k i) scr code n x) → pn call (fun v σ => ∀ i, k i v σ) scr code n x
  | 0, _, _ => trivial
  | n + 1, _, h => pst_mono Hm (fun _ _ q => q) (fun z hz => pn_all Hc Hm n hz) (pst_all Hc h)
theorem jPM_all : ∀ (d : Nat) (m : Nat) (as : List jV) (σ : jS) (K : Nat → jK), (∀ n, jPM d m as σ (K n)) → jPM d m as σ (fun v σ => ∀ n, K n v σ)
  | 0, _, _, _, _, _ => trivial
  | d + 1, m, as, σ, K, h => by
    unfold jPM at h ⊢
    split
    · rename_i e
      rw [e] at h
      exact fun n => pn_all (jPM_all d) (jPM_mono d) n (fun i => h i n)
    · trivial
theorem jWB_mono {call : jQ} {k k' : jK} {scr : Option (Nat × (Nat → Int32))} {code : List jN} {x : jX} (Hc : ∀ m as σ K K', (∀ v σ, K v σ → K' v σ) → call m as σ K → call m as σ K') (hk : ∀ v σ, k v σ → k' v σ) (h : jWB call k scr code x) : jWB call k' scr code x :=
  h _ (fun _ _ hy hK => jWB_step (st_mono Hc hk hK hy))
theorem jWPM_mono : ∀ (d : Nat) (m : Nat) (as : List jV) (σ : jS) (K K' : jK), (∀ v σ, K v σ → K' v σ) → jWPM d m as σ K → jWPM d m as σ K'
  | 0, _, _, _, _, _, _, h => h
  | d + 1, m, as, σ, K, K', hK, h => by
    unfold jWPM at h ⊢
    split
    · rename_i e
      rw [e] at h
      exact jWB_mono (jWPM_mono d) hK h
    · rename_i e
      rw [e] at h
      exact h
/-- what is safe and comes to k1, and partially to k2, comes to both -/
theorem jWB_comb {d : Nat} {k1 k2 : jK} {scr : Option (Nat × (Nat → Int32))} {code : List jN} {x : jX} (Hc : ∀ m as σ K1 K2, jWPM d m as σ K1 → jPM d m as σ K2 → jWPM d m as σ (qAnd K1 K2)) (h1 : jWB (jWPM d) k1 scr code x) (h2 : ∀ n, pn (jPM d) k2 scr code n x) : jWB (jWPM d) (qAnd k1 k2) scr code x :=
  h1 (fun y => (∀ n, pn (jPM d) k2 scr code n y) → jWB (jWPM d) (qAnd k1 k2) scr code y) (fun y K hy hK h2 => jWB_step (st_mono (jWPM_mono d) (fun _ _ q => q) (fun z hz => hK z hz.1 hz.2) (pst_comb Hc hy (pst_mono (jPM_mono d) (fun _ _ q => q 0) (fun _ q => q) (pst_all (jPM_all d) (fun n => h2 (n + 1))))))) h2
theorem jWPM_comb : ∀ (d : Nat) (m : Nat) (as : List jV) (σ : jS) (K1 K2 : jK), jWPM d m as σ K1 → jPM d m as σ K2 → jWPM d m as σ (qAnd K1 K2)
  | 0, _, _, _, _, _, h, _ => h
  | d + 1, m, as, σ, K1, K2, h1, h2 => by
    unfold jWPM at h1 ⊢
    unfold jPM at h2
    split
    · rename_i e
      rw [e] at h1 h2
      exact jWB_comb (jWPM_comb d) h1 h2
    · rename_i e
      rw [e] at h1
      exact h1
theorem pn_of {d : Nat} {k : jK} {scr : Option (Nat × (Nat → Int32))} {code : List jN} {x : jX} (Hc : ∀ m as σ K, jWPM d m as σ K → jPM d m as σ K) (h : jWB (jWPM d) k scr code x) : ∀ n, pn (jPM d) k scr code n x :=
  h (fun y => ∀ n, pn (jPM d) k scr code n y) (fun y K hy hK n => by
    match n with
    | 0 => trivial
    | n + 1 => exact pst_mono (jPM_mono d) (fun _ _ q => q) (fun z hz => hK z hz n) (pst_of Hc hy))
theorem jPM_of : ∀ (d : Nat) (m : Nat) (as : List jV) (σ : jS) (K : jK), jWPM d m as σ K → jPM d m as σ K
  | 0, _, _, _, _, _ => trivial
  | d + 1, m, as, σ, K, h => by
    unfold jWPM at h
    unfold jPM
    split
    · rename_i e
      rw [e] at h
      exact pn_of (jPM_of d) h
    · trivial
noncomputable def prun (call : jQ) (k : jK) (scr : Option (Nat × (Nat → Int32))) (code : List jN) (stops : List Nat) (K : jX → Prop) : Nat → jX → Prop
  | 0, x => K x
  | n + 1, x => pst call k scr code x (fun y => match y with
    | (pc, z) => (match jel pc stops with
      | true => K (pc, z)
      | false => prun call k scr code stops K n (pc, z)))
theorem pn_go {d : Nat} {k : jK} {scr : Option (Nat × (Nat → Int32))} {code : List jN} (stops : List Nat) {n : Nat} : ∀ (N : Nat) {x : jX}, prun (jPM d) k scr code stops (pn (jPM d) k scr code n) N x → pn (jPM d) k scr code n x
  | 0, _, h => h
  | N + 1, x, h => by
    refine pn_dec n (pst_mono (jPM_mono d) (fun _ _ q => q) (fun z hz => ?_) h)
    obtain ⟨pc, z⟩ := z
    dsimp only at hz
    cases he : jel pc stops with
    | true => rw [he] at hz; exact hz
    | false => rw [he] at hz; exact pn_go stops N hz
/-- up to a stop, at the cost of one -/
theorem pn_lp {d : Nat} {k : jK} {scr : Option (Nat × (Nat → Int32))} {code : List jN} (stops : List Nat) {n : Nat} (N : Nat) {x : jX} (h : prun (jPM d) k scr code stops (pn (jPM d) k scr code n) (N + 1) x) : pn (jPM d) k scr code (n + 1) x := by
  refine pst_mono (jPM_mono d) (fun _ _ q => q) (fun z hz => ?_) h
  obtain ⟨pc, z⟩ := z
  dsimp only at hz
  cases he : jel pc stops with
  | true => rw [he] at hz; exact hz
  | false => rw [he] at hz; exact pn_go stops N hz
/-- a method, into its body -/
theorem pM {m : Nat} {as : List jV} {σ : jS} {k : jK} {d : Nat} (h : ∀ d n, pn (jPM d) k none (jco m) n (0, jpad (jmi m).2.2.1 (jent as), [], σ)) : jPM d m as σ k := by
  cases d with
  | zero => trivial
  | succ d =>
    unfold jPM
    split
    · exact h d
    · trivial
/-- a contract, partially, at any depth -/
theorem pK {m : Nat} {c : aK} (h : aKP aGI m c) {d : Nat} {as : List jV} {I : Nat → Nat → Nat → Int32} {L : Nat → Nat → Nat → Int64} {k : jK} (has : aAs c.1 as) (hG : gG aGI I) (hk : ∀ v I' L', gG aGI I' → gR c.2.2.1 I L I' L' → aRv c.2.1 v → k v (I', L')) : jPM d m as (I, L) k :=
  jPM_le (Nat.le_max_left d c.2.2.2) (jPM_of _ _ _ _ _ (h (max d c.2.2.2) (Nat.le_max_right _ _) as I L has hG k hk))
theorem use_jp {m : Nat} {A : List aA} {rv : Nat × (Int × Int)} (h : jKP m A rv) {d : Nat} {as : List jV} {I : Nat → Nat → Nat → Int32} {L : Nat → Nat → Nat → Int64} {k kp : jK} (hd : 13 ≤ d) (has : aAs A as) (hG : gG aGI I) (hJ : jJ I) (hp : jPM d m as (I, L) kp) (hk : ∀ v I' L', gG aGI I' → jJ I' → aRv rv v → kp v (I', L') → k v (I', L')) : jWPM d m as (I, L) k :=
  jWPM_mono d m as (I, L) _ _ (fun v σ q => hk v σ.1 σ.2 q.1.1 q.1.2.1 q.1.2.2 q.2) (jWPM_comb d m as (I, L) (fun v σ => gG aGI σ.1 ∧ jJ σ.1 ∧ aRv rv v) kp (h d hd as I L has hG hJ _ (fun v I' L' a b c => ⟨a, b, c⟩)) hp)
end
section
/-! printed by program: methods as functions, and that the partial machine comes to them -/
noncomputable abbrev jI : Type := Nat → Nat → Nat → Int32
noncomputable abbrev jL : Type := Nat → Nat → Nat → Int64
theorem obind {α β : Type} {o : Option α} {f : α → Option β} {b : β} (h : o.bind f = some b) : ∃ a, o = some a ∧ f a = some b := by
  cases o with
  | none => cases h
  | some a => exact ⟨a, rfl, h⟩
theorem jsw_cons {x : Int32} {K : Nat → Prop} {d : Nat} {c : Int32 × Nat} {t : List (Int32 × Nat)} (h1 : x = c.1 → K c.2) (h2 : ¬ x = c.1 → jsw x K d t) : jsw x K d (c :: t) := ⟨h1, h2⟩
theorem jsw_nil {x : Int32} {K : Nat → Prop} {d : Nat} (h : K d) : jsw x K d [] := h
/-- X3_take -/
noncomputable def d11 (a0 : Nat) (a1 : Nat) (I : jI) : jI :=
  (jcpy I 23 a1 23 a0 (Int32.toNatClampNeg 0) (Int32.toNatClampNeg 0) (Int32.toNatClampNeg 10))
set_option maxHeartbeats 4000000 in
set_option maxRecDepth 20000 in
theorem D11 {d : Nat} {k : jK} {a0 : Nat} {a1 : Nat} {I : jI} {L : jL} {r : jI} (h : d11 a0 a1 I = r) (hk : k none (r, L)) : jPM d 11 [.inr (7, a0), .inr (7, a1)] (I, L) k := by
  refine pM (fun d n => ?_)
  unfold d11 at h
  refine pn_go [] 400 ?_
  conv => whnf
  intro _
  conv => whnf
  subst h
  exact hk
/-- X1_takeStanding -/
noncomputable def d29 (a0 a1 : Nat) (I : jI) : jI := fun g i j => if i = a0 ∧ ((g = 4 ∧ 6 ≤ j ∧ j < 16) ∨ (18 ≤ g ∧ g < 22 ∧ j < 6) ∨ (g = 23 ∧ j < 10)) then I g a1 j else I g i j
noncomputable def cps (S : Nat → Nat → Prop) (a0 a1 : Nat) (I I' : jI) : Prop := (∀ g j, S g j → I' g a0 j = I g a1 j) ∧ ∀ g i j, ¬ (i = a0 ∧ S g j) → I' g i j = I g i j
theorem cps_src {S : Nat → Nat → Prop} {a0 a1 : Nat} {I I' : jI} (h : cps S a0 a1 I I') (g j : Nat) : I' g a1 j = I g a1 j := by
  by_cases q : a1 = a0 ∧ S g j
  · have := h.1 g j q.2
    rw [q.1] at this ⊢
    exact this
  · exact h.2 g a1 j q
theorem cps_arr {S : Nat → Nat → Prop} {a0 a1 : Nat} {I I' : jI} {g0 n sp dp : Nat} (h : cps S a0 a1 I I') (e1 : sp = 0) (e2 : dp = 0) : cps (fun g j => S g j ∨ (g = g0 ∧ j < n)) a0 a1 I (jcpy I' g0 a1 g0 a0 sp dp n) := by
  subst e1 e2
  refine ⟨fun g j s => ?_, fun g i j s => ?_⟩
  · unfold jcpy
    split
    · rename_i q
      rw [show 0 + (j - 0) = j by omega, q.1]
      exact cps_src h g0 j
    · rename_i q
      rcases s with s | s
      · exact h.1 g j s
      · exact absurd ⟨s.1, rfl, Nat.zero_le _, by omega⟩ q
  · unfold jcpy
    rw [if_neg (fun q => s ⟨q.2.1, Or.inr ⟨q.1, by omega⟩⟩)]
    exact h.2 g i j (fun q => s ⟨q.1, Or.inl q.2⟩)
theorem cps_fld {S : Nat → Nat → Prop} {a0 a1 : Nat} {I I' : jI} {f : Nat} (h : cps S a0 a1 I I') : cps (fun g j => S g j ∨ (g = 4 ∧ j = f)) a0 a1 I (jup I' 4 a0 f (I' 4 a1 f)) := by
  refine ⟨fun g j s => ?_, fun g i j s => ?_⟩
  · unfold jup
    split
    · rename_i q
      rw [q.1, q.2.2]
      exact cps_src h 4 f
    · rename_i q
      rcases s with s | s
      · exact h.1 g j s
      · exact absurd ⟨s.1, rfl, s.2⟩ q
  · unfold jup
    rw [if_neg (fun q => s ⟨q.2.1, Or.inr ⟨q.1, q.2.2⟩⟩)]
    exact h.2 g i j (fun q => s ⟨q.1, Or.inl q.2⟩)
set_option maxHeartbeats 4000000 in
set_option maxRecDepth 20000 in
theorem D29_0 {d n : Nat} {k : jK} {a0 a1 : Nat} {I J : jI} {L : jL} {S : Nat → Nat → Prop} (s : cps S a0 a1 I J) (hx : ∀ J, cps (fun g j => S g j ∨ (g = 18 ∧ j < 6)) a0 a1 I J → pn (jPM d) k none (jco 29) n (15, [some (.inr (4, a0)), some (.inr (4, a1))], [], J, L)) : pn (jPM d) k none (jco 29) n (0, [some (.inr (4, a0)), some (.inr (4, a1))], [], J, L) := by
  refine pn_go [15] 40 ?_
  conv => whnf
  intro _
  conv => whnf
  exact hx _ (cps_arr (g0 := 18) (n := 6) s rfl rfl)
set_option maxHeartbeats 4000000 in
set_option maxRecDepth 20000 in
theorem D29_15 {d n : Nat} {k : jK} {a0 a1 : Nat} {I J : jI} {L : jL} {S : Nat → Nat → Prop} (s : cps S a0 a1 I J) (hx : ∀ J, cps (fun g j => S g j ∨ (g = 19 ∧ j < 6)) a0 a1 I J → pn (jPM d) k none (jco 29) n (30, [some (.inr (4, a0)), some (.inr (4, a1))], [], J, L)) : pn (jPM d) k none (jco 29) n (15, [some (.inr (4, a0)), some (.inr (4, a1))], [], J, L) := by
  refine pn_go [30] 40 ?_
  conv => whnf
  intro _
  conv => whnf
  exact hx _ (cps_arr (g0 := 19) (n := 6) s rfl rfl)
set_option maxHeartbeats 4000000 in
set_option maxRecDepth 20000 in
theorem D29_30 {d n : Nat} {k : jK} {a0 a1 : Nat} {I J : jI} {L : jL} {S : Nat → Nat → Prop} (s : cps S a0 a1 I J) (hx : ∀ J, cps (fun g j => S g j ∨ (g = 20 ∧ j < 6)) a0 a1 I J → pn (jPM d) k none (jco 29) n (45, [some (.inr (4, a0)), some (.inr (4, a1))], [], J, L)) : pn (jPM d) k none (jco 29) n (30, [some (.inr (4, a0)), some (.inr (4, a1))], [], J, L) := by
  refine pn_go [45] 40 ?_
  conv => whnf
  intro _
  conv => whnf
  exact hx _ (cps_arr (g0 := 20) (n := 6) s rfl rfl)
set_option maxHeartbeats 4000000 in
set_option maxRecDepth 20000 in
theorem D29_45 {d n : Nat} {k : jK} {a0 a1 : Nat} {I J : jI} {L : jL} {S : Nat → Nat → Prop} (s : cps S a0 a1 I J) (hx : ∀ J, cps (fun g j => S g j ∨ (g = 21 ∧ j < 6)) a0 a1 I J → pn (jPM d) k none (jco 29) n (60, [some (.inr (4, a0)), some (.inr (4, a1))], [], J, L)) : pn (jPM d) k none (jco 29) n (45, [some (.inr (4, a0)), some (.inr (4, a1))], [], J, L) := by
  refine pn_go [60] 40 ?_
  conv => whnf
  intro _
  conv => whnf
  exact hx _ (cps_arr (g0 := 21) (n := 6) s rfl rfl)
set_option maxHeartbeats 4000000 in
set_option maxRecDepth 20000 in
theorem D29_60 {d n : Nat} {k : jK} {a0 a1 : Nat} {I J : jI} {L : jL} {S : Nat → Nat → Prop} (s : cps S a0 a1 I J) (hx : ∀ J, cps (fun g j => S g j ∨ (g = 23 ∧ j < 10)) a0 a1 I J → pn (jPM d) k none (jco 29) n (71, [some (.inr (4, a0)), some (.inr (4, a1))], [], J, L)) : pn (jPM d) k none (jco 29) n (60, [some (.inr (4, a0)), some (.inr (4, a1))], [], J, L) := by
  refine pn_go [71] 40 ?_
  conv => whnf
  refine D11 rfl ?_
  conv => whnf
  exact hx _ (cps_arr (g0 := 23) (n := 10) s rfl rfl)
set_option maxHeartbeats 4000000 in
set_option maxRecDepth 20000 in
theorem D29_71 {d n : Nat} {k : jK} {a0 a1 : Nat} {I J : jI} {L : jL} {S : Nat → Nat → Prop} (s : cps S a0 a1 I J) (hx : ∀ J, cps (fun g j => S g j ∨ (g = 4 ∧ j = 6)) a0 a1 I J → pn (jPM d) k none (jco 29) n (79, [some (.inr (4, a0)), some (.inr (4, a1))], [], J, L)) : pn (jPM d) k none (jco 29) n (71, [some (.inr (4, a0)), some (.inr (4, a1))], [], J, L) := by
  refine pn_go [79] 40 ?_
  conv => whnf
  exact hx _ (cps_fld s)
set_option maxHeartbeats 4000000 in
set_option maxRecDepth 20000 in
theorem D29_79 {d n : Nat} {k : jK} {a0 a1 : Nat} {I J : jI} {L : jL} {S : Nat → Nat → Prop} (s : cps S a0 a1 I J) (hx : ∀ J, cps (fun g j => S g j ∨ (g = 4 ∧ j = 7)) a0 a1 I J → pn (jPM d) k none (jco 29) n (87, [some (.inr (4, a0)), some (.inr (4, a1))], [], J, L)) : pn (jPM d) k none (jco 29) n (79, [some (.inr (4, a0)), some (.inr (4, a1))], [], J, L) := by
  refine pn_go [87] 40 ?_
  conv => whnf
  exact hx _ (cps_fld s)
set_option maxHeartbeats 4000000 in
set_option maxRecDepth 20000 in
theorem D29_87 {d n : Nat} {k : jK} {a0 a1 : Nat} {I J : jI} {L : jL} {S : Nat → Nat → Prop} (s : cps S a0 a1 I J) (hx : ∀ J, cps (fun g j => S g j ∨ (g = 4 ∧ j = 8)) a0 a1 I J → pn (jPM d) k none (jco 29) n (95, [some (.inr (4, a0)), some (.inr (4, a1))], [], J, L)) : pn (jPM d) k none (jco 29) n (87, [some (.inr (4, a0)), some (.inr (4, a1))], [], J, L) := by
  refine pn_go [95] 40 ?_
  conv => whnf
  exact hx _ (cps_fld s)
set_option maxHeartbeats 4000000 in
set_option maxRecDepth 20000 in
theorem D29_95 {d n : Nat} {k : jK} {a0 a1 : Nat} {I J : jI} {L : jL} {S : Nat → Nat → Prop} (s : cps S a0 a1 I J) (hx : ∀ J, cps (fun g j => S g j ∨ (g = 4 ∧ j = 9)) a0 a1 I J → pn (jPM d) k none (jco 29) n (103, [some (.inr (4, a0)), some (.inr (4, a1))], [], J, L)) : pn (jPM d) k none (jco 29) n (95, [some (.inr (4, a0)), some (.inr (4, a1))], [], J, L) := by
  refine pn_go [103] 40 ?_
  conv => whnf
  exact hx _ (cps_fld s)
set_option maxHeartbeats 4000000 in
set_option maxRecDepth 20000 in
theorem D29_103 {d n : Nat} {k : jK} {a0 a1 : Nat} {I J : jI} {L : jL} {S : Nat → Nat → Prop} (s : cps S a0 a1 I J) (hx : ∀ J, cps (fun g j => S g j ∨ (g = 4 ∧ j = 10)) a0 a1 I J → pn (jPM d) k none (jco 29) n (111, [some (.inr (4, a0)), some (.inr (4, a1))], [], J, L)) : pn (jPM d) k none (jco 29) n (103, [some (.inr (4, a0)), some (.inr (4, a1))], [], J, L) := by
  refine pn_go [111] 40 ?_
  conv => whnf
  exact hx _ (cps_fld s)
set_option maxHeartbeats 4000000 in
set_option maxRecDepth 20000 in
theorem D29_111 {d n : Nat} {k : jK} {a0 a1 : Nat} {I J : jI} {L : jL} {S : Nat → Nat → Prop} (s : cps S a0 a1 I J) (hx : ∀ J, cps (fun g j => S g j ∨ (g = 4 ∧ j = 11)) a0 a1 I J → pn (jPM d) k none (jco 29) n (119, [some (.inr (4, a0)), some (.inr (4, a1))], [], J, L)) : pn (jPM d) k none (jco 29) n (111, [some (.inr (4, a0)), some (.inr (4, a1))], [], J, L) := by
  refine pn_go [119] 40 ?_
  conv => whnf
  exact hx _ (cps_fld s)
set_option maxHeartbeats 4000000 in
set_option maxRecDepth 20000 in
theorem D29_119 {d n : Nat} {k : jK} {a0 a1 : Nat} {I J : jI} {L : jL} {S : Nat → Nat → Prop} (s : cps S a0 a1 I J) (hx : ∀ J, cps (fun g j => S g j ∨ (g = 4 ∧ j = 12)) a0 a1 I J → pn (jPM d) k none (jco 29) n (127, [some (.inr (4, a0)), some (.inr (4, a1))], [], J, L)) : pn (jPM d) k none (jco 29) n (119, [some (.inr (4, a0)), some (.inr (4, a1))], [], J, L) := by
  refine pn_go [127] 40 ?_
  conv => whnf
  exact hx _ (cps_fld s)
set_option maxHeartbeats 4000000 in
set_option maxRecDepth 20000 in
theorem D29_127 {d n : Nat} {k : jK} {a0 a1 : Nat} {I J : jI} {L : jL} {S : Nat → Nat → Prop} (s : cps S a0 a1 I J) (hx : ∀ J, cps (fun g j => S g j ∨ (g = 4 ∧ j = 13)) a0 a1 I J → pn (jPM d) k none (jco 29) n (135, [some (.inr (4, a0)), some (.inr (4, a1))], [], J, L)) : pn (jPM d) k none (jco 29) n (127, [some (.inr (4, a0)), some (.inr (4, a1))], [], J, L) := by
  refine pn_go [135] 40 ?_
  conv => whnf
  exact hx _ (cps_fld s)
set_option maxHeartbeats 4000000 in
set_option maxRecDepth 20000 in
theorem D29_135 {d n : Nat} {k : jK} {a0 a1 : Nat} {I J : jI} {L : jL} {S : Nat → Nat → Prop} (s : cps S a0 a1 I J) (hx : ∀ J, cps (fun g j => S g j ∨ (g = 4 ∧ j = 14)) a0 a1 I J → pn (jPM d) k none (jco 29) n (143, [some (.inr (4, a0)), some (.inr (4, a1))], [], J, L)) : pn (jPM d) k none (jco 29) n (135, [some (.inr (4, a0)), some (.inr (4, a1))], [], J, L) := by
  refine pn_go [143] 40 ?_
  conv => whnf
  intro _
  conv => whnf
  exact hx _ (cps_fld s)
set_option maxHeartbeats 4000000 in
set_option maxRecDepth 20000 in
theorem D29_143 {d n : Nat} {k : jK} {a0 a1 : Nat} {I J : jI} {L : jL} {S : Nat → Nat → Prop} (s : cps S a0 a1 I J) (hx : ∀ J, cps (fun g j => S g j ∨ (g = 4 ∧ j = 15)) a0 a1 I J → k none (J, L)) : pn (jPM d) k none (jco 29) n (143, [some (.inr (4, a0)), some (.inr (4, a1))], [], J, L) := by
  refine pn_go [] 40 ?_
  conv => whnf
  exact hx _ (cps_fld s)
theorem D29 {d : Nat} {k : jK} {a0 : Nat} {a1 : Nat} {I : jI} {L : jL} {r : jI} (h : d29 a0 a1 I = r) (hk : k none (r, L)) : jPM d 29 [.inr (4, a0), .inr (4, a1)] (I, L) k := by
  refine pM (fun d n => ?_)
  have s0 : cps (fun _ _ => False) a0 a1 I I := ⟨fun _ _ s => s.elim, fun _ _ _ _ => rfl⟩
  refine D29_0 s0 (fun J1 s1 => ?_)
  refine D29_15 s1 (fun J2 s2 => ?_)
  refine D29_30 s2 (fun J3 s3 => ?_)
  refine D29_45 s3 (fun J4 s4 => ?_)
  refine D29_60 s4 (fun J5 s5 => ?_)
  refine D29_71 s5 (fun J6 s6 => ?_)
  refine D29_79 s6 (fun J7 s7 => ?_)
  refine D29_87 s7 (fun J8 s8 => ?_)
  refine D29_95 s8 (fun J9 s9 => ?_)
  refine D29_103 s9 (fun J10 s10 => ?_)
  refine D29_111 s10 (fun J11 s11 => ?_)
  refine D29_119 s11 (fun J12 s12 => ?_)
  refine D29_127 s12 (fun J13 s13 => ?_)
  refine D29_135 s13 (fun J14 s14 => ?_)
  refine D29_143 s14 (fun J s => ?_)
  have e : J = r := by
    rw [← h]
    funext g i j
    unfold d29
    split
    · rename_i q
      rw [q.1]
      refine s.1 g j ?_
      have q := q.2
      clear s h hk
      rcases q with ⟨q1, q2, q3⟩ | ⟨q1, q2, q3⟩ | ⟨q1, q2⟩
      · subst q1
        have : j = 6 ∨ j = 7 ∨ j = 8 ∨ j = 9 ∨ j = 10 ∨ j = 11 ∨ j = 12 ∨ j = 13 ∨ j = 14 ∨ j = 15 := by omega
        rcases this with q | q | q | q | q | q | q | q | q | q <;> subst q <;> simp
      · have : g = 18 ∨ g = 19 ∨ g = 20 ∨ g = 21 := by omega
        rcases this with q | q | q | q <;> subst q <;> simp [q3]
      · subst q1; simp [q2]
    · rename_i q
      refine s.2 g i j (fun z => q ⟨z.1, ?_⟩)
      have z := z.2
      clear s h hk q
      rcases z with (((((((((((((((z | z) | z) | z) | z) | z) | z) | z) | z) | z) | z) | z) | z) | z) | z) | z)
      · exact z.elim
      all_goals (obtain ⟨z1, z2⟩ := z; subst z1; omega)
  rw [e]
  exact hk
end
section
/-- X2_costByCard -/
noncomputable def d6 (a0 : Int32) (a1 : Int32) (I : jI) : Int32 :=
  if a1 = 0 then
    a0
  else
    ((a0 * 3) / 4)
set_option maxHeartbeats 4000000 in
set_option maxRecDepth 20000 in
theorem D6 {d : Nat} {k : jK} {a0 : Int32} {a1 : Int32} {I : jI} {L : jL} {r : Int32} (h : d6 a0 a1 I = r) (hk : k (some (.inl (.inl r))) (I, L)) : jPM d 6 [.inl (.inl a0), .inl (.inl a1)] (I, L) k := by
  refine pM (fun d n => ?_)
  unfold d6 at h
  refine pn_go [] 400 ?_
  conv => whnf
  refine ⟨fun cz1 => ?_, fun cz1 => ?_⟩
  · replace h := (if_pos cz1).symm.trans h
    conv => whnf
    subst h
    exact hk
  · replace h := (if_neg cz1).symm.trans h
    conv => whnf
    intro _
    conv => whnf
    subst h
    exact hk
/-- X2_cost -/
noncomputable def d5 (a0 : Int32) (a1 : Int32) (a2 : Int32) (a3 : Int32) (I : jI) : Int32 :=
  if a0 = 1 then
    (d6 (a1 * a2) a3 I)
  else
    if a0 = 2 then
      ((a1 - (a1 / 3)) * a2)
    else
      if a0 = 3 then
        ((a1 * a2) / 2)
      else
        if a0 = 4 then
          (if 0 < ((d6 (a1 * a2) a3 I) - a1) then ((d6 (a1 * a2) a3 I) - a1) else 0)
        else
          if a0 = 5 then
            ((a1 - (a1 / 3)) * a2)
          else
            (a1 * a2)
set_option maxHeartbeats 4000000 in
set_option maxRecDepth 20000 in
theorem D5 {d : Nat} {k : jK} {a0 : Int32} {a1 : Int32} {a2 : Int32} {a3 : Int32} {I : jI} {L : jL} {r : Int32} (h : d5 a0 a1 a2 a3 I = r) (hk : k (some (.inl (.inl r))) (I, L)) : jPM d 5 [.inl (.inl a0), .inl (.inl a1), .inl (.inl a2), .inl (.inl a3)] (I, L) k := by
  refine pM (fun d n => ?_)
  unfold d5 at h
  refine pn_go [] 400 ?_
  conv => whnf
  refine And.intro (fun cz1 => ?_) (fun cz1 => ?_)
  · replace h := (if_pos cz1).symm.trans h
    conv => whnf
    refine D6 rfl ?_
    conv => whnf
    subst h
    exact hk
  replace h := (if_neg cz1).symm.trans h
  refine jsw_cons (fun cz2 => ?_) (fun cz2 => ?_)
  · replace h := (if_pos cz2).symm.trans h
    conv => whnf
    intro _
    conv => whnf
    subst h
    exact hk
  replace h := (if_neg cz2).symm.trans h
  refine jsw_cons (fun cz3 => ?_) (fun cz3 => ?_)
  · replace h := (if_pos cz3).symm.trans h
    conv => whnf
    intro _
    conv => whnf
    subst h
    exact hk
  replace h := (if_neg cz3).symm.trans h
  refine jsw_cons (fun cz4 => ?_) (fun cz4 => ?_)
  · replace h := (if_pos cz4).symm.trans h
    conv => whnf
    refine D6 rfl ?_
    conv => whnf
    subst h
    exact hk
  replace h := (if_neg cz4).symm.trans h
  refine jsw_cons (fun cz5 => ?_) (fun cz5 => ?_)
  · replace h := (if_pos cz5).symm.trans h
    conv => whnf
    intro _
    conv => whnf
    subst h
    exact hk
  replace h := (if_neg cz5).symm.trans h
  refine jsw_nil ?_
  conv => whnf
  subst h
  exact hk
/-- X2_got -/
noncomputable def d7 (a0 : Int32) (a1 : Int32) (I : jI) : Int32 :=
  if a0 = 3 then
    (a1 / 2)
  else
    a1
set_option maxHeartbeats 4000000 in
set_option maxRecDepth 20000 in
theorem D7 {d : Nat} {k : jK} {a0 : Int32} {a1 : Int32} {I : jI} {L : jL} {r : Int32} (h : d7 a0 a1 I = r) (hk : k (some (.inl (.inl r))) (I, L)) : jPM d 7 [.inl (.inl a0), .inl (.inl a1)] (I, L) k := by
  refine pM (fun d n => ?_)
  unfold d7 at h
  refine pn_go [] 400 ?_
  conv => whnf
  refine ⟨fun cz1 => ?_, fun cz1 => ?_⟩
  · replace h := (if_neg cz1).symm.trans h
    conv => whnf
    subst h
    exact hk
  · replace h := (if_pos cz1).symm.trans h
    conv => whnf
    intro _
    conv => whnf
    subst h
    exact hk
/-- X1_getsBy -/
noncomputable def d36 (a0 : Nat) (a1 : Int32) (I : jI) : Int32 :=
  (d7 (I 18 a0 (Int32.toNatClampNeg a1)) (I 19 a0 (Int32.toNatClampNeg a1)) I)
set_option maxHeartbeats 4000000 in
set_option maxRecDepth 20000 in
theorem D36 {d : Nat} {k : jK} {a0 : Nat} {a1 : Int32} {I : jI} {L : jL} {r : Int32} (h : d36 a0 a1 I = r) (hk : k (some (.inl (.inl r))) (I, L)) : jPM d 36 [.inr (4, a0), .inl (.inl a1)] (I, L) k := by
  refine pM (fun d n => ?_)
  unfold d36 at h
  refine pn_go [] 400 ?_
  conv => whnf
  intro _
  conv => whnf
  intro _
  conv => whnf
  refine D7 rfl ?_
  conv => whnf
  subst h
  exact hk
/-- X3_eat, loop at 4 -/
noncomputable def d13_4 (y0 : Nat) (y1 : Int32) : Nat → Int32 → Int32 → jI → Option (Int32 × jI)
  | 0, _, _, _ => none
  | F + 1, x2, x3, I =>
    if 10 ≤ x3 then
      some (x2, I)
    else
      if x2 ≤ 0 then
        some (x2, I)
      else
        d13_4 y0 y1 F (x2 - (if (I 23 y0 (Int32.toNatClampNeg x3)) < x2 then (I 23 y0 (Int32.toNatClampNeg x3)) else x2)) (x3 + 1) (jup I 23 y0 (Int32.toNatClampNeg x3) ((I 23 y0 (Int32.toNatClampNeg x3)) - (if (I 23 y0 (Int32.toNatClampNeg x3)) < x2 then (I 23 y0 (Int32.toNatClampNeg x3)) else x2)))
set_option maxHeartbeats 4000000 in
set_option maxRecDepth 20000 in
theorem L13_4 {d n : Nat} {k : jK} {y0 : Nat} {y1 : Int32} {L : jL} : ∀ (F : Nat) (x2 : Int32) (x3 : Int32) (I : jI) (e4 : Option jV) (r : Int32 × jI), d13_4 y0 y1 F x2 x3 I = some r → (∀ (f3 f4 : Option jV), pn (jPM d) k none (jco 13) n (48, [some (.inr (7, y0)), some (.inl (.inl y1)), some (.inl (.inl r.1)), f3, f4], [], r.2, L)) → pn (jPM d) k none (jco 13) n (4, [some (.inr (7, y0)), some (.inl (.inl y1)), some (.inl (.inl x2)), some (.inl (.inl x3)), e4], [], I, L) := by
  intro F
  induction F with
  | zero => intro x2 x3 I e4 r h hx; cases h
  | succ F ih =>
    intro x2 x3 I e4 r h hx
    rw [d13_4] at h
    refine pn_go [4, 48] 400 ?_
    conv => whnf
    refine ⟨fun cz1 => ?_, fun cz1 => ?_⟩
    · replace h := (if_pos cz1).symm.trans h
      conv => whnf
      cases h
      exact hx _ _
    · replace h := (if_neg cz1).symm.trans h
      conv => whnf
      refine ⟨fun cz2 => ?_, fun cz2 => ?_⟩
      · replace h := (if_pos cz2).symm.trans h
        conv => whnf
        cases h
        exact hx _ _
      · replace h := (if_neg cz2).symm.trans h
        conv => whnf
        intro _
        conv => whnf
        intro _
        conv => whnf
        intro _
        conv => whnf
        exact ih _ _ _ _ r h hx
/-- X3_eat -/
noncomputable def d13 (a0 : Nat) (a1 : Int32) (I : jI) : Option (Int32 × jI) :=
  (d13_4 a0 a1 70 a1 0 I).bind fun r1 =>
  some ((a1 - r1.1), r1.2)
set_option maxHeartbeats 4000000 in
set_option maxRecDepth 20000 in
theorem D13 {d : Nat} {k : jK} {a0 : Nat} {a1 : Int32} {I : jI} {L : jL} {r : Int32 × jI} (h : d13 a0 a1 I = some r) (hk : k (some (.inl (.inl r.1))) (r.2, L)) : jPM d 13 [.inr (7, a0), .inl (.inl a1)] (I, L) k := by
  refine pM (fun d n => ?_)
  unfold d13 at h
  refine pn_go [4] 400 ?_
  conv => whnf
  obtain ⟨r1, hz1, h⟩ := obind h
  refine L13_4 _ _ _ _ _ _ hz1 (fun e3_r1 e4_r1 => ?_)
  refine pn_go [4] 400 ?_
  conv => whnf
  cases h
  exact hk
/-- X3_goOff -/
noncomputable def d14 (a0 : Nat) (I : jI) : Int32 × jI :=
  ((I 23 a0 (Int32.toNatClampNeg 0)), (jup (jcpy I 23 a0 23 a0 (Int32.toNatClampNeg 1) (Int32.toNatClampNeg 0) (Int32.toNatClampNeg 9)) 23 a0 (Int32.toNatClampNeg 9) 0))
set_option maxHeartbeats 4000000 in
set_option maxRecDepth 20000 in
theorem D14 {d : Nat} {k : jK} {a0 : Nat} {I : jI} {L : jL} {r : Int32 × jI} (h : d14 a0 I = r) (hk : k (some (.inl (.inl r.1))) (r.2, L)) : jPM d 14 [.inr (7, a0)] (I, L) k := by
  refine pM (fun d n => ?_)
  unfold d14 at h
  refine pn_go [] 400 ?_
  conv => whnf
  intro _
  conv => whnf
  intro _
  conv => whnf
  intro _
  conv => whnf
  subst h
  exact hk
/-- X3_all, loop at 4 -/
noncomputable def d10_4 (y0 : Nat) (I : jI) : Nat → Int32 → Int32 → Option (Int32)
  | 0, _, _ => none
  | F + 1, x1, x2 =>
    if 10 ≤ x2 then
      some x1
    else
      d10_4 y0 I F (x1 + (I 23 y0 (Int32.toNatClampNeg x2))) (x2 + 1)
set_option maxHeartbeats 4000000 in
set_option maxRecDepth 20000 in
theorem L10_4 {d n : Nat} {k : jK} {y0 : Nat} {I : jI} {L : jL} : ∀ (F : Nat) (x1 : Int32) (x2 : Int32) (r : Int32), d10_4 y0 I F x1 x2 = some r → (∀ (f2 : Option jV), pn (jPM d) k none (jco 10) n (25, [some (.inr (7, y0)), some (.inl (.inl r)), f2], [], I, L)) → pn (jPM d) k none (jco 10) n (4, [some (.inr (7, y0)), some (.inl (.inl x1)), some (.inl (.inl x2))], [], I, L) := by
  intro F
  induction F with
  | zero => intro x1 x2 r h hx; cases h
  | succ F ih =>
    intro x1 x2 r h hx
    rw [d10_4] at h
    refine pn_go [4, 25] 400 ?_
    conv => whnf
    refine ⟨fun cz1 => ?_, fun cz1 => ?_⟩
    · replace h := (if_pos cz1).symm.trans h
      conv => whnf
      cases h
      exact hx _
    · replace h := (if_neg cz1).symm.trans h
      conv => whnf
      intro _
      conv => whnf
      exact ih _ _ r h hx
/-- X3_all -/
noncomputable def d10 (a0 : Nat) (I : jI) : Option (Int32) :=
  (d10_4 a0 I 70 0 0).bind fun r1 =>
  some r1
set_option maxHeartbeats 4000000 in
set_option maxRecDepth 20000 in
theorem D10 {d : Nat} {k : jK} {a0 : Nat} {I : jI} {L : jL} {r : Int32} (h : d10 a0 I = some r) (hk : k (some (.inl (.inl r))) (I, L)) : jPM d 10 [.inr (7, a0)] (I, L) k := by
  refine pM (fun d n => ?_)
  unfold d10 at h
  refine pn_go [4] 400 ?_
  conv => whnf
  obtain ⟨r1, hz1, h⟩ := obind h
  refine L10_4 _ _ _ _ hz1 (fun e2_r1 => ?_)
  refine pn_go [4] 400 ?_
  conv => whnf
  cases h
  exact hk
/-- X2_keeping -/
noncomputable def d8 (a0 : Int32) (a1 : Int32) (I : jI) : Int32 :=
  if a0 = 5 then
    (a1 / 2)
  else
    a1
set_option maxHeartbeats 4000000 in
set_option maxRecDepth 20000 in
theorem D8 {d : Nat} {k : jK} {a0 : Int32} {a1 : Int32} {I : jI} {L : jL} {r : Int32} (h : d8 a0 a1 I = r) (hk : k (some (.inl (.inl r))) (I, L)) : jPM d 8 [.inl (.inl a0), .inl (.inl a1)] (I, L) k := by
  refine pM (fun d n => ?_)
  unfold d8 at h
  refine pn_go [] 400 ?_
  conv => whnf
  refine ⟨fun cz1 => ?_, fun cz1 => ?_⟩
  · replace h := (if_neg cz1).symm.trans h
    conv => whnf
    subst h
    exact hk
  · replace h := (if_pos cz1).symm.trans h
    conv => whnf
    intro _
    conv => whnf
    subst h
    exact hk
/-- X1_keepsFor -/
noncomputable def d37 (a0 : Nat) (a1 : Int32) (I : jI) : Int32 :=
  (d8 (I 18 a0 (Int32.toNatClampNeg a1)) (I 21 a0 (Int32.toNatClampNeg a1)) I)
set_option maxHeartbeats 4000000 in
set_option maxRecDepth 20000 in
theorem D37 {d : Nat} {k : jK} {a0 : Nat} {a1 : Int32} {I : jI} {L : jL} {r : Int32} (h : d37 a0 a1 I = r) (hk : k (some (.inl (.inl r))) (I, L)) : jPM d 37 [.inr (4, a0), .inl (.inl a1)] (I, L) k := by
  refine pM (fun d n => ?_)
  unfold d37 at h
  refine pn_go [] 400 ?_
  conv => whnf
  intro _
  conv => whnf
  intro _
  conv => whnf
  refine D8 rfl ?_
  conv => whnf
  subst h
  exact hk
/-- X3_add -/
noncomputable def d12 (a0 : Nat) (a1 : Int32) (a2 : Int32) (I : jI) : jI :=
  (jup I 23 a0 (Int32.toNatClampNeg a1) ((I 23 a0 (Int32.toNatClampNeg a1)) + a2))
set_option maxHeartbeats 4000000 in
set_option maxRecDepth 20000 in
theorem D12 {d : Nat} {k : jK} {a0 : Nat} {a1 : Int32} {a2 : Int32} {I : jI} {L : jL} {r : jI} (h : d12 a0 a1 a2 I = r) (hk : k none (r, L)) : jPM d 12 [.inr (7, a0), .inl (.inl a1), .inl (.inl a2)] (I, L) k := by
  refine pM (fun d n => ?_)
  unfold d12 at h
  refine pn_go [] 400 ?_
  conv => whnf
  intro _
  conv => whnf
  intro _
  conv => whnf
  subst h
  exact hk
/-- X1_costOf -/
noncomputable def d35 (a0 : Nat) (a1 : Int32) (a2 : Int32) (I : jI) : Int32 :=
  (d5 (I 18 a0 (Int32.toNatClampNeg a1)) a2 (I 20 a0 (Int32.toNatClampNeg a1)) (I 4 a0 14) I)
set_option maxHeartbeats 4000000 in
set_option maxRecDepth 20000 in
theorem D35 {d : Nat} {k : jK} {a0 : Nat} {a1 : Int32} {a2 : Int32} {I : jI} {L : jL} {r : Int32} (h : d35 a0 a1 a2 I = r) (hk : k (some (.inl (.inl r))) (I, L)) : jPM d 35 [.inr (4, a0), .inl (.inl a1), .inl (.inl a2)] (I, L) k := by
  refine pM (fun d n => ?_)
  unfold d35 at h
  refine pn_go [] 400 ?_
  conv => whnf
  intro _
  conv => whnf
  intro _
  conv => whnf
  refine D5 rfl ?_
  conv => whnf
  subst h
  exact hk
/-- X4_liveWeek -/
noncomputable def d56 (rc : Nat → Int32 → Int32 → Int32 → jI → Option (jI)) (a1 : Nat) (a2 : Int32) (a3 : Int32) (a4 : Int32) (a5 : Int32) (I : jI) : Option (jI) :=
  if a3 = (-9) then
    (d13 (7 + (Int32.toNatClampNeg (a2 + 1))) ((d11 (7 + (Int32.toNatClampNeg (a2 + 1))) (7 + (Int32.toNatClampNeg a2)) I) 4 a1 7) (d11 (7 + (Int32.toNatClampNeg (a2 + 1))) (7 + (Int32.toNatClampNeg a2)) I)).bind fun r1 =>
    if r1.1 = (r1.2 4 a1 7) then
      (rc a1 (a2 + 1) (a4 + 0) (a5 + ((d14 (7 + (Int32.toNatClampNeg (a2 + 1))) (jup r1.2 27 0 (Int32.toNatClampNeg a2) a3)).1)) ((d14 (7 + (Int32.toNatClampNeg (a2 + 1))) (jup r1.2 27 0 (Int32.toNatClampNeg a2) a3)).2)).bind fun r2 =>
      some r2
    else
      some r1.2
  else
    (d10 (7 + (Int32.toNatClampNeg (a2 + 1))) (d11 (7 + (Int32.toNatClampNeg (a2 + 1))) (7 + (Int32.toNatClampNeg a2)) I)).bind fun r3 =>
    if (r3 + (d36 a1 a3 (d11 (7 + (Int32.toNatClampNeg (a2 + 1))) (7 + (Int32.toNatClampNeg a2)) I))) ≤ ((d11 (7 + (Int32.toNatClampNeg (a2 + 1))) (7 + (Int32.toNatClampNeg a2)) I) 4 a1 8) then
      (d13 (7 + (Int32.toNatClampNeg (a2 + 1))) ((d12 (7 + (Int32.toNatClampNeg (a2 + 1))) (d37 a1 a3 (d11 (7 + (Int32.toNatClampNeg (a2 + 1))) (7 + (Int32.toNatClampNeg a2)) I)) (d36 a1 a3 (d11 (7 + (Int32.toNatClampNeg (a2 + 1))) (7 + (Int32.toNatClampNeg a2)) I)) (d11 (7 + (Int32.toNatClampNeg (a2 + 1))) (7 + (Int32.toNatClampNeg a2)) I)) 4 a1 7) (d12 (7 + (Int32.toNatClampNeg (a2 + 1))) (d37 a1 a3 (d11 (7 + (Int32.toNatClampNeg (a2 + 1))) (7 + (Int32.toNatClampNeg a2)) I)) (d36 a1 a3 (d11 (7 + (Int32.toNatClampNeg (a2 + 1))) (7 + (Int32.toNatClampNeg a2)) I)) (d11 (7 + (Int32.toNatClampNeg (a2 + 1))) (7 + (Int32.toNatClampNeg a2)) I))).bind fun r4 =>
      if r4.1 = (r4.2 4 a1 7) then
        (rc a1 (a2 + 1) (a4 + (d35 a1 a3 1 (d12 (7 + (Int32.toNatClampNeg (a2 + 1))) (d37 a1 a3 (d11 (7 + (Int32.toNatClampNeg (a2 + 1))) (7 + (Int32.toNatClampNeg a2)) I)) (d36 a1 a3 (d11 (7 + (Int32.toNatClampNeg (a2 + 1))) (7 + (Int32.toNatClampNeg a2)) I)) (d11 (7 + (Int32.toNatClampNeg (a2 + 1))) (7 + (Int32.toNatClampNeg a2)) I)))) (a5 + ((d14 (7 + (Int32.toNatClampNeg (a2 + 1))) (jup r4.2 27 0 (Int32.toNatClampNeg a2) a3)).1)) ((d14 (7 + (Int32.toNatClampNeg (a2 + 1))) (jup r4.2 27 0 (Int32.toNatClampNeg a2) a3)).2)).bind fun r5 =>
        some r5
      else
        some r4.2
    else
      some (d11 (7 + (Int32.toNatClampNeg (a2 + 1))) (7 + (Int32.toNatClampNeg a2)) I)
set_option maxHeartbeats 4000000 in
set_option maxRecDepth 20000 in
theorem D56 {d : Nat} {k : jK} (rc : Nat → Int32 → Int32 → Int32 → jI → Option (jI)) (hrc : ∀ {d : Nat} {k : jK} {a1 : Nat} {a2 : Int32} {a3 : Int32} {a4 : Int32} {I : jI} {L : jL} {r : jI}, rc a1 a2 a3 a4 I = some r → k none (r, L) → jPM d 55 [.inr (9, 0), .inr (4, a1), .inl (.inl a2), .inl (.inl a3), .inl (.inl a4)] (I, L) k) {a1 : Nat} {a2 : Int32} {a3 : Int32} {a4 : Int32} {a5 : Int32} {I : jI} {L : jL} {r : jI} (h : d56 rc a1 a2 a3 a4 a5 I = some r) (hk : k none (r, L)) : jPM d 56 [.inr (9, 0), .inr (4, a1), .inl (.inl a2), .inl (.inl a3), .inl (.inl a4), .inl (.inl a5)] (I, L) k := by
  refine pM (fun d n => ?_)
  unfold d56 at h
  refine pn_go [] 400 ?_
  conv => whnf
  intro _
  conv => whnf
  intro _
  conv => whnf
  refine D11 rfl ?_
  conv => whnf
  refine ⟨fun cz1 => ?_, fun cz1 => ?_⟩
  · replace h := (if_pos cz1).symm.trans h
    conv => whnf
    obtain ⟨r1, hz2, h⟩ := obind h
    refine D13 hz2 ?_
    conv => whnf
    refine ⟨fun cz3 => ?_, fun cz3 => ?_⟩
    · replace h := (if_neg cz3).symm.trans h
      conv => whnf
      cases h
      exact hk
    · replace h := (if_pos cz3).symm.trans h
      conv => whnf
      intro _
      conv => whnf
      refine D14 rfl ?_
      conv => whnf
      obtain ⟨r2, hz4, h⟩ := obind h
      refine hrc hz4 ?_
      conv => whnf
      cases h
      exact hk
  · replace h := (if_neg cz1).symm.trans h
    conv => whnf
    refine D36 rfl ?_
    conv => whnf
    obtain ⟨r3, hz5, h⟩ := obind h
    refine D10 hz5 ?_
    conv => whnf
    refine ⟨fun cz6 => ?_, fun cz6 => ?_⟩
    · replace h := (if_pos cz6).symm.trans h
      conv => whnf
      refine D37 rfl ?_
      conv => whnf
      refine D12 rfl ?_
      conv => whnf
      refine D35 rfl ?_
      conv => whnf
      obtain ⟨r4, hz7, h⟩ := obind h
      refine D13 hz7 ?_
      conv => whnf
      refine ⟨fun cz8 => ?_, fun cz8 => ?_⟩
      · replace h := (if_neg cz8).symm.trans h
        conv => whnf
        cases h
        exact hk
      · replace h := (if_pos cz8).symm.trans h
        conv => whnf
        intro _
        conv => whnf
        refine D14 rfl ?_
        conv => whnf
        obtain ⟨r5, hz9, h⟩ := obind h
        refine hrc hz9 ?_
        conv => whnf
        cases h
        exact hk
    · replace h := (if_neg cz6).symm.trans h
      conv => whnf
      cases h
      exact hk
/-- X4_goOn, loop at 30 -/
noncomputable def d55_30 (rc : Nat → Int32 → Int32 → Int32 → jI → Option (jI)) (y1 : Nat) (y2 : Int32) (y3 : Int32) (y4 : Int32) : Nat → Int32 → jI → Option (jI)
  | 0, _, _ => none
  | F + 1, x5, I =>
    if (I 4 y1 6) ≤ x5 then
      some I
    else
      (d56 rc y1 y2 x5 y3 y4 I).bind fun r2 =>
      d55_30 rc y1 y2 y3 y4 F (x5 + 1) r2
set_option maxHeartbeats 4000000 in
set_option maxRecDepth 20000 in
theorem L55_30 {d n : Nat} {k : jK} (rc : Nat → Int32 → Int32 → Int32 → jI → Option (jI)) (hrc : ∀ {d : Nat} {k : jK} {a1 : Nat} {a2 : Int32} {a3 : Int32} {a4 : Int32} {I : jI} {L : jL} {r : jI}, rc a1 a2 a3 a4 I = some r → k none (r, L) → jPM d 55 [.inr (9, 0), .inr (4, a1), .inl (.inl a2), .inl (.inl a3), .inl (.inl a4)] (I, L) k) {y1 : Nat} {y2 : Int32} {y3 : Int32} {y4 : Int32} {L : jL} : ∀ (F : Nat) (x5 : Int32) (I : jI) (r : jI), d55_30 rc y1 y2 y3 y4 F x5 I = some r → (∀ (f5 : Option jV), pn (jPM d) k none (jco 55) n (56, [some (.inr (9, 0)), some (.inr (4, y1)), some (.inl (.inl y2)), some (.inl (.inl y3)), some (.inl (.inl y4)), f5], [], r, L)) → pn (jPM d) k none (jco 55) n (30, [some (.inr (9, 0)), some (.inr (4, y1)), some (.inl (.inl y2)), some (.inl (.inl y3)), some (.inl (.inl y4)), some (.inl (.inl x5))], [], I, L) := by
  intro F
  induction F with
  | zero => intro x5 I r h hx; cases h
  | succ F ih =>
    intro x5 I r h hx
    rw [d55_30] at h
    refine pn_go [30, 56] 400 ?_
    conv => whnf
    refine ⟨fun cz1 => ?_, fun cz1 => ?_⟩
    · replace h := (if_pos cz1).symm.trans h
      conv => whnf
      cases h
      exact hx _
    · replace h := (if_neg cz1).symm.trans h
      conv => whnf
      obtain ⟨r2, hz2, h⟩ := obind h
      refine D56 rc @hrc hz2 ?_
      conv => whnf
      exact ih _ _ r h hx
/-- X4_weigh -/
noncomputable def d57 (a1 : Int32) (a2 : Int32) (I : jI) : Option (jI) :=
  if ((jup I 9 0 5 (if a2 < (I 9 0 5) then a2 else (I 9 0 5))) 9 0 4) ≤ a1 then
    some (jup I 9 0 5 (if a2 < (I 9 0 5) then a2 else (I 9 0 5)))
  else
    some (jcpy (jup (jup I 9 0 5 (if a2 < (I 9 0 5) then a2 else (I 9 0 5))) 9 0 4 a1) 27 0 28 0 (Int32.toNatClampNeg 0) (Int32.toNatClampNeg 0) (Int32.toNatClampNeg ((jup (jup I 9 0 5 (if a2 < (I 9 0 5) then a2 else (I 9 0 5))) 9 0 4 a1) 9 0 3)))
set_option maxHeartbeats 4000000 in
set_option maxRecDepth 20000 in
theorem D57 {d : Nat} {k : jK} {a1 : Int32} {a2 : Int32} {I : jI} {L : jL} {r : jI} (h : d57 a1 a2 I = some r) (hk : k none (r, L)) : jPM d 57 [.inr (9, 0), .inl (.inl a1), .inl (.inl a2)] (I, L) k := by
  refine pM (fun d n => ?_)
  unfold d57 at h
  refine pn_go [] 400 ?_
  conv => whnf
  refine ⟨fun cz1 => ?_, fun cz1 => ?_⟩
  · replace h := (if_pos cz1).symm.trans h
    conv => whnf
    cases h
    exact hk
  · replace h := (if_neg cz1).symm.trans h
    conv => whnf
    intro _
    conv => whnf
    cases h
    exact hk
/-- X4_goOn -/
noncomputable def d55 (rc : Nat → Int32 → Int32 → Int32 → jI → Option (jI)) (a1 : Nat) (a2 : Int32) (a3 : Int32) (a4 : Int32) (I : jI) : Option (jI) :=
  if a2 < (I 9 0 3) then
    (d56 rc a1 a2 (-9) a3 a4 I).bind fun r1 =>
    (d55_30 rc a1 a2 a3 a4 70 0 r1).bind fun r3 =>
    some r3
  else
    (d57 a3 a4 I).bind fun r4 =>
    some r4
set_option maxHeartbeats 4000000 in
set_option maxRecDepth 20000 in
theorem D55 {d : Nat} {k : jK} (rc : Nat → Int32 → Int32 → Int32 → jI → Option (jI)) (hrc : ∀ {d : Nat} {k : jK} {a1 : Nat} {a2 : Int32} {a3 : Int32} {a4 : Int32} {I : jI} {L : jL} {r : jI}, rc a1 a2 a3 a4 I = some r → k none (r, L) → jPM d 55 [.inr (9, 0), .inr (4, a1), .inl (.inl a2), .inl (.inl a3), .inl (.inl a4)] (I, L) k) {a1 : Nat} {a2 : Int32} {a3 : Int32} {a4 : Int32} {I : jI} {L : jL} {r : jI} (h : d55 rc a1 a2 a3 a4 I = some r) (hk : k none (r, L)) : jPM d 55 [.inr (9, 0), .inr (4, a1), .inl (.inl a2), .inl (.inl a3), .inl (.inl a4)] (I, L) k := by
  refine pM (fun d n => ?_)
  unfold d55 at h
  refine pn_go [30] 400 ?_
  conv => whnf
  refine ⟨fun cz1 => ?_, fun cz1 => ?_⟩
  · replace h := (if_pos cz1).symm.trans h
    conv => whnf
    obtain ⟨r1, hz2, h⟩ := obind h
    refine D56 rc @hrc hz2 ?_
    conv => whnf
    obtain ⟨r3, hz3, h⟩ := obind h
    refine L55_30 rc @hrc _ _ _ _ hz3 (fun e5_r3 => ?_)
    refine pn_go [30] 400 ?_
    conv => whnf
    cases h
    exact hk
  · replace h := (if_neg cz1).symm.trans h
    conv => whnf
    obtain ⟨r4, hz4, h⟩ := obind h
    refine D57 hz4 ?_
    conv => whnf
    cases h
    exact hk
noncomputable def d55r : Nat → Nat → Int32 → Int32 → Int32 → jI → Option (jI)
  | 0, _, _, _, _, _ => none
  | F + 1, a1, a2, a3, a4, I => d55 (d55r F) a1 a2 a3 a4 I
theorem D55r : ∀ (F : Nat), ∀ {d : Nat} {k : jK} {a1 : Nat} {a2 : Int32} {a3 : Int32} {a4 : Int32} {I : jI} {L : jL} {r : jI}, d55r F a1 a2 a3 a4 I = some r → k none (r, L) → jPM d 55 [.inr (9, 0), .inr (4, a1), .inl (.inl a2), .inl (.inl a3), .inl (.inl a4)] (I, L) k
  | 0 => fun h _ => by cases h
  | F + 1 => fun h hk => D55 (d55r F) (D55r F) h hk
end
section
/-- X6_names -/
noncomputable def d15g1 (a1 : Int32) (I : jI) : Int32 :=
  if a1 < 0 then
    0
  else
    if (nI 6) ≤ a1 then
      0
    else
      1
set_option maxHeartbeats 4000000 in
set_option maxRecDepth 20000 in
theorem D15g1 {d : Nat} {k : jK} {a1 : Int32} {I : jI} {L : jL} {r : Int32} (h : d15g1 a1 I = r) (hk : k (some (.inl (.inl r))) (I, L)) : jPM d 15 [.inr (1, 0), .inl (.inl a1)] (I, L) k := by
  refine pM (fun d n => ?_)
  unfold d15g1 at h
  refine pn_go [] 400 ?_
  conv => whnf
  refine ⟨fun cz1 => ?_, fun cz1 => ?_⟩
  · replace h := (if_pos cz1).symm.trans h
    conv => whnf
    subst h
    exact fun _ => hk
  · replace h := (if_neg cz1).symm.trans h
    conv => whnf
    refine ⟨fun cz2 => ?_, fun cz2 => ?_⟩
    · replace h := (if_pos cz2).symm.trans h
      conv => whnf
      subst h
      exact fun _ => hk
    · replace h := (if_neg cz2).symm.trans h
      conv => whnf
      subst h
      exact fun _ => hk
/-- J7_fill_53178, loop at 5 -/
noncomputable def d2g29_5 (y0 : Nat) (y1 : Int32) (y3 : Int32) : Nat → Int32 → jI → Option (jI)
  | 0, _, _ => none
  | F + 1, x2, I =>
    if y3 ≤ x2 then
      some I
    else
      d2g29_5 y0 y1 y3 F (x2 + 1) (jup I 29 y0 (Int32.toNatClampNeg x2) y1)
set_option maxHeartbeats 4000000 in
set_option maxRecDepth 20000 in
theorem L2g29_5 {d n : Nat} {k : jK} {y0 : Nat} {y1 : Int32} {y3 : Int32} {L : jL} : ∀ (F : Nat) (x2 : Int32) (I : jI) (r : jI), d2g29_5 y0 y1 y3 F x2 I = some r → (∀ (f2 : Option jV), pn (jPM d) k none (jco 2) n (20, [some (.inr (29, y0)), some (.inl (.inl y1)), f2, some (.inl (.inl y3))], [], r, L)) → pn (jPM d) k none (jco 2) n (5, [some (.inr (29, y0)), some (.inl (.inl y1)), some (.inl (.inl x2)), some (.inl (.inl y3))], [], I, L) := by
  intro F
  induction F with
  | zero => intro x2 I r h hx; cases h
  | succ F ih =>
    intro x2 I r h hx
    rw [d2g29_5] at h
    refine pn_go [5, 20] 400 ?_
    conv => whnf
    refine ⟨fun cz1 => ?_, fun cz1 => ?_⟩
    · replace h := (if_pos cz1).symm.trans h
      conv => whnf
      cases h
      exact hx _
    · replace h := (if_neg cz1).symm.trans h
      conv => whnf
      intro _
      conv => whnf
      exact ih _ _ r h hx
/-- J7_fill_53178 -/
noncomputable def d2g29 (a0 : Nat) (a1 : Int32) (I : jI) : Option (jI) :=
  (d2g29_5 a0 a1 (nI 40) 70 0 I).bind fun r1 =>
  some r1
set_option maxHeartbeats 4000000 in
set_option maxRecDepth 20000 in
theorem D2g29 {d : Nat} {k : jK} {a0 : Nat} {a1 : Int32} {I : jI} {L : jL} {r : jI} (h : d2g29 a0 a1 I = some r) (hk : k none (r, L)) : jPM d 2 [.inr (29, a0), .inl (.inl a1)] (I, L) k := by
  refine pM (fun d n => ?_)
  unfold d2g29 at h
  refine pn_go [5] 400 ?_
  conv => whnf
  obtain ⟨r1, hz1, h⟩ := obind h
  refine L2g29_5 _ _ _ _ hz1 (fun e2_r1 => ?_)
  refine pn_go [5] 400 ?_
  conv => whnf
  cases h
  exact hk
/-- X6_makeAnew -/
noncomputable def d20g1 (a1 : Int32) (a2 : Int32) (a3 : Int32) (I : jI) : Option (jI) :=
  (d2g29 (Int32.toNatClampNeg a1) a3 I).bind fun r1 =>
  some (jup r1 14 0 (Int32.toNatClampNeg a1) a2)
set_option maxHeartbeats 4000000 in
set_option maxRecDepth 20000 in
theorem D20g1 {d : Nat} {k : jK} {a1 : Int32} {a2 : Int32} {a3 : Int32} {I : jI} {L : jL} {r : jI} (h : d20g1 a1 a2 a3 I = some r) (hk : k none (r, L)) : jPM d 20 [.inr (1, 0), .inl (.inl a1), .inl (.inl a2), .inl (.inl a3)] (I, L) k := by
  refine pM (fun d n => ?_)
  unfold d20g1 at h
  refine pn_go [] 400 ?_
  conv => whnf
  intro _
  conv => whnf
  obtain ⟨r1, hz1, h⟩ := obind h
  refine D2g29 hz1 ?_
  conv => whnf
  intro _
  conv => whnf
  cases h
  exact hk
/-- X7_find -/
noncomputable def d113 (a1 : Int32) (I : jI) : Int32 × jI :=
  ((-3), (jup (jup I 0 0 13 a1) 12 0 (Int32.toNatClampNeg a1) (((jup I 0 0 13 a1) 12 0 (Int32.toNatClampNeg a1)) + 1)))
set_option maxHeartbeats 4000000 in
set_option maxRecDepth 20000 in
theorem D113 {d : Nat} {k : jK} {a1 : Int32} {I : jI} {L : jL} {r : Int32 × jI} (h : d113 a1 I = r) (hk : k (some (.inl (.inl r.1))) (r.2, L)) : jPM d 113 [.inr (0, 0), .inl (.inl a1)] (I, L) k := by
  refine pM (fun d n => ?_)
  unfold d113 at h
  refine pn_go [] 400 ?_
  conv => whnf
  intro _
  conv => whnf
  intro _
  conv => whnf
  subst h
  exact hk
/-- X7_row -/
noncomputable def d68 (a1 : Int32) (a2 : Int32) (I : jI) : Option (Int32 × jI) :=
  if (d15g1 a1 I) = 0 then
    some ((-1), I)
  else
    if a2 ≤ 40 then
      if 0 ≤ a2 then
        (d20g1 a1 a2 0 I).bind fun r1 =>
        some (a2, r1)
      else
        some (((d113 5 I).1), ((d113 5 I).2))
    else
      some ((-1), I)
set_option maxHeartbeats 4000000 in
set_option maxRecDepth 20000 in
theorem D68 {d : Nat} {k : jK} {a1 : Int32} {a2 : Int32} {I : jI} {L : jL} {r : Int32 × jI} (h : d68 a1 a2 I = some r) (hk : k (some (.inl (.inl r.1))) (r.2, L)) : jPM d 68 [.inr (0, 0), .inl (.inl a1), .inl (.inl a2)] (I, L) k := by
  refine pM (fun d n => ?_)
  unfold d68 at h
  refine pn_go [] 400 ?_
  conv => whnf
  refine D15g1 rfl ?_
  conv => whnf
  refine ⟨fun cz1 => ?_, fun cz1 => ?_⟩
  · replace h := (if_pos cz1).symm.trans h
    conv => whnf
    cases h
    exact hk
  · replace h := (if_neg cz1).symm.trans h
    conv => whnf
    refine ⟨fun cz2 => ?_, fun cz2 => ?_⟩
    · replace h := (if_pos cz2).symm.trans h
      conv => whnf
      refine ⟨fun cz3 => ?_, fun cz3 => ?_⟩
      · replace h := (if_pos cz3).symm.trans h
        conv => whnf
        obtain ⟨r1, hz4, h⟩ := obind h
        refine D20g1 hz4 ?_
        conv => whnf
        cases h
        exact hk
      · replace h := (if_neg cz3).symm.trans h
        conv => whnf
        refine D113 rfl ?_
        conv => whnf
        cases h
        exact hk
    · replace h := (if_neg cz2).symm.trans h
      conv => whnf
      cases h
      exact hk
/-- X6_isThere -/
noncomputable def d16g1 (a1 : Int32) (I : jI) : Int32 :=
  if (I 14 0 (Int32.toNatClampNeg a1)) = (-1) then
    0
  else
    1
set_option maxHeartbeats 4000000 in
set_option maxRecDepth 20000 in
theorem D16g1 {d : Nat} {k : jK} {a1 : Int32} {I : jI} {L : jL} {r : Int32} (h : d16g1 a1 I = r) (hk : k (some (.inl (.inl r))) (I, L)) : jPM d 16 [.inr (1, 0), .inl (.inl a1)] (I, L) k := by
  refine pM (fun d n => ?_)
  unfold d16g1 at h
  refine pn_go [] 400 ?_
  conv => whnf
  intro _
  conv => whnf
  refine ⟨fun cz1 => ?_, fun cz1 => ?_⟩
  · replace h := (if_pos cz1).symm.trans h
    conv => whnf
    subst h
    exact fun _ => hk
  · replace h := (if_neg cz1).symm.trans h
    conv => whnf
    subst h
    exact fun _ => hk
/-- X6_troubleAt -/
noncomputable def d22g1 (a1 : Int32) (a2 : Int32) (I : jI) : Int32 :=
  if (d16g1 a1 I) = 0 then
    1
  else
    if a2 < 0 then
      2
    else
      if a2 < (I 14 0 (Int32.toNatClampNeg a1)) then
        0
      else
        2
set_option maxHeartbeats 4000000 in
set_option maxRecDepth 20000 in
theorem D22g1 {d : Nat} {k : jK} {a1 : Int32} {a2 : Int32} {I : jI} {L : jL} {r : Int32} (h : d22g1 a1 a2 I = r) (hk : k (some (.inl (.inl r))) (I, L)) : jPM d 22 [.inr (1, 0), .inl (.inl a1), .inl (.inl a2)] (I, L) k := by
  refine pM (fun d n => ?_)
  unfold d22g1 at h
  refine pn_go [] 400 ?_
  conv => whnf
  refine D16g1 rfl ?_
  conv => whnf
  refine ⟨fun cz1 => ?_, fun cz1 => ?_⟩
  · replace h := (if_neg cz1).symm.trans h
    conv => whnf
    refine ⟨fun cz2 => ?_, fun cz2 => ?_⟩
    · replace h := (if_pos cz2).symm.trans h
      conv => whnf
      subst h
      exact hk
    · replace h := (if_neg cz2).symm.trans h
      conv => whnf
      intro _
      conv => whnf
      refine ⟨fun cz3 => ?_, fun cz3 => ?_⟩
      · replace h := (if_pos cz3).symm.trans h
        conv => whnf
        subst h
        exact hk
      · replace h := (if_neg cz3).symm.trans h
        conv => whnf
        subst h
        exact hk
  · replace h := (if_pos cz1).symm.trans h
    conv => whnf
    subst h
    exact hk
/-- X6_get -/
noncomputable def d18g1 (a1 : Int32) (a2 : Int32) (I : jI) : Int32 :=
  (I 29 (Int32.toNatClampNeg a1) (Int32.toNatClampNeg a2))
set_option maxHeartbeats 4000000 in
set_option maxRecDepth 20000 in
theorem D18g1 {d : Nat} {k : jK} {a1 : Int32} {a2 : Int32} {I : jI} {L : jL} {r : Int32} (h : d18g1 a1 a2 I = r) (hk : k (some (.inl (.inl r))) (I, L)) : jPM d 18 [.inr (1, 0), .inl (.inl a1), .inl (.inl a2)] (I, L) k := by
  refine pM (fun d n => ?_)
  unfold d18g1 at h
  refine pn_go [] 400 ?_
  conv => whnf
  intro _
  conv => whnf
  intro _
  conv => whnf
  subst h
  exact hk
/-- X6_set -/
noncomputable def d19g1 (a1 : Int32) (a2 : Int32) (a3 : Int32) (I : jI) : jI :=
  (jup I 29 (Int32.toNatClampNeg a1) (Int32.toNatClampNeg a2) a3)
set_option maxHeartbeats 4000000 in
set_option maxRecDepth 20000 in
theorem D19g1 {d : Nat} {k : jK} {a1 : Int32} {a2 : Int32} {a3 : Int32} {I : jI} {L : jL} {r : jI} (h : d19g1 a1 a2 a3 I = r) (hk : k none (r, L)) : jPM d 19 [.inr (1, 0), .inl (.inl a1), .inl (.inl a2), .inl (.inl a3)] (I, L) k := by
  refine pM (fun d n => ?_)
  unfold d19g1 at h
  refine pn_go [] 400 ?_
  conv => whnf
  intro _
  conv => whnf
  intro _
  conv => whnf
  subst h
  exact hk
/-- X7_lay -/
noncomputable def d69 (a1 : Int32) (a2 : Int32) (a3 : Int32) (I : jI) : Option (Int32 × jI) :=
  if (d15g1 a1 I) = 0 then
    some ((-1), I)
  else
    if (d22g1 a1 a2 I) = 0 then
      some (1, (d19g1 a1 a2 a3 (jup I 0 0 14 (d18g1 a1 a2 I))))
    else
      some (((d113 (d22g1 a1 a2 I) I).1), ((d113 (d22g1 a1 a2 I) I).2))
set_option maxHeartbeats 4000000 in
set_option maxRecDepth 20000 in
theorem D69 {d : Nat} {k : jK} {a1 : Int32} {a2 : Int32} {a3 : Int32} {I : jI} {L : jL} {r : Int32 × jI} (h : d69 a1 a2 a3 I = some r) (hk : k (some (.inl (.inl r.1))) (r.2, L)) : jPM d 69 [.inr (0, 0), .inl (.inl a1), .inl (.inl a2), .inl (.inl a3)] (I, L) k := by
  refine pM (fun d n => ?_)
  unfold d69 at h
  refine pn_go [] 400 ?_
  conv => whnf
  refine D15g1 rfl ?_
  conv => whnf
  refine ⟨fun cz1 => ?_, fun cz1 => ?_⟩
  · replace h := (if_neg cz1).symm.trans h
    conv => whnf
    refine D22g1 rfl ?_
    conv => whnf
    refine ⟨fun cz2 => ?_, fun cz2 => ?_⟩
    · replace h := (if_pos cz2).symm.trans h
      conv => whnf
      refine D18g1 rfl ?_
      conv => whnf
      refine D19g1 rfl ?_
      conv => whnf
      cases h
      exact hk
    · replace h := (if_neg cz2).symm.trans h
      conv => whnf
      refine D113 rfl ?_
      conv => whnf
      cases h
      exact hk
  · replace h := (if_pos cz1).symm.trans h
    conv => whnf
    cases h
    exact hk
/-- X7_at -/
noncomputable def d70 (a1 : Int32) (a2 : Int32) (I : jI) : Option (Int32 × jI) :=
  if (d15g1 a1 I) = 0 then
    some ((-1), I)
  else
    if (d22g1 a1 a2 I) = 0 then
      some (1, (jup I 0 0 14 (d18g1 a1 a2 I)))
    else
      some (((d113 (d22g1 a1 a2 I) I).1), ((d113 (d22g1 a1 a2 I) I).2))
set_option maxHeartbeats 4000000 in
set_option maxRecDepth 20000 in
theorem D70 {d : Nat} {k : jK} {a1 : Int32} {a2 : Int32} {I : jI} {L : jL} {r : Int32 × jI} (h : d70 a1 a2 I = some r) (hk : k (some (.inl (.inl r.1))) (r.2, L)) : jPM d 70 [.inr (0, 0), .inl (.inl a1), .inl (.inl a2)] (I, L) k := by
  refine pM (fun d n => ?_)
  unfold d70 at h
  refine pn_go [] 400 ?_
  conv => whnf
  refine D15g1 rfl ?_
  conv => whnf
  refine ⟨fun cz1 => ?_, fun cz1 => ?_⟩
  · replace h := (if_neg cz1).symm.trans h
    conv => whnf
    refine D22g1 rfl ?_
    conv => whnf
    refine ⟨fun cz2 => ?_, fun cz2 => ?_⟩
    · replace h := (if_pos cz2).symm.trans h
      conv => whnf
      refine D18g1 rfl ?_
      conv => whnf
      cases h
      exact hk
    · replace h := (if_neg cz2).symm.trans h
      conv => whnf
      refine D113 rfl ?_
      conv => whnf
      cases h
      exact hk
  · replace h := (if_pos cz1).symm.trans h
    conv => whnf
    cases h
    exact hk
/-- X6_remove -/
noncomputable def d21g1 (a1 : Int32) (I : jI) : jI :=
  (jup I 14 0 (Int32.toNatClampNeg a1) (-1))
set_option maxHeartbeats 4000000 in
set_option maxRecDepth 20000 in
theorem D21g1 {d : Nat} {k : jK} {a1 : Int32} {I : jI} {L : jL} {r : jI} (h : d21g1 a1 I = r) (hk : k none (r, L)) : jPM d 21 [.inr (1, 0), .inl (.inl a1)] (I, L) k := by
  refine pM (fun d n => ?_)
  unfold d21g1 at h
  refine pn_go [] 400 ?_
  conv => whnf
  intro _
  conv => whnf
  subst h
  exact hk
/-- X7_tear -/
noncomputable def d71 (a1 : Int32) (I : jI) : Option (Int32 × jI) :=
  if (d15g1 a1 I) = 0 then
    some ((-1), I)
  else
    if (d16g1 a1 I) = 0 then
      some (((d113 1 I).1), ((d113 1 I).2))
    else
      some (1, (d21g1 a1 I))
set_option maxHeartbeats 4000000 in
set_option maxRecDepth 20000 in
theorem D71 {d : Nat} {k : jK} {a1 : Int32} {I : jI} {L : jL} {r : Int32 × jI} (h : d71 a1 I = some r) (hk : k (some (.inl (.inl r.1))) (r.2, L)) : jPM d 71 [.inr (0, 0), .inl (.inl a1)] (I, L) k := by
  refine pM (fun d n => ?_)
  unfold d71 at h
  refine pn_go [] 400 ?_
  conv => whnf
  refine D15g1 rfl ?_
  conv => whnf
  refine ⟨fun cz1 => ?_, fun cz1 => ?_⟩
  · replace h := (if_neg cz1).symm.trans h
    conv => whnf
    refine D16g1 rfl ?_
    conv => whnf
    refine ⟨fun cz2 => ?_, fun cz2 => ?_⟩
    · replace h := (if_neg cz2).symm.trans h
      conv => whnf
      refine D21g1 rfl ?_
      conv => whnf
      cases h
      exact hk
    · replace h := (if_pos cz2).symm.trans h
      conv => whnf
      refine D113 rfl ?_
      conv => whnf
      cases h
      exact hk
  · replace h := (if_pos cz1).symm.trans h
    conv => whnf
    cases h
    exact hk
/-- X6_hasPlaces -/
noncomputable def d23g1 (a1 : Int32) (a2 : Int32) (a3 : Int32) (I : jI) : Int32 :=
  if a2 < 0 then
    0
  else
    if (I 14 0 (Int32.toNatClampNeg a1)) < a2 then
      0
    else
      if ((I 14 0 (Int32.toNatClampNeg a1)) - a2) < a3 then
        0
      else
        1
set_option maxHeartbeats 4000000 in
set_option maxRecDepth 20000 in
theorem D23g1 {d : Nat} {k : jK} {a1 : Int32} {a2 : Int32} {a3 : Int32} {I : jI} {L : jL} {r : Int32} (h : d23g1 a1 a2 a3 I = r) (hk : k (some (.inl (.inl r))) (I, L)) : jPM d 23 [.inr (1, 0), .inl (.inl a1), .inl (.inl a2), .inl (.inl a3)] (I, L) k := by
  refine pM (fun d n => ?_)
  unfold d23g1 at h
  refine pn_go [] 400 ?_
  conv => whnf
  refine ⟨fun cz1 => ?_, fun cz1 => ?_⟩
  · replace h := (if_pos cz1).symm.trans h
    conv => whnf
    subst h
    exact fun _ => hk
  · replace h := (if_neg cz1).symm.trans h
    conv => whnf
    intro _
    conv => whnf
    refine ⟨fun cz2 => ?_, fun cz2 => ?_⟩
    · replace h := (if_pos cz2).symm.trans h
      conv => whnf
      subst h
      exact fun _ => hk
    · replace h := (if_neg cz2).symm.trans h
      conv => whnf
      intro _
      conv => whnf
      refine ⟨fun cz3 => ?_, fun cz3 => ?_⟩
      · replace h := (if_pos cz3).symm.trans h
        conv => whnf
        subst h
        exact fun _ => hk
      · replace h := (if_neg cz3).symm.trans h
        conv => whnf
        subst h
        exact fun _ => hk
/-- X6_move -/
noncomputable def d24g1 (a1 : Int32) (a2 : Int32) (a3 : Int32) (a4 : Int32) (a5 : Int32) (I : jI) : jI :=
  (jcpy I 29 (Int32.toNatClampNeg a1) 29 (Int32.toNatClampNeg a3) (Int32.toNatClampNeg a2) (Int32.toNatClampNeg a4) (Int32.toNatClampNeg a5))
set_option maxHeartbeats 4000000 in
set_option maxRecDepth 20000 in
theorem D24g1 {d : Nat} {k : jK} {a1 : Int32} {a2 : Int32} {a3 : Int32} {a4 : Int32} {a5 : Int32} {I : jI} {L : jL} {r : jI} (h : d24g1 a1 a2 a3 a4 a5 I = r) (hk : k none (r, L)) : jPM d 24 [.inr (1, 0), .inl (.inl a1), .inl (.inl a2), .inl (.inl a3), .inl (.inl a4), .inl (.inl a5)] (I, L) k := by
  refine pM (fun d n => ?_)
  unfold d24g1 at h
  refine pn_go [] 400 ?_
  conv => whnf
  intro _
  conv => whnf
  intro _
  conv => whnf
  intro _
  conv => whnf
  subst h
  exact hk
/-- X7_copy -/
noncomputable def d72 (a1 : Int32) (a2 : Int32) (a3 : Int32) (a4 : Int32) (a5 : Int32) (I : jI) : Option (Int32 × jI) :=
  if (d15g1 a1 I) = 0 then
    some ((-1), I)
  else
    if (d15g1 a3 I) = 0 then
      some ((-1), I)
    else
      if 0 ≤ a5 then
        if (d16g1 a1 I) = 0 then
          some (((d113 1 I).1), ((d113 1 I).2))
        else
          if (d16g1 a3 I) = 0 then
            some (((d113 1 I).1), ((d113 1 I).2))
          else
            if (d23g1 a1 a2 a5 I) = 0 then
              some (((d113 2 I).1), ((d113 2 I).2))
            else
              if (d23g1 a3 a4 a5 I) = 0 then
                some (((d113 2 I).1), ((d113 2 I).2))
              else
                some (1, (d24g1 a1 a2 a3 a4 a5 I))
      else
        some (((d113 5 I).1), ((d113 5 I).2))
set_option maxHeartbeats 4000000 in
set_option maxRecDepth 20000 in
theorem D72 {d : Nat} {k : jK} {a1 : Int32} {a2 : Int32} {a3 : Int32} {a4 : Int32} {a5 : Int32} {I : jI} {L : jL} {r : Int32 × jI} (h : d72 a1 a2 a3 a4 a5 I = some r) (hk : k (some (.inl (.inl r.1))) (r.2, L)) : jPM d 72 [.inr (0, 0), .inl (.inl a1), .inl (.inl a2), .inl (.inl a3), .inl (.inl a4), .inl (.inl a5)] (I, L) k := by
  refine pM (fun d n => ?_)
  unfold d72 at h
  refine pn_go [] 400 ?_
  conv => whnf
  refine D15g1 rfl ?_
  conv => whnf
  refine ⟨fun cz1 => ?_, fun cz1 => ?_⟩
  · replace h := (if_pos cz1).symm.trans h
    conv => whnf
    cases h
    exact hk
  · replace h := (if_neg cz1).symm.trans h
    conv => whnf
    refine D15g1 rfl ?_
    conv => whnf
    refine ⟨fun cz2 => ?_, fun cz2 => ?_⟩
    · replace h := (if_neg cz2).symm.trans h
      conv => whnf
      refine ⟨fun cz3 => ?_, fun cz3 => ?_⟩
      · replace h := (if_pos cz3).symm.trans h
        conv => whnf
        refine D16g1 rfl ?_
        conv => whnf
        refine ⟨fun cz4 => ?_, fun cz4 => ?_⟩
        · replace h := (if_pos cz4).symm.trans h
          conv => whnf
          refine D113 rfl ?_
          conv => whnf
          cases h
          exact hk
        · replace h := (if_neg cz4).symm.trans h
          conv => whnf
          refine D16g1 rfl ?_
          conv => whnf
          refine ⟨fun cz5 => ?_, fun cz5 => ?_⟩
          · replace h := (if_neg cz5).symm.trans h
            conv => whnf
            refine D23g1 rfl ?_
            conv => whnf
            refine ⟨fun cz6 => ?_, fun cz6 => ?_⟩
            · replace h := (if_pos cz6).symm.trans h
              conv => whnf
              refine D113 rfl ?_
              conv => whnf
              cases h
              exact hk
            · replace h := (if_neg cz6).symm.trans h
              conv => whnf
              refine D23g1 rfl ?_
              conv => whnf
              refine ⟨fun cz7 => ?_, fun cz7 => ?_⟩
              · replace h := (if_neg cz7).symm.trans h
                conv => whnf
                refine D24g1 rfl ?_
                conv => whnf
                cases h
                exact hk
              · replace h := (if_pos cz7).symm.trans h
                conv => whnf
                refine D113 rfl ?_
                conv => whnf
                cases h
                exact hk
          · replace h := (if_pos cz5).symm.trans h
            conv => whnf
            refine D113 rfl ?_
            conv => whnf
            cases h
            exact hk
      · replace h := (if_neg cz3).symm.trans h
        conv => whnf
        refine D113 rfl ?_
        conv => whnf
        cases h
        exact hk
    · replace h := (if_pos cz2).symm.trans h
      conv => whnf
      cases h
      exact hk
end
section
/-- X6_sizeOf -/
noncomputable def d17g1 (a1 : Int32) (I : jI) : Int32 :=
  (I 14 0 (Int32.toNatClampNeg a1))
set_option maxHeartbeats 4000000 in
set_option maxRecDepth 20000 in
theorem D17g1 {d : Nat} {k : jK} {a1 : Int32} {I : jI} {L : jL} {r : Int32} (h : d17g1 a1 I = r) (hk : k (some (.inl (.inl r))) (I, L)) : jPM d 17 [.inr (1, 0), .inl (.inl a1)] (I, L) k := by
  refine pM (fun d n => ?_)
  unfold d17g1 at h
  refine pn_go [] 400 ?_
  conv => whnf
  intro _
  conv => whnf
  subst h
  exact hk
/-- X6_sumOf, loop at 5 -/
noncomputable def d25g1_5 (y1 : Int32) (I : jI) : Nat → Int64 → Int32 → Option (Int64)
  | 0, _, _ => none
  | F + 1, x2, x4 =>
    if (I 14 0 (Int32.toNatClampNeg y1)) ≤ x4 then
      some x2
    else
      d25g1_5 y1 I F (x2 + (Int32.toInt64 (I 29 (Int32.toNatClampNeg y1) (Int32.toNatClampNeg x4)))) (x4 + 1)
set_option maxHeartbeats 4000000 in
set_option maxRecDepth 20000 in
theorem L25g1_5 {d n : Nat} {k : jK} {y1 : Int32} {I : jI} {L : jL} : ∀ (F : Nat) (x2 : Int64) (x4 : Int32) (r : Int64), d25g1_5 y1 I F x2 x4 = some r → (∀ (f4 : Option jV), pn (jPM d) k none (jco 25) n (35, [some (.inr (1, 0)), some (.inl (.inl y1)), some (.inl (.inr r)), none, f4], [], I, L)) → pn (jPM d) k none (jco 25) n (5, [some (.inr (1, 0)), some (.inl (.inl y1)), some (.inl (.inr x2)), none, some (.inl (.inl x4))], [], I, L) := by
  intro F
  induction F with
  | zero => intro x2 x4 r h hx; cases h
  | succ F ih =>
    intro x2 x4 r h hx
    rw [d25g1_5] at h
    refine pn_go [5, 35] 400 ?_
    conv => whnf
    intro _
    conv => whnf
    refine ⟨fun cz1 => ?_, fun cz1 => ?_⟩
    · replace h := (if_pos cz1).symm.trans h
      conv => whnf
      cases h
      exact hx _
    · replace h := (if_neg cz1).symm.trans h
      conv => whnf
      intro _
      conv => whnf
      intro _
      conv => whnf
      exact ih _ _ r h hx
/-- X6_sumOf -/
noncomputable def d25g1 (a1 : Int32) (I : jI) : Option (Int64) :=
  (d25g1_5 a1 I 70 0 0).bind fun r1 =>
  some r1
set_option maxHeartbeats 4000000 in
set_option maxRecDepth 20000 in
theorem D25g1 {d : Nat} {k : jK} {a1 : Int32} {I : jI} {L : jL} {r : Int64} (h : d25g1 a1 I = some r) (hk : k (some (.inl (.inr r))) (I, L)) : jPM d 25 [.inr (1, 0), .inl (.inl a1)] (I, L) k := by
  refine pM (fun d n => ?_)
  unfold d25g1 at h
  refine pn_go [5] 400 ?_
  conv => whnf
  obtain ⟨r1, hz1, h⟩ := obind h
  refine L25g1_5 _ _ _ _ hz1 (fun e4_r1 => ?_)
  refine pn_go [5] 400 ?_
  conv => whnf
  cases h
  exact hk
/-- X7_mean -/
noncomputable def d73 (a1 : Int32) (I : jI) : Option (Int32 × jI) :=
  if (d15g1 a1 I) = 0 then
    some ((-1), I)
  else
    if (d16g1 a1 I) = 0 then
      some (((d113 1 I).1), ((d113 1 I).2))
    else
      if (d17g1 a1 I) = 0 then
        some (((d113 4 I).1), ((d113 4 I).2))
      else
        (d25g1 a1 I).bind fun r1 =>
        some (1, (jup I 0 0 14 (Int64.toInt32 (r1 / (Int32.toInt64 (d17g1 a1 I))))))
set_option maxHeartbeats 4000000 in
set_option maxRecDepth 20000 in
theorem D73 {d : Nat} {k : jK} {a1 : Int32} {I : jI} {L : jL} {r : Int32 × jI} (h : d73 a1 I = some r) (hk : k (some (.inl (.inl r.1))) (r.2, L)) : jPM d 73 [.inr (0, 0), .inl (.inl a1)] (I, L) k := by
  refine pM (fun d n => ?_)
  unfold d73 at h
  refine pn_go [] 400 ?_
  conv => whnf
  refine D15g1 rfl ?_
  conv => whnf
  refine ⟨fun cz1 => ?_, fun cz1 => ?_⟩
  · replace h := (if_neg cz1).symm.trans h
    conv => whnf
    refine D16g1 rfl ?_
    conv => whnf
    refine ⟨fun cz2 => ?_, fun cz2 => ?_⟩
    · replace h := (if_neg cz2).symm.trans h
      conv => whnf
      refine D17g1 rfl ?_
      conv => whnf
      refine ⟨fun cz3 => ?_, fun cz3 => ?_⟩
      · replace h := (if_neg cz3).symm.trans h
        conv => whnf
        obtain ⟨r1, hz4, h⟩ := obind h
        refine D25g1 hz4 ?_
        conv => whnf
        intro _
        conv => whnf
        cases h
        exact hk
      · replace h := (if_pos cz3).symm.trans h
        conv => whnf
        refine D113 rfl ?_
        conv => whnf
        cases h
        exact hk
    · replace h := (if_pos cz2).symm.trans h
      conv => whnf
      refine D113 rfl ?_
      conv => whnf
      cases h
      exact hk
  · replace h := (if_pos cz1).symm.trans h
    conv => whnf
    cases h
    exact hk
/-- X6_names -/
noncomputable def d15g2 (a1 : Int32) (I : jI) : Int32 :=
  if a1 < 0 then
    0
  else
    if (nI 4) ≤ a1 then
      0
    else
      1
set_option maxHeartbeats 4000000 in
set_option maxRecDepth 20000 in
theorem D15g2 {d : Nat} {k : jK} {a1 : Int32} {I : jI} {L : jL} {r : Int32} (h : d15g2 a1 I = r) (hk : k (some (.inl (.inl r))) (I, L)) : jPM d 15 [.inr (2, 0), .inl (.inl a1)] (I, L) k := by
  refine pM (fun d n => ?_)
  unfold d15g2 at h
  refine pn_go [] 400 ?_
  conv => whnf
  refine ⟨fun cz1 => ?_, fun cz1 => ?_⟩
  · replace h := (if_pos cz1).symm.trans h
    conv => whnf
    subst h
    exact fun _ => hk
  · replace h := (if_neg cz1).symm.trans h
    conv => whnf
    refine ⟨fun cz2 => ?_, fun cz2 => ?_⟩
    · replace h := (if_pos cz2).symm.trans h
      conv => whnf
      subst h
      exact fun _ => hk
    · replace h := (if_neg cz2).symm.trans h
      conv => whnf
      subst h
      exact fun _ => hk
/-- J7_fill_53178, loop at 5 -/
noncomputable def d2g30_5 (y0 : Nat) (y1 : Int32) (y3 : Int32) : Nat → Int32 → jI → Option (jI)
  | 0, _, _ => none
  | F + 1, x2, I =>
    if y3 ≤ x2 then
      some I
    else
      d2g30_5 y0 y1 y3 F (x2 + 1) (jup I 30 y0 (Int32.toNatClampNeg x2) y1)
set_option maxHeartbeats 4000000 in
set_option maxRecDepth 20000 in
theorem L2g30_5 {d n : Nat} {k : jK} {y0 : Nat} {y1 : Int32} {y3 : Int32} {L : jL} : ∀ (F : Nat) (x2 : Int32) (I : jI) (r : jI), d2g30_5 y0 y1 y3 F x2 I = some r → (∀ (f2 : Option jV), pn (jPM d) k none (jco 2) n (20, [some (.inr (30, y0)), some (.inl (.inl y1)), f2, some (.inl (.inl y3))], [], r, L)) → pn (jPM d) k none (jco 2) n (5, [some (.inr (30, y0)), some (.inl (.inl y1)), some (.inl (.inl x2)), some (.inl (.inl y3))], [], I, L) := by
  intro F
  induction F with
  | zero => intro x2 I r h hx; cases h
  | succ F ih =>
    intro x2 I r h hx
    rw [d2g30_5] at h
    refine pn_go [5, 20] 400 ?_
    conv => whnf
    refine ⟨fun cz1 => ?_, fun cz1 => ?_⟩
    · replace h := (if_pos cz1).symm.trans h
      conv => whnf
      cases h
      exact hx _
    · replace h := (if_neg cz1).symm.trans h
      conv => whnf
      intro _
      conv => whnf
      exact ih _ _ r h hx
/-- J7_fill_53178 -/
noncomputable def d2g30 (a0 : Nat) (a1 : Int32) (I : jI) : Option (jI) :=
  (d2g30_5 a0 a1 (nI 60) 70 0 I).bind fun r1 =>
  some r1
set_option maxHeartbeats 4000000 in
set_option maxRecDepth 20000 in
theorem D2g30 {d : Nat} {k : jK} {a0 : Nat} {a1 : Int32} {I : jI} {L : jL} {r : jI} (h : d2g30 a0 a1 I = some r) (hk : k none (r, L)) : jPM d 2 [.inr (30, a0), .inl (.inl a1)] (I, L) k := by
  refine pM (fun d n => ?_)
  unfold d2g30 at h
  refine pn_go [5] 400 ?_
  conv => whnf
  obtain ⟨r1, hz1, h⟩ := obind h
  refine L2g30_5 _ _ _ _ hz1 (fun e2_r1 => ?_)
  refine pn_go [5] 400 ?_
  conv => whnf
  cases h
  exact hk
/-- X6_makeAnew -/
noncomputable def d20g2 (a1 : Int32) (a2 : Int32) (a3 : Int32) (I : jI) : Option (jI) :=
  (d2g30 (Int32.toNatClampNeg a1) a3 I).bind fun r1 =>
  some (jup r1 16 0 (Int32.toNatClampNeg a1) a2)
set_option maxHeartbeats 4000000 in
set_option maxRecDepth 20000 in
theorem D20g2 {d : Nat} {k : jK} {a1 : Int32} {a2 : Int32} {a3 : Int32} {I : jI} {L : jL} {r : jI} (h : d20g2 a1 a2 a3 I = some r) (hk : k none (r, L)) : jPM d 20 [.inr (2, 0), .inl (.inl a1), .inl (.inl a2), .inl (.inl a3)] (I, L) k := by
  refine pM (fun d n => ?_)
  unfold d20g2 at h
  refine pn_go [] 400 ?_
  conv => whnf
  intro _
  conv => whnf
  obtain ⟨r1, hz1, h⟩ := obind h
  refine D2g30 hz1 ?_
  conv => whnf
  intro _
  conv => whnf
  cases h
  exact hk
/-- X7_text -/
noncomputable def d74 (a1 : Int32) (a2 : Int32) (I : jI) : Option (Int32 × jI) :=
  if (d15g2 a1 I) = 0 then
    some ((-1), I)
  else
    if a2 ≤ 60 then
      if 0 ≤ a2 then
        (d20g2 a1 a2 32 I).bind fun r1 =>
        some (a2, r1)
      else
        some (((d113 5 I).1), ((d113 5 I).2))
    else
      some ((-1), I)
set_option maxHeartbeats 4000000 in
set_option maxRecDepth 20000 in
theorem D74 {d : Nat} {k : jK} {a1 : Int32} {a2 : Int32} {I : jI} {L : jL} {r : Int32 × jI} (h : d74 a1 a2 I = some r) (hk : k (some (.inl (.inl r.1))) (r.2, L)) : jPM d 74 [.inr (0, 0), .inl (.inl a1), .inl (.inl a2)] (I, L) k := by
  refine pM (fun d n => ?_)
  unfold d74 at h
  refine pn_go [] 400 ?_
  conv => whnf
  refine D15g2 rfl ?_
  conv => whnf
  refine ⟨fun cz1 => ?_, fun cz1 => ?_⟩
  · replace h := (if_pos cz1).symm.trans h
    conv => whnf
    cases h
    exact hk
  · replace h := (if_neg cz1).symm.trans h
    conv => whnf
    refine ⟨fun cz2 => ?_, fun cz2 => ?_⟩
    · replace h := (if_pos cz2).symm.trans h
      conv => whnf
      refine ⟨fun cz3 => ?_, fun cz3 => ?_⟩
      · replace h := (if_pos cz3).symm.trans h
        conv => whnf
        obtain ⟨r1, hz4, h⟩ := obind h
        refine D20g2 hz4 ?_
        conv => whnf
        cases h
        exact hk
      · replace h := (if_neg cz3).symm.trans h
        conv => whnf
        refine D113 rfl ?_
        conv => whnf
        cases h
        exact hk
    · replace h := (if_neg cz2).symm.trans h
      conv => whnf
      cases h
      exact hk
/-- X6_isThere -/
noncomputable def d16g2 (a1 : Int32) (I : jI) : Int32 :=
  if (I 16 0 (Int32.toNatClampNeg a1)) = (-1) then
    0
  else
    1
set_option maxHeartbeats 4000000 in
set_option maxRecDepth 20000 in
theorem D16g2 {d : Nat} {k : jK} {a1 : Int32} {I : jI} {L : jL} {r : Int32} (h : d16g2 a1 I = r) (hk : k (some (.inl (.inl r))) (I, L)) : jPM d 16 [.inr (2, 0), .inl (.inl a1)] (I, L) k := by
  refine pM (fun d n => ?_)
  unfold d16g2 at h
  refine pn_go [] 400 ?_
  conv => whnf
  intro _
  conv => whnf
  refine ⟨fun cz1 => ?_, fun cz1 => ?_⟩
  · replace h := (if_pos cz1).symm.trans h
    conv => whnf
    subst h
    exact fun _ => hk
  · replace h := (if_neg cz1).symm.trans h
    conv => whnf
    subst h
    exact fun _ => hk
/-- X6_troubleAt -/
noncomputable def d22g2 (a1 : Int32) (a2 : Int32) (I : jI) : Int32 :=
  if (d16g2 a1 I) = 0 then
    1
  else
    if a2 < 0 then
      2
    else
      if a2 < (I 16 0 (Int32.toNatClampNeg a1)) then
        0
      else
        2
set_option maxHeartbeats 4000000 in
set_option maxRecDepth 20000 in
theorem D22g2 {d : Nat} {k : jK} {a1 : Int32} {a2 : Int32} {I : jI} {L : jL} {r : Int32} (h : d22g2 a1 a2 I = r) (hk : k (some (.inl (.inl r))) (I, L)) : jPM d 22 [.inr (2, 0), .inl (.inl a1), .inl (.inl a2)] (I, L) k := by
  refine pM (fun d n => ?_)
  unfold d22g2 at h
  refine pn_go [] 400 ?_
  conv => whnf
  refine D16g2 rfl ?_
  conv => whnf
  refine ⟨fun cz1 => ?_, fun cz1 => ?_⟩
  · replace h := (if_neg cz1).symm.trans h
    conv => whnf
    refine ⟨fun cz2 => ?_, fun cz2 => ?_⟩
    · replace h := (if_pos cz2).symm.trans h
      conv => whnf
      subst h
      exact hk
    · replace h := (if_neg cz2).symm.trans h
      conv => whnf
      intro _
      conv => whnf
      refine ⟨fun cz3 => ?_, fun cz3 => ?_⟩
      · replace h := (if_pos cz3).symm.trans h
        conv => whnf
        subst h
        exact hk
      · replace h := (if_neg cz3).symm.trans h
        conv => whnf
        subst h
        exact hk
  · replace h := (if_pos cz1).symm.trans h
    conv => whnf
    subst h
    exact hk
/-- X6_get -/
noncomputable def d18g2 (a1 : Int32) (a2 : Int32) (I : jI) : Int32 :=
  (I 30 (Int32.toNatClampNeg a1) (Int32.toNatClampNeg a2))
set_option maxHeartbeats 4000000 in
set_option maxRecDepth 20000 in
theorem D18g2 {d : Nat} {k : jK} {a1 : Int32} {a2 : Int32} {I : jI} {L : jL} {r : Int32} (h : d18g2 a1 a2 I = r) (hk : k (some (.inl (.inl r))) (I, L)) : jPM d 18 [.inr (2, 0), .inl (.inl a1), .inl (.inl a2)] (I, L) k := by
  refine pM (fun d n => ?_)
  unfold d18g2 at h
  refine pn_go [] 400 ?_
  conv => whnf
  intro _
  conv => whnf
  intro _
  conv => whnf
  subst h
  exact hk
/-- X6_set -/
noncomputable def d19g2 (a1 : Int32) (a2 : Int32) (a3 : Int32) (I : jI) : jI :=
  (jup I 30 (Int32.toNatClampNeg a1) (Int32.toNatClampNeg a2) a3)
set_option maxHeartbeats 4000000 in
set_option maxRecDepth 20000 in
theorem D19g2 {d : Nat} {k : jK} {a1 : Int32} {a2 : Int32} {a3 : Int32} {I : jI} {L : jL} {r : jI} (h : d19g2 a1 a2 a3 I = r) (hk : k none (r, L)) : jPM d 19 [.inr (2, 0), .inl (.inl a1), .inl (.inl a2), .inl (.inl a3)] (I, L) k := by
  refine pM (fun d n => ?_)
  unfold d19g2 at h
  refine pn_go [] 400 ?_
  conv => whnf
  intro _
  conv => whnf
  intro _
  conv => whnf
  subst h
  exact hk
/-- X7_put -/
noncomputable def d75 (a1 : Int32) (a2 : Int32) (a3 : Int32) (I : jI) : Option (Int32 × jI) :=
  if (d15g2 a1 I) = 0 then
    some ((-1), I)
  else
    if (d22g2 a1 a2 I) = 0 then
      some (((d18g2 a1 a2 I) + 1000), (d19g2 a1 a2 ((Int32.toInt8 a3).toInt32) I))
    else
      some (((d113 (d22g2 a1 a2 I) I).1), ((d113 (d22g2 a1 a2 I) I).2))
set_option maxHeartbeats 4000000 in
set_option maxRecDepth 20000 in
theorem D75 {d : Nat} {k : jK} {a1 : Int32} {a2 : Int32} {a3 : Int32} {I : jI} {L : jL} {r : Int32 × jI} (h : d75 a1 a2 a3 I = some r) (hk : k (some (.inl (.inl r.1))) (r.2, L)) : jPM d 75 [.inr (0, 0), .inl (.inl a1), .inl (.inl a2), .inl (.inl a3)] (I, L) k := by
  refine pM (fun d n => ?_)
  unfold d75 at h
  refine pn_go [] 400 ?_
  conv => whnf
  refine D15g2 rfl ?_
  conv => whnf
  refine ⟨fun cz1 => ?_, fun cz1 => ?_⟩
  · replace h := (if_neg cz1).symm.trans h
    conv => whnf
    refine D22g2 rfl ?_
    conv => whnf
    refine ⟨fun cz2 => ?_, fun cz2 => ?_⟩
    · replace h := (if_pos cz2).symm.trans h
      conv => whnf
      refine D18g2 rfl ?_
      conv => whnf
      refine D19g2 rfl ?_
      conv => whnf
      cases h
      exact hk
    · replace h := (if_neg cz2).symm.trans h
      conv => whnf
      refine D113 rfl ?_
      conv => whnf
      cases h
      exact hk
  · replace h := (if_pos cz1).symm.trans h
    conv => whnf
    cases h
    exact hk
/-- X6_sizeOf -/
noncomputable def d17g2 (a1 : Int32) (I : jI) : Int32 :=
  (I 16 0 (Int32.toNatClampNeg a1))
set_option maxHeartbeats 4000000 in
set_option maxRecDepth 20000 in
theorem D17g2 {d : Nat} {k : jK} {a1 : Int32} {I : jI} {L : jL} {r : Int32} (h : d17g2 a1 I = r) (hk : k (some (.inl (.inl r))) (I, L)) : jPM d 17 [.inr (2, 0), .inl (.inl a1)] (I, L) k := by
  refine pM (fun d n => ?_)
  unfold d17g2 at h
  refine pn_go [] 400 ?_
  conv => whnf
  intro _
  conv => whnf
  subst h
  exact hk
/-- X5_begin, loop at 19 -/
noncomputable def d59_19 (y2 : Int32) : Nat → Int32 → jI → Option (jI)
  | 0, _, _ => none
  | F + 1, x3, I =>
    if (I 3 0 2) ≤ x3 then
      some I
    else
      d59_19 y2 F (x3 + 1) (jup I 17 0 (Int32.toNatClampNeg x3) (d18g2 y2 x3 I))
set_option maxHeartbeats 4000000 in
set_option maxRecDepth 20000 in
theorem L59_19 {d n : Nat} {k : jK} {y2 : Int32} {L : jL} : ∀ (F : Nat) (x3 : Int32) (I : jI) (r : jI), d59_19 y2 F x3 I = some r → (∀ (f3 : Option jV), pn (jPM d) k none (jco 59) n (45, [some (.inr (3, 0)), some (.inr (2, 0)), some (.inl (.inl y2)), f3], [], r, L)) → pn (jPM d) k none (jco 59) n (19, [some (.inr (3, 0)), some (.inr (2, 0)), some (.inl (.inl y2)), some (.inl (.inl x3))], [], I, L) := by
  intro F
  induction F with
  | zero => intro x3 I r h hx; cases h
  | succ F ih =>
    intro x3 I r h hx
    rw [d59_19] at h
    refine pn_go [19, 45] 400 ?_
    conv => whnf
    refine ⟨fun cz1 => ?_, fun cz1 => ?_⟩
    · replace h := (if_pos cz1).symm.trans h
      conv => whnf
      cases h
      exact hx _
    · replace h := (if_neg cz1).symm.trans h
      conv => whnf
      refine D18g2 rfl ?_
      conv => whnf
      intro _
      conv => whnf
      exact ih _ _ r h hx
/-- X5_skipBlanks, loop at 0 -/
noncomputable def d61_0 : Nat → jI → Option (jI)
  | 0, _ => none
  | F + 1, I =>
    if (I 3 0 2) ≤ (I 3 0 3) then
      some I
    else
      if (I 17 0 (Int32.toNatClampNeg (I 3 0 3))) = 32 then
        d61_0 F (jup I 3 0 3 ((I 3 0 3) + 1))
      else
        some I
set_option maxHeartbeats 4000000 in
set_option maxRecDepth 20000 in
theorem L61_0 {d n : Nat} {k : jK} {L : jL} : ∀ (F : Nat) (I : jI) (r : jI), d61_0 F I = some r → (pn (jPM d) k none (jco 61) n (38, [some (.inr (3, 0))], [], r, L)) → pn (jPM d) k none (jco 61) n (0, [some (.inr (3, 0))], [], I, L) := by
  intro F
  induction F with
  | zero => intro I r h hx; cases h
  | succ F ih =>
    intro I r h hx
    rw [d61_0] at h
    refine pn_go [0, 38] 400 ?_
    conv => whnf
    refine ⟨fun cz1 => ?_, fun cz1 => ?_⟩
    · replace h := (if_pos cz1).symm.trans h
      conv => whnf
      cases h
      exact hx
    · replace h := (if_neg cz1).symm.trans h
      conv => whnf
      intro _
      conv => whnf
      refine ⟨fun cz2 => ?_, fun cz2 => ?_⟩
      · replace h := (if_neg cz2).symm.trans h
        conv => whnf
        cases h
        exact hx
      · replace h := (if_pos cz2).symm.trans h
        conv => whnf
        exact ih _ r h hx
/-- X5_skipBlanks -/
noncomputable def d61 (I : jI) : Option (jI) :=
  (d61_0 70 I).bind fun r1 =>
  some r1
set_option maxHeartbeats 4000000 in
set_option maxRecDepth 20000 in
theorem D61 {d : Nat} {k : jK} {I : jI} {L : jL} {r : jI} (h : d61 I = some r) (hk : k none (r, L)) : jPM d 61 [.inr (3, 0)] (I, L) k := by
  refine pM (fun d n => ?_)
  unfold d61 at h
  obtain ⟨r1, hz1, h⟩ := obind h
  refine L61_0 _ _ _ hz1 ?_
  refine pn_go [0] 400 ?_
  conv => whnf
  cases h
  exact hk
/-- X5_begin -/
noncomputable def d59 (a2 : Int32) (I : jI) : Option (jI) :=
  (d59_19 a2 70 0 (jup (jup I 4 5 6 0) 3 0 2 (d17g2 a2 (jup I 4 5 6 0)))).bind fun r1 =>
  (d61 (jup (jup r1 3 0 3 0) 3 0 4 (-9))).bind fun r2 =>
  some r2
set_option maxHeartbeats 4000000 in
set_option maxRecDepth 20000 in
theorem D59 {d : Nat} {k : jK} {a2 : Int32} {I : jI} {L : jL} {r : jI} (h : d59 a2 I = some r) (hk : k none (r, L)) : jPM d 59 [.inr (3, 0), .inr (2, 0), .inl (.inl a2)] (I, L) k := by
  refine pM (fun d n => ?_)
  unfold d59 at h
  refine pn_go [19] 400 ?_
  conv => whnf
  refine D17g2 rfl ?_
  conv => whnf
  obtain ⟨r1, hz1, h⟩ := obind h
  refine L59_19 _ _ _ _ hz1 (fun e3_r1 => ?_)
  refine pn_go [19] 400 ?_
  conv => whnf
  obtain ⟨r2, hz2, h⟩ := obind h
  refine D61 hz2 ?_
  conv => whnf
  cases h
  exact hk
/-- X5_goesOn -/
noncomputable def d60 (I : jI) : Int32 :=
  if (I 3 0 4) = (-9) then
    if (I 3 0 2) ≤ (I 3 0 3) then
      0
    else
      1
  else
    0
set_option maxHeartbeats 4000000 in
set_option maxRecDepth 20000 in
theorem D60 {d : Nat} {k : jK} {I : jI} {L : jL} {r : Int32} (h : d60 I = r) (hk : k (some (.inl (.inl r))) (I, L)) : jPM d 60 [.inr (3, 0)] (I, L) k := by
  refine pM (fun d n => ?_)
  unfold d60 at h
  refine pn_go [] 400 ?_
  conv => whnf
  refine ⟨fun cz1 => ?_, fun cz1 => ?_⟩
  · replace h := (if_neg cz1).symm.trans h
    conv => whnf
    subst h
    exact fun _ => hk
  · replace h := (if_pos cz1).symm.trans h
    conv => whnf
    refine ⟨fun cz2 => ?_, fun cz2 => ?_⟩
    · replace h := (if_pos cz2).symm.trans h
      conv => whnf
      subst h
      exact fun _ => hk
    · replace h := (if_neg cz2).symm.trans h
      conv => whnf
      subst h
      exact fun _ => hk
/-- X5_faultHere -/
noncomputable def d67 (I : jI) : Option (jI) :=
  if (I 3 0 4) = (-9) then
    some (jup I 3 0 4 (I 3 0 3))
  else
    some I
set_option maxHeartbeats 4000000 in
set_option maxRecDepth 20000 in
theorem D67 {d : Nat} {k : jK} {I : jI} {L : jL} {r : jI} (h : d67 I = some r) (hk : k none (r, L)) : jPM d 67 [.inr (3, 0)] (I, L) k := by
  refine pM (fun d n => ?_)
  unfold d67 at h
  refine pn_go [] 400 ?_
  conv => whnf
  refine ⟨fun cz1 => ?_, fun cz1 => ?_⟩
  · replace h := (if_neg cz1).symm.trans h
    conv => whnf
    cases h
    exact hk
  · replace h := (if_pos cz1).symm.trans h
    conv => whnf
    cases h
    exact hk
/-- X5_readFigure -/
noncomputable def d66 (a1 : Int32) (I : jI) : Option (Int32 × jI) :=
  if (d60 I) = 0 then
    (d67 I).bind fun r1 =>
    some (0, r1)
  else
    if ((I 17 0 (Int32.toNatClampNeg (I 3 0 3))) - 48) < a1 then
      (d67 I).bind fun r2 =>
      some (0, r2)
    else
      if 9 < ((I 17 0 (Int32.toNatClampNeg (I 3 0 3))) - 48) then
        (d67 I).bind fun r3 =>
        some (0, r3)
      else
        some (((I 17 0 (Int32.toNatClampNeg (I 3 0 3))) - 48), (jup I 3 0 3 ((I 3 0 3) + 1)))
set_option maxHeartbeats 4000000 in
set_option maxRecDepth 20000 in
theorem D66 {d : Nat} {k : jK} {a1 : Int32} {I : jI} {L : jL} {r : Int32 × jI} (h : d66 a1 I = some r) (hk : k (some (.inl (.inl r.1))) (r.2, L)) : jPM d 66 [.inr (3, 0), .inl (.inl a1)] (I, L) k := by
  refine pM (fun d n => ?_)
  unfold d66 at h
  refine pn_go [] 400 ?_
  conv => whnf
  refine D60 rfl ?_
  conv => whnf
  refine ⟨fun cz1 => ?_, fun cz1 => ?_⟩
  · replace h := (if_pos cz1).symm.trans h
    conv => whnf
    obtain ⟨r1, hz2, h⟩ := obind h
    refine D67 hz2 ?_
    conv => whnf
    cases h
    exact hk
  · replace h := (if_neg cz1).symm.trans h
    conv => whnf
    intro _
    conv => whnf
    refine ⟨fun cz3 => ?_, fun cz3 => ?_⟩
    · replace h := (if_pos cz3).symm.trans h
      conv => whnf
      obtain ⟨r2, hz4, h⟩ := obind h
      refine D67 hz4 ?_
      conv => whnf
      cases h
      exact hk
    · replace h := (if_neg cz3).symm.trans h
      conv => whnf
      refine ⟨fun cz5 => ?_, fun cz5 => ?_⟩
      · replace h := (if_pos cz5).symm.trans h
        conv => whnf
        obtain ⟨r3, hz6, h⟩ := obind h
        refine D67 hz6 ?_
        conv => whnf
        cases h
        exact hk
      · replace h := (if_neg cz5).symm.trans h
        conv => whnf
        cases h
        exact hk
/-- X5_readTwoFigures -/
noncomputable def d65 (I : jI) : Option (Int32 × jI) :=
  (d66 0 I).bind fun r1 =>
  (d66 0 r1.2).bind fun r2 =>
  some (((10 * r1.1) + r2.1), r2.2)
set_option maxHeartbeats 4000000 in
set_option maxRecDepth 20000 in
theorem D65 {d : Nat} {k : jK} {I : jI} {L : jL} {r : Int32 × jI} (h : d65 I = some r) (hk : k (some (.inl (.inl r.1))) (r.2, L)) : jPM d 65 [.inr (3, 0)] (I, L) k := by
  refine pM (fun d n => ?_)
  unfold d65 at h
  refine pn_go [] 400 ?_
  conv => whnf
  obtain ⟨r1, hz1, h⟩ := obind h
  refine D66 hz1 ?_
  conv => whnf
  obtain ⟨r2, hz2, h⟩ := obind h
  refine D66 hz2 ?_
  conv => whnf
  cases h
  exact hk
/-- X5_readNeeds -/
noncomputable def d62 (I : jI) : Option (jI) :=
  if (d60 I) = 0 then
    some (jup I 3 0 4 (I 3 0 3))
  else
    if (I 17 0 (Int32.toNatClampNeg (I 3 0 3))) = 110 then
      (d66 1 (jup I 3 0 3 ((I 3 0 3) + 1))).bind fun r1 =>
      (d65 (jup r1.2 4 5 7 r1.1)).bind fun r2 =>
      (d61 (jup r2.2 4 5 8 r2.1)).bind fun r3 =>
      some r3
    else
      some (jup I 3 0 4 (I 3 0 3))
set_option maxHeartbeats 4000000 in
set_option maxRecDepth 20000 in
theorem D62 {d : Nat} {k : jK} {I : jI} {L : jL} {r : jI} (h : d62 I = some r) (hk : k none (r, L)) : jPM d 62 [.inr (3, 0)] (I, L) k := by
  refine pM (fun d n => ?_)
  unfold d62 at h
  refine pn_go [] 400 ?_
  conv => whnf
  refine D60 rfl ?_
  conv => whnf
  refine ⟨fun cz1 => ?_, fun cz1 => ?_⟩
  · replace h := (if_pos cz1).symm.trans h
    conv => whnf
    cases h
    exact hk
  · replace h := (if_neg cz1).symm.trans h
    conv => whnf
    intro _
    conv => whnf
    refine ⟨fun cz2 => ?_, fun cz2 => ?_⟩
    · replace h := (if_pos cz2).symm.trans h
      conv => whnf
      obtain ⟨r1, hz3, h⟩ := obind h
      refine D66 hz3 ?_
      conv => whnf
      obtain ⟨r2, hz4, h⟩ := obind h
      refine D65 hz4 ?_
      conv => whnf
      obtain ⟨r3, hz5, h⟩ := obind h
      refine D61 hz5 ?_
      conv => whnf
      cases h
      exact hk
    · replace h := (if_neg cz2).symm.trans h
      conv => whnf
      cases h
      exact hk
/-- X5_readKind, loop at 9 -/
noncomputable def d64_9 : Nat → Int32 → jI → Option ((Int32 × jI) ⊕ (jI))
  | 0, _, _ => none
  | F + 1, x1, I =>
    if 6 ≤ x1 then
      some (.inr I)
    else
      if (I 17 0 (Int32.toNatClampNeg (I 3 0 3))) = (jletters (Int32.toNatClampNeg x1)) then
        some (.inl (x1, (jup I 3 0 3 ((I 3 0 3) + 1))))
      else
        d64_9 F (x1 + 1) I
set_option maxHeartbeats 4000000 in
set_option maxRecDepth 20000 in
theorem L64_9 {d n : Nat} {k : jK} {L : jL} : ∀ (F : Nat) (x1 : Int32) (I : jI) (r : (Int32 × jI) ⊕ (jI)), d64_9 F x1 I = some r → ((∀ q, r = .inl q → k (some (.inl (.inl q.1))) (q.2, L)) ∧ (∀ q, r = .inr q → ∀ (f1 : Option jV), pn (jPM d) k none (jco 64) n (50, [some (.inr (3, 0)), f1], [], q, L))) → pn (jPM d) k none (jco 64) n (9, [some (.inr (3, 0)), some (.inl (.inl x1))], [], I, L) := by
  intro F
  induction F with
  | zero => intro x1 I r h hx; cases h
  | succ F ih =>
    intro x1 I r h hx
    rw [d64_9] at h
    refine pn_go [9, 50] 400 ?_
    conv => whnf
    refine ⟨fun cz1 => ?_, fun cz1 => ?_⟩
    · replace h := (if_pos cz1).symm.trans h
      conv => whnf
      cases h
      exact hx.2 _ rfl _
    · replace h := (if_neg cz1).symm.trans h
      conv => whnf
      intro _
      conv => whnf
      intro _
      conv => whnf
      refine ⟨fun cz2 => ?_, fun cz2 => ?_⟩
      · replace h := (if_neg cz2).symm.trans h
        conv => whnf
        exact ih _ _ r h hx
      · replace h := (if_pos cz2).symm.trans h
        conv => whnf
        cases h
        exact hx.1 _ rfl
/-- X5_readKind -/
noncomputable def d64 (I : jI) : Option (Int32 × jI) :=
  if (d60 I) = 0 then
    (d67 I).bind fun r1 =>
    some (0, r1)
  else
    (d64_9 70 0 I).bind fun r2 => match r2 with
    | .inl q3 => some q3
    | .inr q3 =>
      (d67 q3).bind fun r4 =>
      some (0, r4)
set_option maxHeartbeats 4000000 in
set_option maxRecDepth 20000 in
theorem D64 {d : Nat} {k : jK} {I : jI} {L : jL} {r : Int32 × jI} (h : d64 I = some r) (hk : k (some (.inl (.inl r.1))) (r.2, L)) : jPM d 64 [.inr (3, 0)] (I, L) k := by
  refine pM (fun d n => ?_)
  unfold d64 at h
  refine pn_go [9] 400 ?_
  conv => whnf
  refine D60 rfl ?_
  conv => whnf
  refine ⟨fun cz1 => ?_, fun cz1 => ?_⟩
  · replace h := (if_pos cz1).symm.trans h
    conv => whnf
    obtain ⟨r1, hz2, h⟩ := obind h
    refine D67 hz2 ?_
    conv => whnf
    cases h
    exact hk
  · replace h := (if_neg cz1).symm.trans h
    conv => whnf
    obtain ⟨r2, hz3, h⟩ := obind h
    rcases r2 with q3 | q3
    · dsimp only at h
      refine L64_9 _ _ _ _ hz3 ⟨fun q e => ?_, fun q e => by cases e⟩
      cases e
      cases h
      exact hk
    · dsimp only at h
      refine L64_9 _ _ _ _ hz3 ⟨fun q e => (by cases e), fun q e e1_r2 => ?_⟩
      cases e
      refine pn_go [9] 400 ?_
      conv => whnf
      obtain ⟨r4, hz4, h⟩ := obind h
      refine D67 hz4 ?_
      conv => whnf
      cases h
      exact hk
/-- X1_addPacket -/
noncomputable def d48 (a0 : Nat) (a1 : Int32) (a2 : Int32) (a3 : Int32) (a4 : Int32) (I : jI) : Option (jI) :=
  if 6 ≤ (I 4 a0 6) then
    some I
  else
    some (jup (jup (jup (jup (jup I 18 a0 (Int32.toNatClampNeg (I 4 a0 6)) a1) 19 a0 (Int32.toNatClampNeg ((jup I 18 a0 (Int32.toNatClampNeg (I 4 a0 6)) a1) 4 a0 6)) a2) 20 a0 (Int32.toNatClampNeg ((jup (jup I 18 a0 (Int32.toNatClampNeg (I 4 a0 6)) a1) 19 a0 (Int32.toNatClampNeg ((jup I 18 a0 (Int32.toNatClampNeg (I 4 a0 6)) a1) 4 a0 6)) a2) 4 a0 6)) a3) 21 a0 (Int32.toNatClampNeg ((jup (jup (jup I 18 a0 (Int32.toNatClampNeg (I 4 a0 6)) a1) 19 a0 (Int32.toNatClampNeg ((jup I 18 a0 (Int32.toNatClampNeg (I 4 a0 6)) a1) 4 a0 6)) a2) 20 a0 (Int32.toNatClampNeg ((jup (jup I 18 a0 (Int32.toNatClampNeg (I 4 a0 6)) a1) 19 a0 (Int32.toNatClampNeg ((jup I 18 a0 (Int32.toNatClampNeg (I 4 a0 6)) a1) 4 a0 6)) a2) 4 a0 6)) a3) 4 a0 6)) a4) 4 a0 6 (((jup (jup (jup (jup I 18 a0 (Int32.toNatClampNeg (I 4 a0 6)) a1) 19 a0 (Int32.toNatClampNeg ((jup I 18 a0 (Int32.toNatClampNeg (I 4 a0 6)) a1) 4 a0 6)) a2) 20 a0 (Int32.toNatClampNeg ((jup (jup I 18 a0 (Int32.toNatClampNeg (I 4 a0 6)) a1) 19 a0 (Int32.toNatClampNeg ((jup I 18 a0 (Int32.toNatClampNeg (I 4 a0 6)) a1) 4 a0 6)) a2) 4 a0 6)) a3) 21 a0 (Int32.toNatClampNeg ((jup (jup (jup I 18 a0 (Int32.toNatClampNeg (I 4 a0 6)) a1) 19 a0 (Int32.toNatClampNeg ((jup I 18 a0 (Int32.toNatClampNeg (I 4 a0 6)) a1) 4 a0 6)) a2) 20 a0 (Int32.toNatClampNeg ((jup (jup I 18 a0 (Int32.toNatClampNeg (I 4 a0 6)) a1) 19 a0 (Int32.toNatClampNeg ((jup I 18 a0 (Int32.toNatClampNeg (I 4 a0 6)) a1) 4 a0 6)) a2) 4 a0 6)) a3) 4 a0 6)) a4) 4 a0 6) + 1))
set_option maxHeartbeats 4000000 in
set_option maxRecDepth 20000 in
theorem D48 {d : Nat} {k : jK} {a0 : Nat} {a1 : Int32} {a2 : Int32} {a3 : Int32} {a4 : Int32} {I : jI} {L : jL} {r : jI} (h : d48 a0 a1 a2 a3 a4 I = some r) (hk : k none (r, L)) : jPM d 48 [.inr (4, a0), .inl (.inl a1), .inl (.inl a2), .inl (.inl a3), .inl (.inl a4)] (I, L) k := by
  refine pM (fun d n => ?_)
  unfold d48 at h
  refine pn_go [] 400 ?_
  conv => whnf
  refine ⟨fun cz1 => ?_, fun cz1 => ?_⟩
  · replace h := (if_pos cz1).symm.trans h
    conv => whnf
    cases h
    exact hk
  · replace h := (if_neg cz1).symm.trans h
    conv => whnf
    intro _
    conv => whnf
    intro _
    conv => whnf
    intro _
    conv => whnf
    intro _
    conv => whnf
    cases h
    exact hk
/-- X5_readPacket -/
noncomputable def d63 (I : jI) : Option (jI) :=
  (d64 I).bind fun r1 =>
  (d66 1 r1.2).bind fun r2 =>
  (d65 r2.2).bind fun r3 =>
  (d66 1 r3.2).bind fun r4 =>
  if (r4.2 3 0 4) = (-9) then
    (d48 5 r1.1 r2.1 r3.1 r4.1 r4.2).bind fun r5 =>
    (d61 r5).bind fun r6 =>
    some r6
  else
    some r4.2
set_option maxHeartbeats 4000000 in
set_option maxRecDepth 20000 in
theorem D63 {d : Nat} {k : jK} {I : jI} {L : jL} {r : jI} (h : d63 I = some r) (hk : k none (r, L)) : jPM d 63 [.inr (3, 0)] (I, L) k := by
  refine pM (fun d n => ?_)
  unfold d63 at h
  refine pn_go [] 400 ?_
  conv => whnf
  obtain ⟨r1, hz1, h⟩ := obind h
  refine D64 hz1 ?_
  conv => whnf
  obtain ⟨r2, hz2, h⟩ := obind h
  refine D66 hz2 ?_
  conv => whnf
  obtain ⟨r3, hz3, h⟩ := obind h
  refine D65 hz3 ?_
  conv => whnf
  obtain ⟨r4, hz4, h⟩ := obind h
  refine D66 hz4 ?_
  conv => whnf
  refine ⟨fun cz5 => ?_, fun cz5 => ?_⟩
  · replace h := (if_neg cz5).symm.trans h
    conv => whnf
    cases h
    exact hk
  · replace h := (if_pos cz5).symm.trans h
    conv => whnf
    obtain ⟨r5, hz6, h⟩ := obind h
    refine D48 hz6 ?_
    conv => whnf
    obtain ⟨r6, hz7, h⟩ := obind h
    refine D61 hz7 ?_
    conv => whnf
    cases h
    exact hk
/-- X5_read, loop at 16 -/
noncomputable def d58_16 : Nat → Int32 → jI → Option (jI)
  | 0, _, _ => none
  | F + 1, x3, I =>
    if 6 ≤ x3 then
      some I
    else
      if (d60 I) = 0 then
        some I
      else
        (d63 I).bind fun r4 =>
        d58_16 F (x3 + 1) r4
set_option maxHeartbeats 4000000 in
set_option maxRecDepth 20000 in
theorem L58_16 {d n : Nat} {k : jK} {L : jL} : ∀ (F : Nat) (x3 : Int32) (I : jI) (e1 e2 : Option jV) (r : jI), d58_16 F x3 I = some r → (∀ (f1 f2 f3 : Option jV), pn (jPM d) k none (jco 58) n (39, [some (.inr (3, 0)), f1, f2, f3], [], r, L)) → pn (jPM d) k none (jco 58) n (16, [some (.inr (3, 0)), e1, e2, some (.inl (.inl x3))], [], I, L) := by
  intro F
  induction F with
  | zero => intro x3 I e1 e2 r h hx; cases h
  | succ F ih =>
    intro x3 I e1 e2 r h hx
    rw [d58_16] at h
    refine pn_go [16, 39] 400 ?_
    conv => whnf
    refine ⟨fun cz1 => ?_, fun cz1 => ?_⟩
    · replace h := (if_pos cz1).symm.trans h
      conv => whnf
      cases h
      exact hx _ _ _
    · replace h := (if_neg cz1).symm.trans h
      conv => whnf
      refine D60 rfl ?_
      conv => whnf
      refine ⟨fun cz2 => ?_, fun cz2 => ?_⟩
      · replace h := (if_pos cz2).symm.trans h
        conv => whnf
        cases h
        exact hx _ _ _
      · replace h := (if_neg cz2).symm.trans h
        conv => whnf
        obtain ⟨r4, hz3, h⟩ := obind h
        refine D63 hz3 ?_
        conv => whnf
        exact ih _ _ _ _ r h hx
/-- X5_read -/
noncomputable def d58 (a2 : Int32) (I : jI) : Option (Int32 × jI) :=
  (d59 a2 I).bind fun r1 =>
  (d62 r1).bind fun r2 =>
  (d63 r2).bind fun r3 =>
  (d58_16 70 1 r3).bind fun r5 =>
  if (d60 r5) = 0 then
    some ((r5 3 0 4), r5)
  else
    some (((jup r5 3 0 4 (r5 3 0 3)) 3 0 4), (jup r5 3 0 4 (r5 3 0 3)))
set_option maxHeartbeats 4000000 in
set_option maxRecDepth 20000 in
theorem D58 {d : Nat} {k : jK} {a2 : Int32} {I : jI} {L : jL} {r : Int32 × jI} (h : d58 a2 I = some r) (hk : k (some (.inl (.inl r.1))) (r.2, L)) : jPM d 58 [.inr (3, 0), .inr (2, 0), .inl (.inl a2)] (I, L) k := by
  refine pM (fun d n => ?_)
  unfold d58 at h
  refine pn_go [16] 400 ?_
  conv => whnf
  obtain ⟨r1, hz1, h⟩ := obind h
  refine D59 hz1 ?_
  conv => whnf
  obtain ⟨r2, hz2, h⟩ := obind h
  refine D62 hz2 ?_
  conv => whnf
  obtain ⟨r3, hz3, h⟩ := obind h
  refine D63 hz3 ?_
  conv => whnf
  obtain ⟨r5, hz4, h⟩ := obind h
  refine L58_16 _ _ _ _ _ _ hz4 (fun e1_r5 e2_r5 e3_r5 => ?_)
  refine pn_go [16] 400 ?_
  conv => whnf
  refine D60 rfl ?_
  conv => whnf
  refine ⟨fun cz5 => ?_, fun cz5 => ?_⟩
  · replace h := (if_pos cz5).symm.trans h
    conv => whnf
    cases h
    exact hk
  · replace h := (if_neg cz5).symm.trans h
    conv => whnf
    cases h
    exact hk
/-- X7_fault -/
noncomputable def d76 (a1 : Int32) (I : jI) : Option (Int32 × jI) :=
  if (d15g2 a1 I) = 0 then
    some ((-1), I)
  else
    if (d16g2 a1 I) = 0 then
      some (((d113 1 I).1), ((d113 1 I).2))
    else
      (d58 a1 I).bind fun r1 =>
      some (r1.1, r1.2)
set_option maxHeartbeats 4000000 in
set_option maxRecDepth 20000 in
theorem D76 {d : Nat} {k : jK} {a1 : Int32} {I : jI} {L : jL} {r : Int32 × jI} (h : d76 a1 I = some r) (hk : k (some (.inl (.inl r.1))) (r.2, L)) : jPM d 76 [.inr (0, 0), .inl (.inl a1)] (I, L) k := by
  refine pM (fun d n => ?_)
  unfold d76 at h
  refine pn_go [] 400 ?_
  conv => whnf
  refine D15g2 rfl ?_
  conv => whnf
  refine ⟨fun cz1 => ?_, fun cz1 => ?_⟩
  · replace h := (if_neg cz1).symm.trans h
    conv => whnf
    refine D16g2 rfl ?_
    conv => whnf
    refine ⟨fun cz2 => ?_, fun cz2 => ?_⟩
    · replace h := (if_neg cz2).symm.trans h
      conv => whnf
      obtain ⟨r1, hz3, h⟩ := obind h
      refine D58 hz3 ?_
      conv => whnf
      cases h
      exact hk
    · replace h := (if_pos cz2).symm.trans h
      conv => whnf
      refine D113 rfl ?_
      conv => whnf
      cases h
      exact hk
  · replace h := (if_pos cz1).symm.trans h
    conv => whnf
    cases h
    exact hk
end
section
/-- X1_takeAll -/
noncomputable def d28 (a0 : Nat) (a1 : Nat) (I : jI) : Option (jI) :=
  some (jcpy (d29 a0 a1 I) 22 a1 22 a0 (Int32.toNatClampNeg 0) (Int32.toNatClampNeg 0) (Int32.toNatClampNeg 40))
set_option maxHeartbeats 4000000 in
set_option maxRecDepth 20000 in
theorem D28 {d : Nat} {k : jK} {a0 : Nat} {a1 : Nat} {I : jI} {L : jL} {r : jI} (h : d28 a0 a1 I = some r) (hk : k none (r, L)) : jPM d 28 [.inr (4, a0), .inr (4, a1)] (I, L) k := by
  refine pM (fun d n => ?_)
  unfold d28 at h
  refine pn_go [] 400 ?_
  conv => whnf
  refine D29 rfl ?_
  conv => whnf
  intro _
  conv => whnf
  cases h
  exact hk
/-- X7_house, loop at 77 -/
noncomputable def d77_77 : Nat → Int32 → jI → Option (jI)
  | 0, _, _ => none
  | F + 1, x2, I =>
    if 3 ≤ x2 then
      some I
    else
      d77_77 F (x2 + 1) (jup I 6 0 (Int32.toNatClampNeg x2) (vp_nar .boolean 0))
set_option maxHeartbeats 4000000 in
set_option maxRecDepth 20000 in
theorem L77_77 {d n : Nat} {k : jK} {L : jL} : ∀ (F : Nat) (x2 : Int32) (I : jI) (e1 : Option jV) (r : jI), d77_77 F x2 I = some r → (∀ (f1 f2 : Option jV), pn (jPM d) k none (jco 77) n (95, [some (.inr (0, 0)), f1, f2], [], r, L)) → pn (jPM d) k none (jco 77) n (77, [some (.inr (0, 0)), e1, some (.inl (.inl x2))], [], I, L) := by
  intro F
  induction F with
  | zero => intro x2 I e1 r h hx; cases h
  | succ F ih =>
    intro x2 I e1 r h hx
    rw [d77_77] at h
    refine pn_go [77, 95] 400 ?_
    conv => whnf
    refine ⟨fun cz1 => ?_, fun cz1 => ?_⟩
    · replace h := (if_pos cz1).symm.trans h
      conv => whnf
      cases h
      exact hx _ _
    · replace h := (if_neg cz1).symm.trans h
      conv => whnf
      intro _
      conv => whnf
      exact ih _ _ _ r h hx
/-- X7_house -/
noncomputable def d77 (a1 : Int32) (I : jI) : Option (Int32 × jI) :=
  if (d15g2 a1 I) = 0 then
    some ((-1), I)
  else
    if (d16g2 a1 I) = 0 then
      some (((d113 1 I).1), ((d113 1 I).2))
    else
      (d58 a1 I).bind fun r1 =>
      if r1.1 = (-9) then
        (d28 0 5 r1.2).bind fun r2 =>
        (d28 1 0 r2).bind fun r3 =>
        (d77_77 70 0 r3).bind fun r4 =>
        some ((r4 4 1 6), r4)
      else
        some ((-4), r1.2)
set_option maxHeartbeats 4000000 in
set_option maxRecDepth 20000 in
theorem D77 {d : Nat} {k : jK} {a1 : Int32} {I : jI} {L : jL} {r : Int32 × jI} (h : d77 a1 I = some r) (hk : k (some (.inl (.inl r.1))) (r.2, L)) : jPM d 77 [.inr (0, 0), .inl (.inl a1)] (I, L) k := by
  refine pM (fun d n => ?_)
  unfold d77 at h
  refine pn_go [77] 400 ?_
  conv => whnf
  refine D15g2 rfl ?_
  conv => whnf
  refine ⟨fun cz1 => ?_, fun cz1 => ?_⟩
  · replace h := (if_neg cz1).symm.trans h
    conv => whnf
    refine D16g2 rfl ?_
    conv => whnf
    refine ⟨fun cz2 => ?_, fun cz2 => ?_⟩
    · replace h := (if_neg cz2).symm.trans h
      conv => whnf
      obtain ⟨r1, hz3, h⟩ := obind h
      refine D58 hz3 ?_
      conv => whnf
      refine ⟨fun cz4 => ?_, fun cz4 => ?_⟩
      · replace h := (if_pos cz4).symm.trans h
        conv => whnf
        obtain ⟨r2, hz5, h⟩ := obind h
        refine D28 hz5 ?_
        conv => whnf
        obtain ⟨r3, hz6, h⟩ := obind h
        refine D28 hz6 ?_
        conv => whnf
        obtain ⟨r4, hz7, h⟩ := obind h
        refine L77_77 _ _ _ _ _ hz7 (fun e1_r4 e2_r4 => ?_)
        refine pn_go [77] 400 ?_
        conv => whnf
        cases h
        exact hk
      · replace h := (if_neg cz4).symm.trans h
        conv => whnf
        cases h
        exact hk
    · replace h := (if_pos cz2).symm.trans h
      conv => whnf
      refine D113 rfl ?_
      conv => whnf
      cases h
      exact hk
  · replace h := (if_pos cz1).symm.trans h
    conv => whnf
    cases h
    exact hk
/-- X1_has -/
noncomputable def d31 (a0 : Nat) (a1 : Int32) (I : jI) : Int32 :=
  if a1 < 0 then
    0
  else
    if (I 4 a0 6) ≤ a1 then
      0
    else
      1
set_option maxHeartbeats 4000000 in
set_option maxRecDepth 20000 in
theorem D31 {d : Nat} {k : jK} {a0 : Nat} {a1 : Int32} {I : jI} {L : jL} {r : Int32} (h : d31 a0 a1 I = r) (hk : k (some (.inl (.inl r))) (I, L)) : jPM d 31 [.inr (4, a0), .inl (.inl a1)] (I, L) k := by
  refine pM (fun d n => ?_)
  unfold d31 at h
  refine pn_go [] 400 ?_
  conv => whnf
  refine ⟨fun cz1 => ?_, fun cz1 => ?_⟩
  · replace h := (if_pos cz1).symm.trans h
    conv => whnf
    subst h
    exact fun _ => hk
  · replace h := (if_neg cz1).symm.trans h
    conv => whnf
    refine ⟨fun cz2 => ?_, fun cz2 => ?_⟩
    · replace h := (if_pos cz2).symm.trans h
      conv => whnf
      subst h
      exact fun _ => hk
    · replace h := (if_neg cz2).symm.trans h
      conv => whnf
      subst h
      exact fun _ => hk
/-- X1_tell -/
noncomputable def d40 (a0 : Nat) (a1 : Int32) (a2 : Int32) (I : jI) : Int32 :=
  if a2 = 0 then
    (I 18 a0 (Int32.toNatClampNeg a1))
  else
    if a2 = 1 then
      (I 19 a0 (Int32.toNatClampNeg a1))
    else
      if a2 = 2 then
        (I 20 a0 (Int32.toNatClampNeg a1))
      else
        if a2 = 3 then
          (d37 a0 a1 I)
        else
          if a2 = 4 then
            (d35 a0 a1 1 I)
          else
            (d36 a0 a1 I)
/-- X2_parent -/
noncomputable def d4 (a0 : Int32) (I : jI) : Int32 :=
  if a0 = 4 then
    1
  else
    if a0 = 5 then
      2
    else
      0
set_option maxHeartbeats 4000000 in
set_option maxRecDepth 20000 in
theorem D4 {d : Nat} {k : jK} {a0 : Int32} {I : jI} {L : jL} {r : Int32} (h : d4 a0 I = r) (hk : k (some (.inl (.inl r))) (I, L)) : jPM d 4 [.inl (.inl a0)] (I, L) k := by
  refine pM (fun d n => ?_)
  unfold d4 at h
  refine pn_go [] 400 ?_
  conv => whnf
  refine And.intro (fun cz1 => ?_) (fun cz1 => ?_)
  · replace h := (if_pos cz1).symm.trans h
    conv => whnf
    subst h
    exact hk
  replace h := (if_neg cz1).symm.trans h
  refine jsw_cons (fun cz2 => ?_) (fun cz2 => ?_)
  · replace h := (if_pos cz2).symm.trans h
    conv => whnf
    subst h
    exact hk
  replace h := (if_neg cz2).symm.trans h
  refine jsw_nil ?_
  conv => whnf
  subst h
  exact hk
/-- X2_isA -/
noncomputable def d3 (a0 : Int32) (a1 : Int32) (I : jI) : Int32 :=
  if a0 = a1 then
    1
  else
    if (d4 a0 I) = a1 then
      1
    else
      0
set_option maxHeartbeats 4000000 in
set_option maxRecDepth 20000 in
theorem D3 {d : Nat} {k : jK} {a0 : Int32} {a1 : Int32} {I : jI} {L : jL} {r : Int32} (h : d3 a0 a1 I = r) (hk : k (some (.inl (.inl r))) (I, L)) : jPM d 3 [.inl (.inl a0), .inl (.inl a1)] (I, L) k := by
  refine pM (fun d n => ?_)
  unfold d3 at h
  refine pn_go [] 400 ?_
  conv => whnf
  refine ⟨fun cz1 => ?_, fun cz1 => ?_⟩
  · replace h := (if_pos cz1).symm.trans h
    conv => whnf
    subst h
    exact fun _ => hk
  · replace h := (if_neg cz1).symm.trans h
    conv => whnf
    refine D4 rfl ?_
    conv => whnf
    refine ⟨fun cz2 => ?_, fun cz2 => ?_⟩
    · replace h := (if_neg cz2).symm.trans h
      conv => whnf
      subst h
      exact fun _ => hk
    · replace h := (if_pos cz2).symm.trans h
      conv => whnf
      subst h
      exact fun _ => hk
/-- X1_markOf -/
noncomputable def d41 (a0 : Nat) (a1 : Int32) (a2 : Int32) (I : jI) : Int32 :=
  if a2 = 1 then
    ((d5 (I 18 a0 (Int32.toNatClampNeg a1)) 1 (I 20 a0 (Int32.toNatClampNeg a1)) 0 I) - (d5 (I 18 a0 (Int32.toNatClampNeg a1)) 1 (I 20 a0 (Int32.toNatClampNeg a1)) 1 I))
  else
    if a2 = 2 then
      ((3 * (d35 a0 a1 1 I)) - (d35 a0 a1 3 I))
    else
      if a2 = 3 then
        ((I 19 a0 (Int32.toNatClampNeg a1)) - (d36 a0 a1 I))
      else
        if a2 = 4 then
          ((d5 1 1 (I 20 a0 (Int32.toNatClampNeg a1)) (I 4 a0 14) I) - (d35 a0 a1 1 I))
        else
          ((I 21 a0 (Int32.toNatClampNeg a1)) - (d37 a0 a1 I))
set_option maxHeartbeats 4000000 in
set_option maxRecDepth 20000 in
theorem D41 {d : Nat} {k : jK} {a0 : Nat} {a1 : Int32} {a2 : Int32} {I : jI} {L : jL} {r : Int32} (h : d41 a0 a1 a2 I = r) (hk : k (some (.inl (.inl r))) (I, L)) : jPM d 41 [.inr (4, a0), .inl (.inl a1), .inl (.inl a2)] (I, L) k := by
  refine pM (fun d n => ?_)
  unfold d41 at h
  refine pn_go [] 400 ?_
  conv => whnf
  refine And.intro (fun cz1 => ?_) (fun cz1 => ?_)
  · replace h := (if_pos cz1).symm.trans h
    conv => whnf
    intro _
    conv => whnf
    intro _
    conv => whnf
    refine D5 rfl ?_
    conv => whnf
    intro _
    conv => whnf
    intro _
    conv => whnf
    refine D5 rfl ?_
    conv => whnf
    subst h
    exact hk
  replace h := (if_neg cz1).symm.trans h
  refine jsw_cons (fun cz2 => ?_) (fun cz2 => ?_)
  · replace h := (if_pos cz2).symm.trans h
    conv => whnf
    refine D35 rfl ?_
    conv => whnf
    refine D35 rfl ?_
    conv => whnf
    subst h
    exact hk
  replace h := (if_neg cz2).symm.trans h
  refine jsw_cons (fun cz3 => ?_) (fun cz3 => ?_)
  · replace h := (if_pos cz3).symm.trans h
    conv => whnf
    intro _
    conv => whnf
    refine D36 rfl ?_
    conv => whnf
    subst h
    exact hk
  replace h := (if_neg cz3).symm.trans h
  refine jsw_cons (fun cz4 => ?_) (fun cz4 => ?_)
  · replace h := (if_pos cz4).symm.trans h
    conv => whnf
    intro _
    conv => whnf
    refine D5 rfl ?_
    conv => whnf
    refine D35 rfl ?_
    conv => whnf
    subst h
    exact hk
  replace h := (if_neg cz4).symm.trans h
  refine jsw_nil ?_
  conv => whnf
  intro _
  conv => whnf
  refine D37 rfl ?_
  conv => whnf
  subst h
  exact hk
/-- X7_mark -/
noncomputable def d79 (a1 : Int32) (a2 : Int32) (I : jI) : Option (Int32 × jI) :=
  if (d31 1 a1 I) = 0 then
    some ((-1), I)
  else
    if a2 ≤ 0 then
      some ((-1), I)
    else
      if a2 < 6 then
        if (d3 (I 18 1 (Int32.toNatClampNeg a1)) a2 I) = 0 then
          some (((d113 3 I).1), ((d113 3 I).2))
        else
          some ((d41 1 a1 a2 I), I)
      else
        some ((-1), I)
set_option maxHeartbeats 4000000 in
set_option maxRecDepth 20000 in
theorem D79 {d : Nat} {k : jK} {a1 : Int32} {a2 : Int32} {I : jI} {L : jL} {r : Int32 × jI} (h : d79 a1 a2 I = some r) (hk : k (some (.inl (.inl r.1))) (r.2, L)) : jPM d 79 [.inr (0, 0), .inl (.inl a1), .inl (.inl a2)] (I, L) k := by
  refine pM (fun d n => ?_)
  unfold d79 at h
  refine pn_go [] 400 ?_
  conv => whnf
  refine D31 rfl ?_
  conv => whnf
  refine ⟨fun cz1 => ?_, fun cz1 => ?_⟩
  · replace h := (if_pos cz1).symm.trans h
    conv => whnf
    cases h
    exact hk
  · replace h := (if_neg cz1).symm.trans h
    conv => whnf
    refine ⟨fun cz2 => ?_, fun cz2 => ?_⟩
    · replace h := (if_pos cz2).symm.trans h
      conv => whnf
      cases h
      exact hk
    · replace h := (if_neg cz2).symm.trans h
      conv => whnf
      refine ⟨fun cz3 => ?_, fun cz3 => ?_⟩
      · replace h := (if_pos cz3).symm.trans h
        conv => whnf
        intro _
        conv => whnf
        refine D3 rfl ?_
        conv => whnf
        refine ⟨fun cz4 => ?_, fun cz4 => ?_⟩
        · replace h := (if_neg cz4).symm.trans h
          conv => whnf
          refine D41 rfl ?_
          conv => whnf
          cases h
          exact hk
        · replace h := (if_pos cz4).symm.trans h
          conv => whnf
          refine D113 rfl ?_
          conv => whnf
          cases h
          exact hk
      · replace h := (if_neg cz3).symm.trans h
        conv => whnf
        cases h
        exact hk
/-- X3_keeping -/
noncomputable def d9 (a0 : Nat) (a1 : Int32) (I : jI) : Int32 :=
  (I 23 a0 (Int32.toNatClampNeg a1))
set_option maxHeartbeats 4000000 in
set_option maxRecDepth 20000 in
theorem D9 {d : Nat} {k : jK} {a0 : Nat} {a1 : Int32} {I : jI} {L : jL} {r : Int32} (h : d9 a0 a1 I = r) (hk : k (some (.inl (.inl r))) (I, L)) : jPM d 9 [.inr (7, a0), .inl (.inl a1)] (I, L) k := by
  refine pM (fun d n => ?_)
  unfold d9 at h
  refine pn_go [] 400 ?_
  conv => whnf
  intro _
  conv => whnf
  subst h
  exact hk
/-- X1_hasRoomFor -/
noncomputable def d33 (a0 : Nat) (a1 : Int32) (a2 : Int32) (I : jI) : Option (Int32) :=
  (d10 a0 I).bind fun r1 =>
  if (I 4 a0 8) < (r1 + (a2 * (d36 a0 a1 I))) then
    some 0
  else
    some 1
set_option maxHeartbeats 4000000 in
set_option maxRecDepth 20000 in
theorem D33 {d : Nat} {k : jK} {a0 : Nat} {a1 : Int32} {a2 : Int32} {I : jI} {L : jL} {r : Int32} (h : d33 a0 a1 a2 I = some r) (hk : k (some (.inl (.inl r))) (I, L)) : jPM d 33 [.inr (4, a0), .inl (.inl a1), .inl (.inl a2)] (I, L) k := by
  refine pM (fun d n => ?_)
  unfold d33 at h
  refine pn_go [] 400 ?_
  conv => whnf
  obtain ⟨r1, hz1, h⟩ := obind h
  refine D10 hz1 ?_
  conv => whnf
  refine D36 rfl ?_
  conv => whnf
  refine ⟨fun cz2 => ?_, fun cz2 => ?_⟩
  · replace h := (if_pos cz2).symm.trans h
    conv => whnf
    cases h
    exact fun _ => hk
  · replace h := (if_neg cz2).symm.trans h
    conv => whnf
    cases h
    exact fun _ => hk
/-- X1_hasDeedsFor -/
noncomputable def d32 (a0 : Nat) (a1 : Int32) (I : jI) : Int32 :=
  if 40 < ((I 4 a0 15) + a1) then
    0
  else
    1
set_option maxHeartbeats 4000000 in
set_option maxRecDepth 20000 in
theorem D32 {d : Nat} {k : jK} {a0 : Nat} {a1 : Int32} {I : jI} {L : jL} {r : Int32} (h : d32 a0 a1 I = r) (hk : k (some (.inl (.inl r))) (I, L)) : jPM d 32 [.inr (4, a0), .inl (.inl a1)] (I, L) k := by
  refine pM (fun d n => ?_)
  unfold d32 at h
  refine pn_go [] 400 ?_
  conv => whnf
  refine ⟨fun cz1 => ?_, fun cz1 => ?_⟩
  · replace h := (if_pos cz1).symm.trans h
    conv => whnf
    subst h
    exact fun _ => hk
  · replace h := (if_neg cz1).symm.trans h
    conv => whnf
    subst h
    exact fun _ => hk
/-- X1_bringHome -/
noncomputable def d45 (a0 : Nat) (a1 : Int32) (a2 : Int32) (I : jI) : Option (Int32 × jI) :=
  some ((d35 a0 a1 a2 I), (d12 a0 (d37 a0 a1 (jup I 4 a0 10 ((I 4 a0 10) + (d35 a0 a1 a2 I)))) (a2 * (d36 a0 a1 (jup I 4 a0 10 ((I 4 a0 10) + (d35 a0 a1 a2 I))))) (jup I 4 a0 10 ((I 4 a0 10) + (d35 a0 a1 a2 I)))))
set_option maxHeartbeats 4000000 in
set_option maxRecDepth 20000 in
theorem D45 {d : Nat} {k : jK} {a0 : Nat} {a1 : Int32} {a2 : Int32} {I : jI} {L : jL} {r : Int32 × jI} (h : d45 a0 a1 a2 I = some r) (hk : k (some (.inl (.inl r.1))) (r.2, L)) : jPM d 45 [.inr (4, a0), .inl (.inl a1), .inl (.inl a2)] (I, L) k := by
  refine pM (fun d n => ?_)
  unfold d45 at h
  refine pn_go [] 400 ?_
  conv => whnf
  refine D35 rfl ?_
  conv => whnf
  refine D37 rfl ?_
  conv => whnf
  refine D36 rfl ?_
  conv => whnf
  refine D12 rfl ?_
  conv => whnf
  cases h
  exact hk
/-- X1_passWeek -/
noncomputable def d46 (a0 : Nat) (I : jI) : Option (Int32 × jI) :=
  (d13 a0 (I 4 a0 7) I).bind fun r1 =>
  some (((d14 a0 (jup (jup r1.2 4 a0 11 ((r1.2 4 a0 11) + r1.1)) 4 a0 12 (((jup r1.2 4 a0 11 ((r1.2 4 a0 11) + r1.1)) 4 a0 12) + (((jup r1.2 4 a0 11 ((r1.2 4 a0 11) + r1.1)) 4 a0 7) - r1.1)))).1), (jup (jup ((d14 a0 (jup (jup r1.2 4 a0 11 ((r1.2 4 a0 11) + r1.1)) 4 a0 12 (((jup r1.2 4 a0 11 ((r1.2 4 a0 11) + r1.1)) 4 a0 12) + (((jup r1.2 4 a0 11 ((r1.2 4 a0 11) + r1.1)) 4 a0 7) - r1.1)))).2) 4 a0 13 ((((d14 a0 (jup (jup r1.2 4 a0 11 ((r1.2 4 a0 11) + r1.1)) 4 a0 12 (((jup r1.2 4 a0 11 ((r1.2 4 a0 11) + r1.1)) 4 a0 12) + (((jup r1.2 4 a0 11 ((r1.2 4 a0 11) + r1.1)) 4 a0 7) - r1.1)))).2) 4 a0 13) + ((d14 a0 (jup (jup r1.2 4 a0 11 ((r1.2 4 a0 11) + r1.1)) 4 a0 12 (((jup r1.2 4 a0 11 ((r1.2 4 a0 11) + r1.1)) 4 a0 12) + (((jup r1.2 4 a0 11 ((r1.2 4 a0 11) + r1.1)) 4 a0 7) - r1.1)))).1))) 4 a0 9 (((jup ((d14 a0 (jup (jup r1.2 4 a0 11 ((r1.2 4 a0 11) + r1.1)) 4 a0 12 (((jup r1.2 4 a0 11 ((r1.2 4 a0 11) + r1.1)) 4 a0 12) + (((jup r1.2 4 a0 11 ((r1.2 4 a0 11) + r1.1)) 4 a0 7) - r1.1)))).2) 4 a0 13 ((((d14 a0 (jup (jup r1.2 4 a0 11 ((r1.2 4 a0 11) + r1.1)) 4 a0 12 (((jup r1.2 4 a0 11 ((r1.2 4 a0 11) + r1.1)) 4 a0 12) + (((jup r1.2 4 a0 11 ((r1.2 4 a0 11) + r1.1)) 4 a0 7) - r1.1)))).2) 4 a0 13) + ((d14 a0 (jup (jup r1.2 4 a0 11 ((r1.2 4 a0 11) + r1.1)) 4 a0 12 (((jup r1.2 4 a0 11 ((r1.2 4 a0 11) + r1.1)) 4 a0 12) + (((jup r1.2 4 a0 11 ((r1.2 4 a0 11) + r1.1)) 4 a0 7) - r1.1)))).1))) 4 a0 9) + 1)))
set_option maxHeartbeats 4000000 in
set_option maxRecDepth 20000 in
theorem D46 {d : Nat} {k : jK} {a0 : Nat} {I : jI} {L : jL} {r : Int32 × jI} (h : d46 a0 I = some r) (hk : k (some (.inl (.inl r.1))) (r.2, L)) : jPM d 46 [.inr (4, a0)] (I, L) k := by
  refine pM (fun d n => ?_)
  unfold d46 at h
  refine pn_go [] 400 ?_
  conv => whnf
  obtain ⟨r1, hz1, h⟩ := obind h
  refine D13 hz1 ?_
  conv => whnf
  refine D14 rfl ?_
  conv => whnf
  cases h
  exact hk
/-- X1_perform -/
noncomputable def d44 (a0 : Nat) (a1 : Int32) (a2 : Int32) (a3 : Int32) (I : jI) : Option (Int32 × jI) :=
  if (d32 a0 1 I) = 0 then
    some ((-2), I)
  else
    if a1 = 0 then
      (d45 a0 a2 a3 (jup (jup I 22 a0 (Int32.toNatClampNeg (I 4 a0 15)) (((a1 * 1000) + (a2 * 100)) + a3)) 4 a0 15 (((jup I 22 a0 (Int32.toNatClampNeg (I 4 a0 15)) (((a1 * 1000) + (a2 * 100)) + a3)) 4 a0 15) + 1))).bind fun r1 =>
      some (r1.1, r1.2)
    else
      if a1 = 1 then
        (d46 a0 (jup (jup I 22 a0 (Int32.toNatClampNeg (I 4 a0 15)) (((a1 * 1000) + (a2 * 100)) + a3)) 4 a0 15 (((jup I 22 a0 (Int32.toNatClampNeg (I 4 a0 15)) (((a1 * 1000) + (a2 * 100)) + a3)) 4 a0 15) + 1))).bind fun r2 =>
        some (r2.1, r2.2)
      else
        if a1 = 2 then
          some (((jup (jup (jup I 22 a0 (Int32.toNatClampNeg (I 4 a0 15)) (((a1 * 1000) + (a2 * 100)) + a3)) 4 a0 15 (((jup I 22 a0 (Int32.toNatClampNeg (I 4 a0 15)) (((a1 * 1000) + (a2 * 100)) + a3)) 4 a0 15) + 1)) 19 a0 (Int32.toNatClampNeg a2) (((jup (jup I 22 a0 (Int32.toNatClampNeg (I 4 a0 15)) (((a1 * 1000) + (a2 * 100)) + a3)) 4 a0 15 (((jup I 22 a0 (Int32.toNatClampNeg (I 4 a0 15)) (((a1 * 1000) + (a2 * 100)) + a3)) 4 a0 15) + 1)) 19 a0 (Int32.toNatClampNeg a2)) - 1)) 19 a0 (Int32.toNatClampNeg a2)), (jup (jup (jup I 22 a0 (Int32.toNatClampNeg (I 4 a0 15)) (((a1 * 1000) + (a2 * 100)) + a3)) 4 a0 15 (((jup I 22 a0 (Int32.toNatClampNeg (I 4 a0 15)) (((a1 * 1000) + (a2 * 100)) + a3)) 4 a0 15) + 1)) 19 a0 (Int32.toNatClampNeg a2) (((jup (jup I 22 a0 (Int32.toNatClampNeg (I 4 a0 15)) (((a1 * 1000) + (a2 * 100)) + a3)) 4 a0 15 (((jup I 22 a0 (Int32.toNatClampNeg (I 4 a0 15)) (((a1 * 1000) + (a2 * 100)) + a3)) 4 a0 15) + 1)) 19 a0 (Int32.toNatClampNeg a2)) - 1)))
        else
          if a1 = 3 then
            some (((jup (jup I 22 a0 (Int32.toNatClampNeg (I 4 a0 15)) (((a1 * 1000) + (a2 * 100)) + a3)) 4 a0 15 (((jup I 22 a0 (Int32.toNatClampNeg (I 4 a0 15)) (((a1 * 1000) + (a2 * 100)) + a3)) 4 a0 15) + 1)) 20 a0 (Int32.toNatClampNeg a2)), (jup (jup (jup I 22 a0 (Int32.toNatClampNeg (I 4 a0 15)) (((a1 * 1000) + (a2 * 100)) + a3)) 4 a0 15 (((jup I 22 a0 (Int32.toNatClampNeg (I 4 a0 15)) (((a1 * 1000) + (a2 * 100)) + a3)) 4 a0 15) + 1)) 20 a0 (Int32.toNatClampNeg a2) a3))
          else
            if a3 = 1 then
              some (a3, (jup (jup (jup I 22 a0 (Int32.toNatClampNeg (I 4 a0 15)) (((a1 * 1000) + (a2 * 100)) + a3)) 4 a0 15 (((jup I 22 a0 (Int32.toNatClampNeg (I 4 a0 15)) (((a1 * 1000) + (a2 * 100)) + a3)) 4 a0 15) + 1)) 4 a0 14 1))
            else
              some (a3, (jup (jup (jup I 22 a0 (Int32.toNatClampNeg (I 4 a0 15)) (((a1 * 1000) + (a2 * 100)) + a3)) 4 a0 15 (((jup I 22 a0 (Int32.toNatClampNeg (I 4 a0 15)) (((a1 * 1000) + (a2 * 100)) + a3)) 4 a0 15) + 1)) 4 a0 14 0))
set_option maxHeartbeats 4000000 in
set_option maxRecDepth 20000 in
theorem D44 {d : Nat} {k : jK} {a0 : Nat} {a1 : Int32} {a2 : Int32} {a3 : Int32} {I : jI} {L : jL} {r : Int32 × jI} (h : d44 a0 a1 a2 a3 I = some r) (hk : k (some (.inl (.inl r.1))) (r.2, L)) : jPM d 44 [.inr (4, a0), .inl (.inl a1), .inl (.inl a2), .inl (.inl a3)] (I, L) k := by
  refine pM (fun d n => ?_)
  unfold d44 at h
  refine pn_go [] 400 ?_
  conv => whnf
  refine D32 rfl ?_
  conv => whnf
  refine ⟨fun cz1 => ?_, fun cz1 => ?_⟩
  · replace h := (if_neg cz1).symm.trans h
    conv => whnf
    intro _
    conv => whnf
    refine And.intro (fun cz2 => ?_) (fun cz2 => ?_)
    · replace h := (if_pos cz2).symm.trans h
      conv => whnf
      obtain ⟨r1, hz3, h⟩ := obind h
      refine D45 hz3 ?_
      conv => whnf
      cases h
      exact hk
    replace h := (if_neg cz2).symm.trans h
    refine jsw_cons (fun cz4 => ?_) (fun cz4 => ?_)
    · replace h := (if_pos cz4).symm.trans h
      conv => whnf
      obtain ⟨r2, hz5, h⟩ := obind h
      refine D46 hz5 ?_
      conv => whnf
      cases h
      exact hk
    replace h := (if_neg cz4).symm.trans h
    refine jsw_cons (fun cz6 => ?_) (fun cz6 => ?_)
    · replace h := (if_pos cz6).symm.trans h
      conv => whnf
      intro _
      conv => whnf
      intro _
      conv => whnf
      intro _
      conv => whnf
      cases h
      exact hk
    replace h := (if_neg cz6).symm.trans h
    refine jsw_cons (fun cz7 => ?_) (fun cz7 => ?_)
    · replace h := (if_pos cz7).symm.trans h
      conv => whnf
      intro _
      conv => whnf
      intro _
      conv => whnf
      cases h
      exact hk
    replace h := (if_neg cz7).symm.trans h
    refine jsw_nil ?_
    conv => whnf
    refine ⟨fun cz8 => ?_, fun cz8 => ?_⟩
    · replace h := (if_neg cz8).symm.trans h
      conv => whnf
      intro _
      conv => whnf
      cases h
      exact hk
    · replace h := (if_pos cz8).symm.trans h
      conv => whnf
      intro _
      conv => whnf
      cases h
      exact hk
  · replace h := (if_pos cz1).symm.trans h
    conv => whnf
    cases h
    exact hk
/-- X7_buy -/
noncomputable def d81 (a1 : Int32) (a2 : Int32) (I : jI) : Option (Int32 × jI) :=
  if (d31 1 a1 I) = 0 then
    some ((-1), I)
  else
    if a2 < 1 then
      some ((-1), I)
    else
      if a2 ≤ 3 then
        (d33 1 a1 a2 I).bind fun r1 =>
        if r1 = 0 then
          some ((-6), I)
        else
          (d44 1 0 a1 a2 I).bind fun r2 =>
          some (r2.1, r2.2)
      else
        some ((-1), I)
set_option maxHeartbeats 4000000 in
set_option maxRecDepth 20000 in
theorem D81 {d : Nat} {k : jK} {a1 : Int32} {a2 : Int32} {I : jI} {L : jL} {r : Int32 × jI} (h : d81 a1 a2 I = some r) (hk : k (some (.inl (.inl r.1))) (r.2, L)) : jPM d 81 [.inr (0, 0), .inl (.inl a1), .inl (.inl a2)] (I, L) k := by
  refine pM (fun d n => ?_)
  unfold d81 at h
  refine pn_go [] 400 ?_
  conv => whnf
  refine D31 rfl ?_
  conv => whnf
  refine ⟨fun cz1 => ?_, fun cz1 => ?_⟩
  · replace h := (if_pos cz1).symm.trans h
    conv => whnf
    cases h
    exact hk
  · replace h := (if_neg cz1).symm.trans h
    conv => whnf
    refine ⟨fun cz2 => ?_, fun cz2 => ?_⟩
    · replace h := (if_pos cz2).symm.trans h
      conv => whnf
      cases h
      exact hk
    · replace h := (if_neg cz2).symm.trans h
      conv => whnf
      refine ⟨fun cz3 => ?_, fun cz3 => ?_⟩
      · replace h := (if_pos cz3).symm.trans h
        conv => whnf
        obtain ⟨r1, hz4, h⟩ := obind h
        refine D33 hz4 ?_
        conv => whnf
        refine ⟨fun cz5 => ?_, fun cz5 => ?_⟩
        · replace h := (if_neg cz5).symm.trans h
          conv => whnf
          obtain ⟨r2, hz6, h⟩ := obind h
          refine D44 hz6 ?_
          conv => whnf
          cases h
          exact hk
        · replace h := (if_pos cz5).symm.trans h
          conv => whnf
          cases h
          exact hk
      · replace h := (if_neg cz3).symm.trans h
        conv => whnf
        cases h
        exact hk
end
section
/-- X7_week -/
noncomputable def d82 (I : jI) : Option (Int32 × jI) :=
  if (I 4 1 6) = 0 then
    some ((-4), I)
  else
    (d44 1 1 0 0 I).bind fun r1 =>
    some (r1.1, r1.2)
set_option maxHeartbeats 4000000 in
set_option maxRecDepth 20000 in
theorem D82 {d : Nat} {k : jK} {I : jI} {L : jL} {r : Int32 × jI} (h : d82 I = some r) (hk : k (some (.inl (.inl r.1))) (r.2, L)) : jPM d 82 [.inr (0, 0)] (I, L) k := by
  refine pM (fun d n => ?_)
  unfold d82 at h
  refine pn_go [] 400 ?_
  conv => whnf
  refine ⟨fun cz1 => ?_, fun cz1 => ?_⟩
  · replace h := (if_neg cz1).symm.trans h
    conv => whnf
    obtain ⟨r1, hz2, h⟩ := obind h
    refine D44 hz2 ?_
    conv => whnf
    cases h
    exact hk
  · replace h := (if_pos cz1).symm.trans h
    conv => whnf
    cases h
    exact hk
/-- X1_canShrink -/
noncomputable def d34 (a0 : Nat) (a1 : Int32) (I : jI) : Int32 :=
  if (I 19 a0 (Int32.toNatClampNeg a1)) ≤ 1 then
    0
  else
    1
set_option maxHeartbeats 4000000 in
set_option maxRecDepth 20000 in
theorem D34 {d : Nat} {k : jK} {a0 : Nat} {a1 : Int32} {I : jI} {L : jL} {r : Int32} (h : d34 a0 a1 I = r) (hk : k (some (.inl (.inl r))) (I, L)) : jPM d 34 [.inr (4, a0), .inl (.inl a1)] (I, L) k := by
  refine pM (fun d n => ?_)
  unfold d34 at h
  refine pn_go [] 400 ?_
  conv => whnf
  intro _
  conv => whnf
  refine ⟨fun cz1 => ?_, fun cz1 => ?_⟩
  · replace h := (if_pos cz1).symm.trans h
    conv => whnf
    subst h
    exact fun _ => hk
  · replace h := (if_neg cz1).symm.trans h
    conv => whnf
    subst h
    exact fun _ => hk
/-- X7_shrink -/
noncomputable def d83 (a1 : Int32) (I : jI) : Option (Int32 × jI) :=
  if (d31 1 a1 I) = 0 then
    some ((-1), I)
  else
    if (d34 1 a1 I) = 0 then
      some ((-4), I)
    else
      (d44 1 2 a1 0 I).bind fun r1 =>
      some (r1.1, r1.2)
set_option maxHeartbeats 4000000 in
set_option maxRecDepth 20000 in
theorem D83 {d : Nat} {k : jK} {a1 : Int32} {I : jI} {L : jL} {r : Int32 × jI} (h : d83 a1 I = some r) (hk : k (some (.inl (.inl r.1))) (r.2, L)) : jPM d 83 [.inr (0, 0), .inl (.inl a1)] (I, L) k := by
  refine pM (fun d n => ?_)
  unfold d83 at h
  refine pn_go [] 400 ?_
  conv => whnf
  refine D31 rfl ?_
  conv => whnf
  refine ⟨fun cz1 => ?_, fun cz1 => ?_⟩
  · replace h := (if_neg cz1).symm.trans h
    conv => whnf
    refine D34 rfl ?_
    conv => whnf
    refine ⟨fun cz2 => ?_, fun cz2 => ?_⟩
    · replace h := (if_neg cz2).symm.trans h
      conv => whnf
      obtain ⟨r1, hz3, h⟩ := obind h
      refine D44 hz3 ?_
      conv => whnf
      cases h
      exact hk
    · replace h := (if_pos cz2).symm.trans h
      conv => whnf
      cases h
      exact hk
  · replace h := (if_pos cz1).symm.trans h
    conv => whnf
    cases h
    exact hk
/-- X7_price -/
noncomputable def d84 (a1 : Int32) (a2 : Int32) (I : jI) : Option (Int32 × jI) :=
  if (d31 1 a1 I) = 0 then
    some ((-1), I)
  else
    if a2 < 0 then
      some ((-1), I)
    else
      if a2 ≤ 99 then
        if (I 20 1 (Int32.toNatClampNeg a1)) = a2 then
          some ((-4), I)
        else
          (d44 1 3 a1 a2 I).bind fun r1 =>
          some (r1.1, r1.2)
      else
        some ((-1), I)
set_option maxHeartbeats 4000000 in
set_option maxRecDepth 20000 in
theorem D84 {d : Nat} {k : jK} {a1 : Int32} {a2 : Int32} {I : jI} {L : jL} {r : Int32 × jI} (h : d84 a1 a2 I = some r) (hk : k (some (.inl (.inl r.1))) (r.2, L)) : jPM d 84 [.inr (0, 0), .inl (.inl a1), .inl (.inl a2)] (I, L) k := by
  refine pM (fun d n => ?_)
  unfold d84 at h
  refine pn_go [] 400 ?_
  conv => whnf
  refine D31 rfl ?_
  conv => whnf
  refine ⟨fun cz1 => ?_, fun cz1 => ?_⟩
  · replace h := (if_pos cz1).symm.trans h
    conv => whnf
    cases h
    exact hk
  · replace h := (if_neg cz1).symm.trans h
    conv => whnf
    refine ⟨fun cz2 => ?_, fun cz2 => ?_⟩
    · replace h := (if_pos cz2).symm.trans h
      conv => whnf
      cases h
      exact hk
    · replace h := (if_neg cz2).symm.trans h
      conv => whnf
      refine ⟨fun cz3 => ?_, fun cz3 => ?_⟩
      · replace h := (if_pos cz3).symm.trans h
        conv => whnf
        intro _
        conv => whnf
        refine ⟨fun cz4 => ?_, fun cz4 => ?_⟩
        · replace h := (if_neg cz4).symm.trans h
          conv => whnf
          obtain ⟨r1, hz5, h⟩ := obind h
          refine D44 hz5 ?_
          conv => whnf
          cases h
          exact hk
        · replace h := (if_pos cz4).symm.trans h
          conv => whnf
          cases h
          exact hk
      · replace h := (if_neg cz3).symm.trans h
        conv => whnf
        cases h
        exact hk
/-- X7_card -/
noncomputable def d85 (a1 : Int32) (I : jI) : Option (Int32 × jI) :=
  if a1 = 0 then
    if (I 4 1 6) = 0 then
      some ((-4), I)
    else
      if a1 = 1 then
        if (I 4 1 14) = 1 then
          some ((-4), I)
        else
          (d44 1 4 0 a1 I).bind fun r2 =>
          some (r2.1, r2.2)
      else
        if (I 4 1 14) = 0 then
          some ((-4), I)
        else
          (d44 1 4 0 a1 I).bind fun r1 =>
          some (r1.1, r1.2)
  else
    if a1 = 1 then
      if (I 4 1 6) = 0 then
        some ((-4), I)
      else
        if a1 = 1 then
          if (I 4 1 14) = 1 then
            some ((-4), I)
          else
            (d44 1 4 0 a1 I).bind fun r4 =>
            some (r4.1, r4.2)
        else
          if (I 4 1 14) = 0 then
            some ((-4), I)
          else
            (d44 1 4 0 a1 I).bind fun r3 =>
            some (r3.1, r3.2)
    else
      some ((-1), I)
set_option maxHeartbeats 4000000 in
set_option maxRecDepth 20000 in
theorem D85 {d : Nat} {k : jK} {a1 : Int32} {I : jI} {L : jL} {r : Int32 × jI} (h : d85 a1 I = some r) (hk : k (some (.inl (.inl r.1))) (r.2, L)) : jPM d 85 [.inr (0, 0), .inl (.inl a1)] (I, L) k := by
  refine pM (fun d n => ?_)
  unfold d85 at h
  refine pn_go [] 400 ?_
  conv => whnf
  refine ⟨fun cz1 => ?_, fun cz1 => ?_⟩
  · replace h := (if_pos cz1).symm.trans h
    conv => whnf
    refine ⟨fun cz2 => ?_, fun cz2 => ?_⟩
    · replace h := (if_pos cz2).symm.trans h
      conv => whnf
      cases h
      exact hk
    · replace h := (if_neg cz2).symm.trans h
      conv => whnf
      refine ⟨fun cz3 => ?_, fun cz3 => ?_⟩
      · replace h := (if_neg cz3).symm.trans h
        conv => whnf
        refine ⟨fun cz4 => ?_, fun cz4 => ?_⟩
        · replace h := (if_neg cz4).symm.trans h
          conv => whnf
          obtain ⟨r1, hz5, h⟩ := obind h
          refine D44 hz5 ?_
          conv => whnf
          cases h
          exact hk
        · replace h := (if_pos cz4).symm.trans h
          conv => whnf
          cases h
          exact hk
      · replace h := (if_pos cz3).symm.trans h
        conv => whnf
        refine ⟨fun cz6 => ?_, fun cz6 => ?_⟩
        · replace h := (if_neg cz6).symm.trans h
          conv => whnf
          obtain ⟨r2, hz7, h⟩ := obind h
          refine D44 hz7 ?_
          conv => whnf
          cases h
          exact hk
        · replace h := (if_pos cz6).symm.trans h
          conv => whnf
          cases h
          exact hk
  · replace h := (if_neg cz1).symm.trans h
    conv => whnf
    refine ⟨fun cz8 => ?_, fun cz8 => ?_⟩
    · replace h := (if_pos cz8).symm.trans h
      conv => whnf
      refine ⟨fun cz9 => ?_, fun cz9 => ?_⟩
      · replace h := (if_pos cz9).symm.trans h
        conv => whnf
        cases h
        exact hk
      · replace h := (if_neg cz9).symm.trans h
        conv => whnf
        refine ⟨fun cz10 => ?_, fun cz10 => ?_⟩
        · replace h := (if_neg cz10).symm.trans h
          conv => whnf
          refine ⟨fun cz11 => ?_, fun cz11 => ?_⟩
          · replace h := (if_neg cz11).symm.trans h
            conv => whnf
            obtain ⟨r3, hz12, h⟩ := obind h
            refine D44 hz12 ?_
            conv => whnf
            cases h
            exact hk
          · replace h := (if_pos cz11).symm.trans h
            conv => whnf
            cases h
            exact hk
        · replace h := (if_pos cz10).symm.trans h
          conv => whnf
          refine ⟨fun cz13 => ?_, fun cz13 => ?_⟩
          · replace h := (if_neg cz13).symm.trans h
            conv => whnf
            obtain ⟨r4, hz14, h⟩ := obind h
            refine D44 hz14 ?_
            conv => whnf
            cases h
            exact hk
          · replace h := (if_pos cz13).symm.trans h
            conv => whnf
            cases h
            exact hk
    · replace h := (if_neg cz8).symm.trans h
      conv => whnf
      cases h
      exact hk
/-- X1_doAgain, loop at 7 -/
noncomputable def d30_7 (y0 : Nat) (y2 : Int32) : Nat → Int32 → jI → Option (jI)
  | 0, _, _ => none
  | F + 1, x3, I =>
    if y2 ≤ x3 then
      some I
    else
      if 40 ≤ x3 then
        some I
      else
        (d44 y0 ((I 22 y0 (Int32.toNatClampNeg x3)) / 1000) (((I 22 y0 (Int32.toNatClampNeg x3)) / 100) - ((I 22 y0 (Int32.toNatClampNeg x3)) / 100) / 10 * 10) ((I 22 y0 (Int32.toNatClampNeg x3)) - (I 22 y0 (Int32.toNatClampNeg x3)) / 100 * 100) I).bind fun r1 =>
        d30_7 y0 y2 F (x3 + 1) r1.2
set_option maxHeartbeats 4000000 in
set_option maxRecDepth 20000 in
theorem L30_7 {d n : Nat} {k : jK} {y0 : Nat} {y2 : Int32} {L : jL} : ∀ (F : Nat) (x3 : Int32) (I : jI) (e1 : Option jV) (r : jI), d30_7 y0 y2 F x3 I = some r → (∀ (f1 f3 : Option jV), pn (jPM d) k none (jco 30) n (60, [some (.inr (4, y0)), f1, some (.inl (.inl y2)), f3], [], r, L)) → pn (jPM d) k none (jco 30) n (7, [some (.inr (4, y0)), e1, some (.inl (.inl y2)), some (.inl (.inl x3))], [], I, L) := by
  intro F
  induction F with
  | zero => intro x3 I e1 r h hx; cases h
  | succ F ih =>
    intro x3 I e1 r h hx
    rw [d30_7] at h
    refine pn_go [7, 60] 400 ?_
    conv => whnf
    refine ⟨fun cz1 => ?_, fun cz1 => ?_⟩
    · replace h := (if_pos cz1).symm.trans h
      conv => whnf
      cases h
      exact hx _ _
    · replace h := (if_neg cz1).symm.trans h
      conv => whnf
      refine ⟨fun cz2 => ?_, fun cz2 => ?_⟩
      · replace h := (if_pos cz2).symm.trans h
        conv => whnf
        cases h
        exact hx _ _
      · replace h := (if_neg cz2).symm.trans h
        conv => whnf
        intro _
        conv => whnf
        intro _
        conv => whnf
        intro _
        conv => whnf
        intro _
        conv => whnf
        intro _
        conv => whnf
        intro _
        conv => whnf
        intro _
        conv => whnf
        obtain ⟨r1, hz3, h⟩ := obind h
        refine D44 hz3 ?_
        conv => whnf
        exact ih _ _ _ r h hx
/-- X1_doAgain -/
noncomputable def d30 (a0 : Nat) (a1 : Nat) (a2 : Int32) (I : jI) : Option (jI) :=
  (d30_7 a0 a2 70 0 (d29 a0 a1 I)).bind fun r2 =>
  some r2
set_option maxHeartbeats 4000000 in
set_option maxRecDepth 20000 in
theorem D30 {d : Nat} {k : jK} {a0 : Nat} {a1 : Nat} {a2 : Int32} {I : jI} {L : jL} {r : jI} (h : d30 a0 a1 a2 I = some r) (hk : k none (r, L)) : jPM d 30 [.inr (4, a0), .inr (4, a1), .inl (.inl a2)] (I, L) k := by
  refine pM (fun d n => ?_)
  unfold d30 at h
  refine pn_go [7] 400 ?_
  conv => whnf
  refine D29 rfl ?_
  conv => whnf
  obtain ⟨r2, hz1, h⟩ := obind h
  refine L30_7 _ _ _ _ _ hz1 (fun e1_r2 e3_r2 => ?_)
  refine pn_go [7] 400 ?_
  conv => whnf
  cases h
  exact hk
/-- X7_undo -/
noncomputable def d86 (a1 : Int32) (I : jI) : Option (Int32 × jI) :=
  if a1 < 0 then
    some ((-1), I)
  else
    if a1 < (I 4 1 15) then
      (d30 1 0 a1 I).bind fun r1 =>
      some (((I 4 1 15) - a1), r1)
    else
      some ((-1), I)
set_option maxHeartbeats 4000000 in
set_option maxRecDepth 20000 in
theorem D86 {d : Nat} {k : jK} {a1 : Int32} {I : jI} {L : jL} {r : Int32 × jI} (h : d86 a1 I = some r) (hk : k (some (.inl (.inl r.1))) (r.2, L)) : jPM d 86 [.inr (0, 0), .inl (.inl a1)] (I, L) k := by
  refine pM (fun d n => ?_)
  unfold d86 at h
  refine pn_go [] 400 ?_
  conv => whnf
  refine ⟨fun cz1 => ?_, fun cz1 => ?_⟩
  · replace h := (if_pos cz1).symm.trans h
    conv => whnf
    cases h
    exact hk
  · replace h := (if_neg cz1).symm.trans h
    conv => whnf
    refine ⟨fun cz2 => ?_, fun cz2 => ?_⟩
    · replace h := (if_pos cz2).symm.trans h
      conv => whnf
      obtain ⟨r1, hz3, h⟩ := obind h
      refine D30 hz3 ?_
      conv => whnf
      cases h
      exact hk
    · replace h := (if_neg cz2).symm.trans h
      conv => whnf
      cases h
      exact hk
/-- X7_keep -/
noncomputable def d87 (a1 : Int32) (I : jI) : Option (Int32 × jI) :=
  if a1 < 0 then
    some ((-1), I)
  else
    if a1 < 3 then
      if (I 4 1 6) = 0 then
        some ((-4), I)
      else
        (d28 (2 + (Int32.toNatClampNeg a1)) 1 I).bind fun r1 =>
        some (((jup r1 6 0 (Int32.toNatClampNeg a1) (vp_nar .boolean 1)) 4 1 15), (jup r1 6 0 (Int32.toNatClampNeg a1) (vp_nar .boolean 1)))
    else
      some ((-1), I)
set_option maxHeartbeats 4000000 in
set_option maxRecDepth 20000 in
theorem D87 {d : Nat} {k : jK} {a1 : Int32} {I : jI} {L : jL} {r : Int32 × jI} (h : d87 a1 I = some r) (hk : k (some (.inl (.inl r.1))) (r.2, L)) : jPM d 87 [.inr (0, 0), .inl (.inl a1)] (I, L) k := by
  refine pM (fun d n => ?_)
  unfold d87 at h
  refine pn_go [] 400 ?_
  conv => whnf
  refine ⟨fun cz1 => ?_, fun cz1 => ?_⟩
  · replace h := (if_pos cz1).symm.trans h
    conv => whnf
    cases h
    exact hk
  · replace h := (if_neg cz1).symm.trans h
    conv => whnf
    refine ⟨fun cz2 => ?_, fun cz2 => ?_⟩
    · replace h := (if_pos cz2).symm.trans h
      conv => whnf
      refine ⟨fun cz3 => ?_, fun cz3 => ?_⟩
      · replace h := (if_neg cz3).symm.trans h
        conv => whnf
        intro _
        conv => whnf
        obtain ⟨r1, hz4, h⟩ := obind h
        refine D28 hz4 ?_
        conv => whnf
        intro _
        conv => whnf
        cases h
        exact hk
      · replace h := (if_pos cz3).symm.trans h
        conv => whnf
        cases h
        exact hk
    · replace h := (if_neg cz2).symm.trans h
      conv => whnf
      cases h
      exact hk
/-- X7_on -/
noncomputable def d88 (a1 : Int32) (I : jI) : Option (Int32 × jI) :=
  if a1 < 0 then
    some ((-1), I)
  else
    if a1 < 3 then
      if (I 6 0 (Int32.toNatClampNeg a1)) = 0 then
        some (((d113 1 I).1), ((d113 1 I).2))
      else
        (d28 1 (2 + (Int32.toNatClampNeg a1)) I).bind fun r1 =>
        some ((r1 4 1 15), r1)
    else
      some ((-1), I)
set_option maxHeartbeats 4000000 in
set_option maxRecDepth 20000 in
theorem D88 {d : Nat} {k : jK} {a1 : Int32} {I : jI} {L : jL} {r : Int32 × jI} (h : d88 a1 I = some r) (hk : k (some (.inl (.inl r.1))) (r.2, L)) : jPM d 88 [.inr (0, 0), .inl (.inl a1)] (I, L) k := by
  refine pM (fun d n => ?_)
  unfold d88 at h
  refine pn_go [] 400 ?_
  conv => whnf
  refine ⟨fun cz1 => ?_, fun cz1 => ?_⟩
  · replace h := (if_pos cz1).symm.trans h
    conv => whnf
    cases h
    exact hk
  · replace h := (if_neg cz1).symm.trans h
    conv => whnf
    refine ⟨fun cz2 => ?_, fun cz2 => ?_⟩
    · replace h := (if_pos cz2).symm.trans h
      conv => whnf
      intro _
      conv => whnf
      refine ⟨fun cz3 => ?_, fun cz3 => ?_⟩
      · replace h := (if_neg cz3).symm.trans h
        conv => whnf
        intro _
        conv => whnf
        obtain ⟨r1, hz4, h⟩ := obind h
        refine D28 hz4 ?_
        conv => whnf
        cases h
        exact hk
      · replace h := (if_pos cz3).symm.trans h
        conv => whnf
        refine D113 rfl ?_
        conv => whnf
        cases h
        exact hk
    · replace h := (if_neg cz2).symm.trans h
      conv => whnf
      cases h
      exact hk
end
section
/-- J6_compare_7cf53 -/
noncomputable def d0 (a0 : Int32) (a1 : Int32) (I : jI) : Int32 :=
  if a1 ≤ a0 then
    if a0 = a1 then
      0
    else
      1
  else
    (-1)
/-- X0_fill, loop at 2 -/
noncomputable def d49_2 (y1 : Nat) (y2 : Int32) : Nat → Int32 → jI → Option (jI)
  | 0, _, _ => none
  | F + 1, x3, I =>
    if y2 < x3 then
      some I
    else
      if x3 = 0 then
        d49_2 y1 y2 F (x3 + 1) (jup I 25 (Int32.toNatClampNeg (I 4 y1 6)) (Int32.toNatClampNeg x3) 0)
      else
        d49_2 y1 y2 F (x3 + 1) (jup I 25 (Int32.toNatClampNeg (I 4 y1 6)) (Int32.toNatClampNeg x3) 1000000)
set_option maxHeartbeats 4000000 in
set_option maxRecDepth 20000 in
theorem L49_2 {d n : Nat} {k : jK} {y1 : Nat} {y2 : Int32} {L : jL} : ∀ (F : Nat) (x3 : Int32) (I : jI) (e4 : Option jV) (r : jI), d49_2 y1 y2 F x3 I = some r → (∀ (f3 f4 : Option jV), pn (jPM d) k none (jco 49) n (34, [some (.inr (8, 0)), some (.inr (4, y1)), some (.inl (.inl y2)), f3, f4], [], r, L)) → pn (jPM d) k none (jco 49) n (2, [some (.inr (8, 0)), some (.inr (4, y1)), some (.inl (.inl y2)), some (.inl (.inl x3)), e4], [], I, L) := by
  intro F
  induction F with
  | zero => intro x3 I e4 r h hx; cases h
  | succ F ih =>
    intro x3 I e4 r h hx
    rw [d49_2] at h
    refine pn_go [2, 34, 41, 48] 400 ?_
    conv => whnf
    refine ⟨fun cz1 => ?_, fun cz1 => ?_⟩
    · replace h := (if_pos cz1).symm.trans h
      conv => whnf
      cases h
      exact hx _ _
    · replace h := (if_neg cz1).symm.trans h
      conv => whnf
      intro _
      conv => whnf
      refine ⟨fun cz2 => ?_, fun cz2 => ?_⟩
      · replace h := (if_neg cz2).symm.trans h
        conv => whnf
        intro _
        conv => whnf
        exact ih _ _ _ r h hx
      · replace h := (if_pos cz2).symm.trans h
        conv => whnf
        intro _
        conv => whnf
        exact ih _ _ _ r h hx
/-- X0_leftBehind -/
noncomputable def d52 (a0 : Nat) (a1 : Int32) (a2 : Int32) (a3 : Int32) (I : jI) : Int32 :=
  (if 0 < (a3 - (a2 * (d36 a0 a1 I))) then (a3 - (a2 * (d36 a0 a1 I))) else 0)
set_option maxHeartbeats 4000000 in
set_option maxRecDepth 20000 in
theorem D52 {d : Nat} {k : jK} {a0 : Nat} {a1 : Int32} {a2 : Int32} {a3 : Int32} {I : jI} {L : jL} {r : Int32} (h : d52 a0 a1 a2 a3 I = r) (hk : k (some (.inl (.inl r))) (I, L)) : jPM d 52 [.inr (4, a0), .inl (.inl a1), .inl (.inl a2), .inl (.inl a3)] (I, L) k := by
  refine pM (fun d n => ?_)
  unfold d52 at h
  refine pn_go [] 400 ?_
  conv => whnf
  refine D36 rfl ?_
  conv => whnf
  subst h
  exact hk
/-- X0_penniesWith -/
noncomputable def d51 (a1 : Nat) (a2 : Int32) (a3 : Int32) (a4 : Int32) (I : jI) : Int32 :=
  ((d35 a1 a2 a3 I) + (I 25 (Int32.toNatClampNeg (a2 + 1)) (Int32.toNatClampNeg (d52 a1 a2 a3 a4 I))))
set_option maxHeartbeats 4000000 in
set_option maxRecDepth 20000 in
theorem D51 {d : Nat} {k : jK} {a1 : Nat} {a2 : Int32} {a3 : Int32} {a4 : Int32} {I : jI} {L : jL} {r : Int32} (h : d51 a1 a2 a3 a4 I = r) (hk : k (some (.inl (.inl r))) (I, L)) : jPM d 51 [.inr (8, 0), .inr (4, a1), .inl (.inl a2), .inl (.inl a3), .inl (.inl a4)] (I, L) k := by
  refine pM (fun d n => ?_)
  unfold d51 at h
  refine pn_go [] 400 ?_
  conv => whnf
  refine D35 rfl ?_
  conv => whnf
  intro _
  conv => whnf
  refine D52 rfl ?_
  conv => whnf
  intro _
  conv => whnf
  subst h
  exact hk
/-- X0_leastFrom, loop at 7 -/
noncomputable def d50_7 (y1 : Nat) (y2 : Int32) (y3 : Int32) (I : jI) : Nat → Int32 → Int32 → Option (Int32)
  | 0, _, _ => none
  | F + 1, x4, x5 =>
    if 3 < x5 then
      some x4
    else
      d50_7 y1 y2 y3 I F (if (d51 y1 y2 x5 y3 I) < x4 then (d51 y1 y2 x5 y3 I) else x4) (x5 + 1)
set_option maxHeartbeats 4000000 in
set_option maxRecDepth 20000 in
theorem L50_7 {d n : Nat} {k : jK} {y1 : Nat} {y2 : Int32} {y3 : Int32} {I : jI} {L : jL} : ∀ (F : Nat) (x4 : Int32) (x5 : Int32) (r : Int32), d50_7 y1 y2 y3 I F x4 x5 = some r → (∀ (f5 : Option jV), pn (jPM d) k none (jco 50) n (35, [some (.inr (8, 0)), some (.inr (4, y1)), some (.inl (.inl y2)), some (.inl (.inl y3)), some (.inl (.inl r)), f5], [], I, L)) → pn (jPM d) k none (jco 50) n (7, [some (.inr (8, 0)), some (.inr (4, y1)), some (.inl (.inl y2)), some (.inl (.inl y3)), some (.inl (.inl x4)), some (.inl (.inl x5))], [], I, L) := by
  intro F
  induction F with
  | zero => intro x4 x5 r h hx; cases h
  | succ F ih =>
    intro x4 x5 r h hx
    rw [d50_7] at h
    refine pn_go [7, 35] 400 ?_
    conv => whnf
    refine ⟨fun cz1 => ?_, fun cz1 => ?_⟩
    · replace h := (if_pos cz1).symm.trans h
      conv => whnf
      cases h
      exact hx _
    · replace h := (if_neg cz1).symm.trans h
      conv => whnf
      refine D51 rfl ?_
      conv => whnf
      exact ih _ _ r h hx
/-- X0_leastFrom -/
noncomputable def d50 (a1 : Nat) (a2 : Int32) (a3 : Int32) (I : jI) : Option (Int32) :=
  (d50_7 a1 a2 a3 I 70 1000000 0).bind fun r1 =>
  some r1
set_option maxHeartbeats 4000000 in
set_option maxRecDepth 20000 in
theorem D50 {d : Nat} {k : jK} {a1 : Nat} {a2 : Int32} {a3 : Int32} {I : jI} {L : jL} {r : Int32} (h : d50 a1 a2 a3 I = some r) (hk : k (some (.inl (.inl r))) (I, L)) : jPM d 50 [.inr (8, 0), .inr (4, a1), .inl (.inl a2), .inl (.inl a3)] (I, L) k := by
  refine pM (fun d n => ?_)
  unfold d50 at h
  refine pn_go [7] 400 ?_
  conv => whnf
  obtain ⟨r1, hz1, h⟩ := obind h
  refine L50_7 _ _ _ _ hz1 (fun e5_r1 => ?_)
  refine pn_go [7] 400 ?_
  conv => whnf
  cases h
  exact hk
/-- X0_fill, loop at 48 -/
noncomputable def d49_48 (y1 : Nat) (y2 : Int32) (y3 : Int32) : Nat → Int32 → jI → Option (jI)
  | 0, _, _ => none
  | F + 1, x4, I =>
    if y2 < x4 then
      some I
    else
      (d50 y1 y3 x4 I).bind fun r2 =>
      d49_48 y1 y2 y3 F (x4 + 1) (jup I 25 (Int32.toNatClampNeg y3) (Int32.toNatClampNeg x4) r2)
set_option maxHeartbeats 4000000 in
set_option maxRecDepth 20000 in
theorem L49_48 {d n : Nat} {k : jK} {y1 : Nat} {y2 : Int32} {y3 : Int32} {L : jL} : ∀ (F : Nat) (x4 : Int32) (I : jI) (r : jI), d49_48 y1 y2 y3 F x4 I = some r → (∀ (f4 : Option jV), pn (jPM d) k none (jco 49) n (77, [some (.inr (8, 0)), some (.inr (4, y1)), some (.inl (.inl y2)), some (.inl (.inl y3)), f4], [], r, L)) → pn (jPM d) k none (jco 49) n (48, [some (.inr (8, 0)), some (.inr (4, y1)), some (.inl (.inl y2)), some (.inl (.inl y3)), some (.inl (.inl x4))], [], I, L) := by
  intro F
  induction F with
  | zero => intro x4 I r h hx; cases h
  | succ F ih =>
    intro x4 I r h hx
    rw [d49_48] at h
    refine pn_go [2, 41, 48, 77] 400 ?_
    conv => whnf
    refine ⟨fun cz1 => ?_, fun cz1 => ?_⟩
    · replace h := (if_pos cz1).symm.trans h
      conv => whnf
      cases h
      exact hx _
    · replace h := (if_neg cz1).symm.trans h
      conv => whnf
      intro _
      conv => whnf
      obtain ⟨r2, hz2, h⟩ := obind h
      refine D50 hz2 ?_
      conv => whnf
      intro _
      conv => whnf
      exact ih _ _ r h hx
/-- X0_fill, loop at 41 -/
noncomputable def d49_41 (y1 : Nat) (y2 : Int32) : Nat → Int32 → jI → Option (jI)
  | 0, _, _ => none
  | F + 1, x3, I =>
    if x3 < 0 then
      some I
    else
      (d49_48 y1 y2 x3 70 0 I).bind fun r3 =>
      d49_41 y1 y2 F (x3 + (-1)) r3
set_option maxHeartbeats 4000000 in
set_option maxRecDepth 20000 in
theorem L49_41 {d n : Nat} {k : jK} {y1 : Nat} {y2 : Int32} {L : jL} : ∀ (F : Nat) (x3 : Int32) (I : jI) (e4 : Option jV) (r : jI), d49_41 y1 y2 F x3 I = some r → (∀ (f3 f4 : Option jV), pn (jPM d) k none (jco 49) n (83, [some (.inr (8, 0)), some (.inr (4, y1)), some (.inl (.inl y2)), f3, f4], [], r, L)) → pn (jPM d) k none (jco 49) n (41, [some (.inr (8, 0)), some (.inr (4, y1)), some (.inl (.inl y2)), some (.inl (.inl x3)), e4], [], I, L) := by
  intro F
  induction F with
  | zero => intro x3 I e4 r h hx; cases h
  | succ F ih =>
    intro x3 I e4 r h hx
    rw [d49_41] at h
    refine pn_go [2, 41, 48, 83] 400 ?_
    conv => whnf
    refine ⟨fun cz1 => ?_, fun cz1 => ?_⟩
    · replace h := (if_pos cz1).symm.trans h
      conv => whnf
      cases h
      exact hx _ _
    · replace h := (if_neg cz1).symm.trans h
      conv => whnf
      obtain ⟨r3, hz2, h⟩ := obind h
      refine L49_48 _ _ _ _ hz2 (fun e4_r3 => ?_)
      refine pn_go [2, 41, 48, 83] 400 ?_
      conv => whnf
      exact ih _ _ _ r h hx
/-- X0_fill -/
noncomputable def d49 (a1 : Nat) (a2 : Int32) (I : jI) : Option (Int32 × jI) :=
  (d49_2 a1 a2 70 0 I).bind fun r1 =>
  (d49_41 a1 a2 70 ((r1 4 a1 6) - 1) r1).bind fun r4 =>
  some ((r4 25 (Int32.toNatClampNeg 0) (Int32.toNatClampNeg a2)), r4)
set_option maxHeartbeats 4000000 in
set_option maxRecDepth 20000 in
theorem D49 {d : Nat} {k : jK} {a1 : Nat} {a2 : Int32} {I : jI} {L : jL} {r : Int32 × jI} (h : d49 a1 a2 I = some r) (hk : k (some (.inl (.inl r.1))) (r.2, L)) : jPM d 49 [.inr (8, 0), .inr (4, a1), .inl (.inl a2)] (I, L) k := by
  refine pM (fun d n => ?_)
  unfold d49 at h
  refine pn_go [2, 41, 48] 400 ?_
  conv => whnf
  obtain ⟨r1, hz1, h⟩ := obind h
  refine L49_2 _ _ _ _ _ hz1 (fun e3_r1 e4_r1 => ?_)
  refine pn_go [2, 41, 48] 400 ?_
  conv => whnf
  obtain ⟨r4, hz2, h⟩ := obind h
  refine L49_41 _ _ _ _ _ hz2 (fun e3_r4 e4_r4 => ?_)
  refine pn_go [2, 41, 48] 400 ?_
  conv => whnf
  intro _
  conv => whnf
  intro _
  conv => whnf
  cases h
  exact hk
/-- X0_firstNumber, loop at 3 -/
noncomputable def d53_3 (y1 : Nat) (y2 : Int32) (y3 : Int32) (I : jI) : Nat → Int32 → Option (Int32)
  | 0, _ => none
  | F + 1, x4 =>
    if 3 ≤ x4 then
      some x4
    else
      if (d51 y1 y2 x4 y3 I) = (I 25 (Int32.toNatClampNeg y2) (Int32.toNatClampNeg y3)) then
        some x4
      else
        d53_3 y1 y2 y3 I F (x4 + 1)
set_option maxHeartbeats 4000000 in
set_option maxRecDepth 20000 in
theorem L53_3 {d n : Nat} {k : jK} {y1 : Nat} {y2 : Int32} {y3 : Int32} {I : jI} {L : jL} : ∀ (F : Nat) (x4 : Int32) (r : Int32), d53_3 y1 y2 y3 I F x4 = some r → (pn (jPM d) k none (jco 53) n (35, [some (.inr (8, 0)), some (.inr (4, y1)), some (.inl (.inl y2)), some (.inl (.inl y3)), some (.inl (.inl r))], [], I, L)) → pn (jPM d) k none (jco 53) n (3, [some (.inr (8, 0)), some (.inr (4, y1)), some (.inl (.inl y2)), some (.inl (.inl y3)), some (.inl (.inl x4))], [], I, L) := by
  intro F
  induction F with
  | zero => intro x4 r h hx; cases h
  | succ F ih =>
    intro x4 r h hx
    rw [d53_3] at h
    refine pn_go [3, 35] 400 ?_
    conv => whnf
    refine ⟨fun cz1 => ?_, fun cz1 => ?_⟩
    · replace h := (if_pos cz1).symm.trans h
      conv => whnf
      cases h
      exact hx
    · replace h := (if_neg cz1).symm.trans h
      conv => whnf
      refine D51 rfl ?_
      conv => whnf
      intro _
      conv => whnf
      intro _
      conv => whnf
      refine ⟨fun cz2 => ?_, fun cz2 => ?_⟩
      · replace h := (if_pos cz2).symm.trans h
        conv => whnf
        cases h
        exact hx
      · replace h := (if_neg cz2).symm.trans h
        conv => whnf
        exact ih _ r h hx
/-- X0_firstNumber -/
noncomputable def d53 (a1 : Nat) (a2 : Int32) (a3 : Int32) (I : jI) : Option (Int32) :=
  (d53_3 a1 a2 a3 I 70 0).bind fun r1 =>
  some r1
set_option maxHeartbeats 4000000 in
set_option maxRecDepth 20000 in
theorem D53 {d : Nat} {k : jK} {a1 : Nat} {a2 : Int32} {a3 : Int32} {I : jI} {L : jL} {r : Int32} (h : d53 a1 a2 a3 I = some r) (hk : k (some (.inl (.inl r))) (I, L)) : jPM d 53 [.inr (8, 0), .inr (4, a1), .inl (.inl a2), .inl (.inl a3)] (I, L) k := by
  refine pM (fun d n => ?_)
  unfold d53 at h
  refine pn_go [3] 400 ?_
  conv => whnf
  obtain ⟨r1, hz1, h⟩ := obind h
  refine L53_3 _ _ _ hz1 ?_
  refine pn_go [3] 400 ?_
  conv => whnf
  cases h
  exact hk
/-- X7_least, loop at 80 -/
noncomputable def d93_80 (y2 : Int32) (y3 : Int32) : Nat → Int32 → Int32 → jI → Option (jI)
  | 0, _, _, _ => none
  | F + 1, x4, x5, I =>
    if (I 4 1 6) ≤ x5 then
      some I
    else
      (d53 1 x5 x4 I).bind fun r3 =>
      d93_80 y2 y3 F (d52 1 x5 r3 x4 (d19g1 y2 x5 r3 I)) (x5 + 1) (d19g1 y2 x5 r3 I)
set_option maxHeartbeats 4000000 in
set_option maxRecDepth 20000 in
theorem L93_80 {d n : Nat} {k : jK} {y2 : Int32} {y3 : Int32} {L : jL} : ∀ (F : Nat) (x4 : Int32) (x5 : Int32) (I : jI) (e1 e6 : Option jV) (r : jI), d93_80 y2 y3 F x4 x5 I = some r → (∀ (f1 f4 f5 f6 : Option jV), pn (jPM d) k none (jco 93) n (142, [some (.inr (0, 0)), f1, some (.inl (.inl y2)), some (.inl (.inl y3)), f4, f5, f6], [], r, L)) → pn (jPM d) k none (jco 93) n (80, [some (.inr (0, 0)), e1, some (.inl (.inl y2)), some (.inl (.inl y3)), some (.inl (.inl x4)), some (.inl (.inl x5)), e6], [], I, L) := by
  intro F
  induction F with
  | zero => intro x4 x5 I e1 e6 r h hx; cases h
  | succ F ih =>
    intro x4 x5 I e1 e6 r h hx
    rw [d93_80] at h
    refine pn_go [80, 142] 400 ?_
    conv => whnf
    refine ⟨fun cz1 => ?_, fun cz1 => ?_⟩
    · replace h := (if_pos cz1).symm.trans h
      conv => whnf
      cases h
      exact hx _ _ _ _
    · replace h := (if_neg cz1).symm.trans h
      conv => whnf
      obtain ⟨r3, hz2, h⟩ := obind h
      refine D53 hz2 ?_
      conv => whnf
      refine D19g1 rfl ?_
      conv => whnf
      refine D52 rfl ?_
      conv => whnf
      exact ih _ _ _ _ _ r h hx
/-- X7_least -/
noncomputable def d93 (a1 : Int32) (a2 : Int32) (I : jI) : Option (Int32 × jI) :=
  if a1 < 0 then
    some ((-1), I)
  else
    if 30 < a1 then
      some ((-1), I)
    else
      if (d15g1 a2 I) = 0 then
        some ((-1), I)
      else
        if (I 4 1 6) = 0 then
          some ((-4), I)
        else
          (d49 1 a1 I).bind fun r1 =>
          if r1.1 < 1000000 then
            (d20g1 a2 (r1.2 4 1 6) 0 r1.2).bind fun r2 =>
            (d93_80 a2 r1.1 70 a1 0 r2).bind fun r4 =>
            some (r1.1, r4)
          else
            some ((-9), r1.2)
set_option maxHeartbeats 4000000 in
set_option maxRecDepth 20000 in
theorem D93 {d : Nat} {k : jK} {a1 : Int32} {a2 : Int32} {I : jI} {L : jL} {r : Int32 × jI} (h : d93 a1 a2 I = some r) (hk : k (some (.inl (.inl r.1))) (r.2, L)) : jPM d 93 [.inr (0, 0), .inl (.inl a1), .inl (.inl a2)] (I, L) k := by
  refine pM (fun d n => ?_)
  unfold d93 at h
  refine pn_go [80] 400 ?_
  conv => whnf
  refine ⟨fun cz1 => ?_, fun cz1 => ?_⟩
  · replace h := (if_pos cz1).symm.trans h
    conv => whnf
    cases h
    exact hk
  · replace h := (if_neg cz1).symm.trans h
    conv => whnf
    refine ⟨fun cz2 => ?_, fun cz2 => ?_⟩
    · replace h := (if_pos cz2).symm.trans h
      conv => whnf
      cases h
      exact hk
    · replace h := (if_neg cz2).symm.trans h
      conv => whnf
      refine D15g1 rfl ?_
      conv => whnf
      refine ⟨fun cz3 => ?_, fun cz3 => ?_⟩
      · replace h := (if_neg cz3).symm.trans h
        conv => whnf
        refine ⟨fun cz4 => ?_, fun cz4 => ?_⟩
        · replace h := (if_neg cz4).symm.trans h
          conv => whnf
          obtain ⟨r1, hz5, h⟩ := obind h
          refine D49 hz5 ?_
          conv => whnf
          refine ⟨fun cz6 => ?_, fun cz6 => ?_⟩
          · replace h := (if_pos cz6).symm.trans h
            conv => whnf
            obtain ⟨r2, hz7, h⟩ := obind h
            refine D20g1 hz7 ?_
            conv => whnf
            obtain ⟨r4, hz8, h⟩ := obind h
            refine L93_80 _ _ _ _ _ _ _ hz8 (fun e1_r4 e4_r4 e5_r4 e6_r4 => ?_)
            refine pn_go [80] 400 ?_
            conv => whnf
            cases h
            exact hk
          · replace h := (if_neg cz6).symm.trans h
            conv => whnf
            cases h
            exact hk
        · replace h := (if_pos cz4).symm.trans h
          conv => whnf
          cases h
          exact hk
      · replace h := (if_pos cz3).symm.trans h
        conv => whnf
        cases h
        exact hk
end
section
/-- X4_search -/
noncomputable def d54 (a1 : Nat) (a2 : Int32) (I : jI) : Option (jI) :=
  (d55r 6 a1 0 0 0 (d11 (7 + (Int32.toNatClampNeg 0)) a1 (jup (jup (jup I 9 0 3 (if 3 < a2 then 3 else a2)) 9 0 4 1000000) 9 0 5 1000000))).bind fun r1 =>
  some r1
set_option maxHeartbeats 4000000 in
set_option maxRecDepth 20000 in
theorem D54 {d : Nat} {k : jK} {a1 : Nat} {a2 : Int32} {I : jI} {L : jL} {r : jI} (h : d54 a1 a2 I = some r) (hk : k none (r, L)) : jPM d 54 [.inr (9, 0), .inr (4, a1), .inl (.inl a2)] (I, L) k := by
  refine pM (fun d n => ?_)
  unfold d54 at h
  refine pn_go [] 400 ?_
  conv => whnf
  intro _
  conv => whnf
  refine D11 rfl ?_
  conv => whnf
  obtain ⟨r1, hz1, h⟩ := obind h
  refine D55r 6 hz1 ?_
  conv => whnf
  cases h
  exact hk
/-- X7_weeks, loop at 74 -/
noncomputable def d94_74 (y1 : Int32) (y2 : Int32) : Nat → Int32 → jI → Option (jI)
  | 0, _, _ => none
  | F + 1, x3, I =>
    if y1 ≤ x3 then
      some I
    else
      d94_74 y1 y2 F (x3 + 1) (d19g1 y2 x3 (I 28 0 (Int32.toNatClampNeg x3)) I)
set_option maxHeartbeats 4000000 in
set_option maxRecDepth 20000 in
theorem L94_74 {d n : Nat} {k : jK} {y1 : Int32} {y2 : Int32} {L : jL} : ∀ (F : Nat) (x3 : Int32) (I : jI) (r : jI), d94_74 y1 y2 F x3 I = some r → (∀ (f3 : Option jV), pn (jPM d) k none (jco 94) n (103, [some (.inr (0, 0)), some (.inl (.inl y1)), some (.inl (.inl y2)), f3], [], r, L)) → pn (jPM d) k none (jco 94) n (74, [some (.inr (0, 0)), some (.inl (.inl y1)), some (.inl (.inl y2)), some (.inl (.inl x3))], [], I, L) := by
  intro F
  induction F with
  | zero => intro x3 I r h hx; cases h
  | succ F ih =>
    intro x3 I r h hx
    rw [d94_74] at h
    refine pn_go [74, 103] 400 ?_
    conv => whnf
    refine ⟨fun cz1 => ?_, fun cz1 => ?_⟩
    · replace h := (if_pos cz1).symm.trans h
      conv => whnf
      cases h
      exact hx _
    · replace h := (if_neg cz1).symm.trans h
      conv => whnf
      intro _
      conv => whnf
      refine D19g1 rfl ?_
      conv => whnf
      exact ih _ _ r h hx
/-- X7_weeks -/
noncomputable def d94 (a1 : Int32) (a2 : Int32) (I : jI) : Option (Int32 × jI) :=
  if a1 < 0 then
    some ((-1), I)
  else
    if 3 < a1 then
      some ((-1), I)
    else
      if (d15g1 a2 I) = 0 then
        some ((-1), I)
      else
        if (I 4 1 6) = 0 then
          some ((-4), I)
        else
          (d54 1 a1 I).bind fun r1 =>
          if (r1 9 0 4) < 1000000 then
            (d20g1 a2 a1 0 r1).bind fun r2 =>
            (d94_74 a1 a2 70 0 r2).bind fun r3 =>
            some ((r3 9 0 4), r3)
          else
            some ((-9), r1)
set_option maxHeartbeats 4000000 in
set_option maxRecDepth 20000 in
theorem D94 {d : Nat} {k : jK} {a1 : Int32} {a2 : Int32} {I : jI} {L : jL} {r : Int32 × jI} (h : d94 a1 a2 I = some r) (hk : k (some (.inl (.inl r.1))) (r.2, L)) : jPM d 94 [.inr (0, 0), .inl (.inl a1), .inl (.inl a2)] (I, L) k := by
  refine pM (fun d n => ?_)
  unfold d94 at h
  refine pn_go [74] 400 ?_
  conv => whnf
  refine ⟨fun cz1 => ?_, fun cz1 => ?_⟩
  · replace h := (if_pos cz1).symm.trans h
    conv => whnf
    cases h
    exact hk
  · replace h := (if_neg cz1).symm.trans h
    conv => whnf
    refine ⟨fun cz2 => ?_, fun cz2 => ?_⟩
    · replace h := (if_pos cz2).symm.trans h
      conv => whnf
      cases h
      exact hk
    · replace h := (if_neg cz2).symm.trans h
      conv => whnf
      refine D15g1 rfl ?_
      conv => whnf
      refine ⟨fun cz3 => ?_, fun cz3 => ?_⟩
      · replace h := (if_neg cz3).symm.trans h
        conv => whnf
        refine ⟨fun cz4 => ?_, fun cz4 => ?_⟩
        · replace h := (if_neg cz4).symm.trans h
          conv => whnf
          obtain ⟨r1, hz5, h⟩ := obind h
          refine D54 hz5 ?_
          conv => whnf
          refine ⟨fun cz6 => ?_, fun cz6 => ?_⟩
          · replace h := (if_pos cz6).symm.trans h
            conv => whnf
            obtain ⟨r2, hz7, h⟩ := obind h
            refine D20g1 hz7 ?_
            conv => whnf
            obtain ⟨r3, hz8, h⟩ := obind h
            refine L94_74 _ _ _ _ hz8 (fun e3_r3 => ?_)
            refine pn_go [74] 400 ?_
            conv => whnf
            cases h
            exact hk
          · replace h := (if_neg cz6).symm.trans h
            conv => whnf
            cases h
            exact hk
        · replace h := (if_pos cz4).symm.trans h
          conv => whnf
          cases h
          exact hk
      · replace h := (if_pos cz3).symm.trans h
        conv => whnf
        cases h
        exact hk
/-- X7_troubleOfPairs, loop at 38 -/
noncomputable def d118_38 (y1 : Int32) (y2 : Int32) (I : jI) : Nat → Int32 → Option ((Int32) ⊕ (Unit))
  | 0, _ => none
  | F + 1, x3 =>
    if y2 ≤ (x3 + 1) then
      some (.inr ())
    else
      if (d18g1 y1 x3 I) < 0 then
        some (.inl 3)
      else
        if 20 < (d18g1 y1 x3 I) then
          some (.inl 3)
        else
          if 0 ≤ (d18g1 y1 (x3 + 1) I) then
            d118_38 y1 y2 I F (x3 + 2)
          else
            some (.inl 3)
set_option maxHeartbeats 4000000 in
set_option maxRecDepth 20000 in
theorem L118_38 {d n : Nat} {k : jK} {y1 : Int32} {y2 : Int32} {I : jI} {L : jL} : ∀ (F : Nat) (x3 : Int32) (e4 : Option jV) (r : (Int32) ⊕ (Unit)), d118_38 y1 y2 I F x3 = some r → ((∀ q, r = .inl q → k (some (.inl (.inl q))) (I, L)) ∧ (∀ q, r = .inr q → ∀ (f3 f4 : Option jV), pn (jPM d) k none (jco 118) n (90, [some (.inr (0, 0)), some (.inl (.inl y1)), some (.inl (.inl y2)), f3, f4], [], I, L))) → pn (jPM d) k none (jco 118) n (38, [some (.inr (0, 0)), some (.inl (.inl y1)), some (.inl (.inl y2)), some (.inl (.inl x3)), e4], [], I, L) := by
  intro F
  induction F with
  | zero => intro x3 e4 r h hx; cases h
  | succ F ih =>
    intro x3 e4 r h hx
    rw [d118_38] at h
    refine pn_go [38, 90] 400 ?_
    conv => whnf
    refine ⟨fun cz1 => ?_, fun cz1 => ?_⟩
    · replace h := (if_pos cz1).symm.trans h
      conv => whnf
      cases h
      exact hx.2 _ rfl _ _
    · replace h := (if_neg cz1).symm.trans h
      conv => whnf
      refine D18g1 rfl ?_
      conv => whnf
      refine ⟨fun cz2 => ?_, fun cz2 => ?_⟩
      · replace h := (if_pos cz2).symm.trans h
        conv => whnf
        cases h
        exact hx.1 _ rfl
      · replace h := (if_neg cz2).symm.trans h
        conv => whnf
        refine ⟨fun cz3 => ?_, fun cz3 => ?_⟩
        · replace h := (if_pos cz3).symm.trans h
          conv => whnf
          cases h
          exact hx.1 _ rfl
        · replace h := (if_neg cz3).symm.trans h
          conv => whnf
          refine D18g1 rfl ?_
          conv => whnf
          refine ⟨fun cz4 => ?_, fun cz4 => ?_⟩
          · replace h := (if_pos cz4).symm.trans h
            conv => whnf
            exact ih _ _ r h hx
          · replace h := (if_neg cz4).symm.trans h
            conv => whnf
            cases h
            exact hx.1 _ rfl
/-- X7_troubleOfPairs -/
noncomputable def d118 (a1 : Int32) (I : jI) : Option (Int32) :=
  if (d16g1 a1 I) = 0 then
    some 1
  else
    if 12 < (d17g1 a1 I) then
      some 5
    else
      if ((d17g1 a1 I) - (d17g1 a1 I) / 2 * 2) = 0 then
        (d118_38 a1 (d17g1 a1 I) I 70 0).bind fun r1 => match r1 with
        | .inl q2 => some q2
        | .inr q2 =>
          some 0
      else
        some 5
set_option maxHeartbeats 4000000 in
set_option maxRecDepth 20000 in
theorem D118 {d : Nat} {k : jK} {a1 : Int32} {I : jI} {L : jL} {r : Int32} (h : d118 a1 I = some r) (hk : k (some (.inl (.inl r))) (I, L)) : jPM d 118 [.inr (0, 0), .inl (.inl a1)] (I, L) k := by
  refine pM (fun d n => ?_)
  unfold d118 at h
  refine pn_go [38] 400 ?_
  conv => whnf
  refine D16g1 rfl ?_
  conv => whnf
  refine ⟨fun cz1 => ?_, fun cz1 => ?_⟩
  · replace h := (if_neg cz1).symm.trans h
    conv => whnf
    refine D17g1 rfl ?_
    conv => whnf
    refine ⟨fun cz2 => ?_, fun cz2 => ?_⟩
    · replace h := (if_pos cz2).symm.trans h
      conv => whnf
      cases h
      exact hk
    · replace h := (if_neg cz2).symm.trans h
      conv => whnf
      intro _
      conv => whnf
      refine ⟨fun cz3 => ?_, fun cz3 => ?_⟩
      · replace h := (if_pos cz3).symm.trans h
        conv => whnf
        obtain ⟨r1, hz4, h⟩ := obind h
        rcases r1 with q2 | q2
        · dsimp only at h
          refine L118_38 _ _ _ _ hz4 ⟨fun q e => ?_, fun q e => by cases e⟩
          cases e
          cases h
          exact hk
        · dsimp only at h
          refine L118_38 _ _ _ _ hz4 ⟨fun q e => (by cases e), fun q e e3_r1 e4_r1 => ?_⟩
          cases e
          refine pn_go [38] 400 ?_
          conv => whnf
          cases h
          exact hk
      · replace h := (if_neg cz3).symm.trans h
        conv => whnf
        cases h
        exact hk
  · replace h := (if_pos cz1).symm.trans h
    conv => whnf
    cases h
    exact hk
/-- X7_fitsPairs, loop at 3 -/
noncomputable def d119_3 (y1 : Int32) (y2 : Int32) (y3 : Int32) (I : jI) : Nat → Int32 → Option ((Int32) ⊕ (Unit))
  | 0, _ => none
  | F + 1, x4 =>
    if (d17g1 y1 I) ≤ (x4 + 1) then
      some (.inr ())
    else
      if (d5 y2 (d18g1 y1 x4 I) y3 (I 4 1 14) I) = (d18g1 y1 (x4 + 1) I) then
        d119_3 y1 y2 y3 I F (x4 + 2)
      else
        some (.inl 0)
set_option maxHeartbeats 4000000 in
set_option maxRecDepth 20000 in
theorem L119_3 {d n : Nat} {k : jK} {y1 : Int32} {y2 : Int32} {y3 : Int32} {I : jI} {L : jL} : ∀ (F : Nat) (x4 : Int32) (r : (Int32) ⊕ (Unit)), d119_3 y1 y2 y3 I F x4 = some r → ((∀ q, r = .inl q → k (some (.inl (.inl q))) (I, L)) ∧ (∀ q, r = .inr q → ∀ (f4 : Option jV), pn (jPM d) k none (jco 119) n (63, [some (.inr (0, 0)), some (.inl (.inl y1)), some (.inl (.inl y2)), some (.inl (.inl y3)), f4], [], I, L))) → pn (jPM d) k none (jco 119) n (3, [some (.inr (0, 0)), some (.inl (.inl y1)), some (.inl (.inl y2)), some (.inl (.inl y3)), some (.inl (.inl x4))], [], I, L) := by
  intro F
  induction F with
  | zero => intro x4 r h hx; cases h
  | succ F ih =>
    intro x4 r h hx
    rw [d119_3] at h
    refine pn_go [3, 63] 400 ?_
    conv => whnf
    refine D17g1 rfl ?_
    conv => whnf
    refine ⟨fun cz1 => ?_, fun cz1 => ?_⟩
    · replace h := (if_pos cz1).symm.trans h
      conv => whnf
      cases h
      exact hx.2 _ rfl _
    · replace h := (if_neg cz1).symm.trans h
      conv => whnf
      refine D18g1 rfl ?_
      conv => whnf
      refine D5 rfl ?_
      conv => whnf
      refine D18g1 rfl ?_
      conv => whnf
      refine ⟨fun cz2 => ?_, fun cz2 => ?_⟩
      · replace h := (if_pos cz2).symm.trans h
        conv => whnf
        exact ih _ r h hx
      · replace h := (if_neg cz2).symm.trans h
        conv => whnf
        cases h
        exact fun _ => hx.1 _ rfl
/-- X7_fitsPairs -/
noncomputable def d119 (a1 : Int32) (a2 : Int32) (a3 : Int32) (I : jI) : Option (Int32) :=
  (d119_3 a1 a2 a3 I 70 0).bind fun r1 => match r1 with
  | .inl q2 => some q2
  | .inr q2 =>
    some 1
set_option maxHeartbeats 4000000 in
set_option maxRecDepth 20000 in
theorem D119 {d : Nat} {k : jK} {a1 : Int32} {a2 : Int32} {a3 : Int32} {I : jI} {L : jL} {r : Int32} (h : d119 a1 a2 a3 I = some r) (hk : k (some (.inl (.inl r))) (I, L)) : jPM d 119 [.inr (0, 0), .inl (.inl a1), .inl (.inl a2), .inl (.inl a3)] (I, L) k := by
  refine pM (fun d n => ?_)
  unfold d119 at h
  refine pn_go [3] 400 ?_
  conv => whnf
  obtain ⟨r1, hz1, h⟩ := obind h
  rcases r1 with q2 | q2
  · dsimp only at h
    refine L119_3 _ _ _ hz1 ⟨fun q e => ?_, fun q e => by cases e⟩
    cases e
    cases h
    exact hk
  · dsimp only at h
    refine L119_3 _ _ _ hz1 ⟨fun q e => (by cases e), fun q e e4_r1 => ?_⟩
    cases e
    refine pn_go [3] 400 ?_
    conv => whnf
    cases h
    exact fun _ => hk
/-- X7_kinds, loop at 46 -/
noncomputable def d99_46 (y1 : Int32) (y2 : Int32) (I : jI) : Nat → Int32 → Int32 → Option (Int32)
  | 0, _, _ => none
  | F + 1, x4, x5 =>
    if 6 ≤ x5 then
      some x4
    else
      (d119 y2 x5 (I 20 1 (Int32.toNatClampNeg y1)) I).bind fun r2 =>
      if r2 = 0 then
        d99_46 y1 y2 I F x4 (x5 + 1)
      else
        d99_46 y1 y2 I F (x4 ||| (1 <<< (x5 &&& 31))) (x5 + 1)
set_option maxHeartbeats 4000000 in
set_option maxRecDepth 20000 in
theorem L99_46 {d n : Nat} {k : jK} {y1 : Int32} {y2 : Int32} {I : jI} {L : jL} : ∀ (F : Nat) (x4 : Int32) (x5 : Int32) (e3 : Option jV) (r : Int32), d99_46 y1 y2 I F x4 x5 = some r → (∀ (f3 f5 : Option jV), pn (jPM d) k none (jco 99) n (87, [some (.inr (0, 0)), some (.inl (.inl y1)), some (.inl (.inl y2)), f3, some (.inl (.inl r)), f5], [], I, L)) → pn (jPM d) k none (jco 99) n (46, [some (.inr (0, 0)), some (.inl (.inl y1)), some (.inl (.inl y2)), e3, some (.inl (.inl x4)), some (.inl (.inl x5))], [], I, L) := by
  intro F
  induction F with
  | zero => intro x4 x5 e3 r h hx; cases h
  | succ F ih =>
    intro x4 x5 e3 r h hx
    rw [d99_46] at h
    refine pn_go [46, 87] 400 ?_
    conv => whnf
    refine ⟨fun cz1 => ?_, fun cz1 => ?_⟩
    · replace h := (if_pos cz1).symm.trans h
      conv => whnf
      cases h
      exact hx _ _
    · replace h := (if_neg cz1).symm.trans h
      conv => whnf
      intro _
      conv => whnf
      obtain ⟨r2, hz2, h⟩ := obind h
      refine D119 hz2 ?_
      conv => whnf
      refine ⟨fun cz3 => ?_, fun cz3 => ?_⟩
      · replace h := (if_pos cz3).symm.trans h
        conv => whnf
        exact ih _ _ _ r h hx
      · replace h := (if_neg cz3).symm.trans h
        conv => whnf
        exact ih _ _ _ r h hx
/-- X7_kinds -/
noncomputable def d99 (a1 : Int32) (a2 : Int32) (I : jI) : Option (Int32 × jI) :=
  if (d31 1 a1 I) = 0 then
    some ((-1), I)
  else
    if (d15g1 a2 I) = 0 then
      some ((-1), I)
    else
      (d118 a2 I).bind fun r1 =>
      if r1 = 0 then
        (d99_46 a1 a2 I 70 0 0).bind fun r3 =>
        some (r3, I)
      else
        some (((d113 r1 I).1), ((d113 r1 I).2))
set_option maxHeartbeats 4000000 in
set_option maxRecDepth 20000 in
theorem D99 {d : Nat} {k : jK} {a1 : Int32} {a2 : Int32} {I : jI} {L : jL} {r : Int32 × jI} (h : d99 a1 a2 I = some r) (hk : k (some (.inl (.inl r.1))) (r.2, L)) : jPM d 99 [.inr (0, 0), .inl (.inl a1), .inl (.inl a2)] (I, L) k := by
  refine pM (fun d n => ?_)
  unfold d99 at h
  refine pn_go [46] 400 ?_
  conv => whnf
  refine D31 rfl ?_
  conv => whnf
  refine ⟨fun cz1 => ?_, fun cz1 => ?_⟩
  · replace h := (if_pos cz1).symm.trans h
    conv => whnf
    cases h
    exact hk
  · replace h := (if_neg cz1).symm.trans h
    conv => whnf
    refine D15g1 rfl ?_
    conv => whnf
    refine ⟨fun cz2 => ?_, fun cz2 => ?_⟩
    · replace h := (if_neg cz2).symm.trans h
      conv => whnf
      obtain ⟨r1, hz3, h⟩ := obind h
      refine D118 hz3 ?_
      conv => whnf
      refine ⟨fun cz4 => ?_, fun cz4 => ?_⟩
      · replace h := (if_pos cz4).symm.trans h
        conv => whnf
        obtain ⟨r3, hz5, h⟩ := obind h
        refine L99_46 _ _ _ _ _ hz5 (fun e3_r3 e5_r3 => ?_)
        refine pn_go [46] 400 ?_
        conv => whnf
        cases h
        exact hk
      · replace h := (if_neg cz4).symm.trans h
        conv => whnf
        refine D113 rfl ?_
        conv => whnf
        cases h
        exact hk
    · replace h := (if_pos cz2).symm.trans h
      conv => whnf
      cases h
      exact hk
end
section
/-- X7_prices, loop at 50 -/
noncomputable def d100_50 (y1 : Int32) (y2 : Int32) (I : jI) : Nat → Int32 → Int32 → Int32 → Option (Int32 × Int32)
  | 0, _, _, _ => none
  | F + 1, x4, x5, x6 =>
    if 99 < x6 then
      some (x4, x5)
    else
      (d119 y2 (I 18 1 (Int32.toNatClampNeg y1)) x6 I).bind fun r2 =>
      if r2 = 0 then
        d100_50 y1 y2 I F x4 x5 (x6 + 1)
      else
        if x5 = (-9) then
          d100_50 y1 y2 I F (x4 + 1) x6 (x6 + 1)
        else
          d100_50 y1 y2 I F (x4 + 1) x5 (x6 + 1)
set_option maxHeartbeats 4000000 in
set_option maxRecDepth 20000 in
theorem L100_50 {d n : Nat} {k : jK} {y1 : Int32} {y2 : Int32} {I : jI} {L : jL} : ∀ (F : Nat) (x4 : Int32) (x5 : Int32) (x6 : Int32) (e3 : Option jV) (r : Int32 × Int32), d100_50 y1 y2 I F x4 x5 x6 = some r → (∀ (f3 f6 : Option jV), pn (jPM d) k none (jco 100) n (101, [some (.inr (0, 0)), some (.inl (.inl y1)), some (.inl (.inl y2)), f3, some (.inl (.inl r.1)), some (.inl (.inl r.2)), f6], [], I, L)) → pn (jPM d) k none (jco 100) n (50, [some (.inr (0, 0)), some (.inl (.inl y1)), some (.inl (.inl y2)), e3, some (.inl (.inl x4)), some (.inl (.inl x5)), some (.inl (.inl x6))], [], I, L) := by
  intro F
  induction F with
  | zero => intro x4 x5 x6 e3 r h hx; cases h
  | succ F ih =>
    intro x4 x5 x6 e3 r h hx
    rw [d100_50] at h
    refine pn_go [50, 101] 400 ?_
    conv => whnf
    refine ⟨fun cz1 => ?_, fun cz1 => ?_⟩
    · replace h := (if_pos cz1).symm.trans h
      conv => whnf
      cases h
      exact hx _ _
    · replace h := (if_neg cz1).symm.trans h
      conv => whnf
      intro _
      conv => whnf
      obtain ⟨r2, hz2, h⟩ := obind h
      refine D119 hz2 ?_
      conv => whnf
      refine ⟨fun cz3 => ?_, fun cz3 => ?_⟩
      · replace h := (if_pos cz3).symm.trans h
        conv => whnf
        exact ih _ _ _ _ r h hx
      · replace h := (if_neg cz3).symm.trans h
        conv => whnf
        refine ⟨fun cz4 => ?_, fun cz4 => ?_⟩
        · replace h := (if_neg cz4).symm.trans h
          conv => whnf
          exact ih _ _ _ _ r h hx
        · replace h := (if_pos cz4).symm.trans h
          conv => whnf
          exact ih _ _ _ _ r h hx
/-- X7_prices -/
noncomputable def d100 (a1 : Int32) (a2 : Int32) (I : jI) : Option (Int32 × jI) :=
  if (d31 1 a1 I) = 0 then
    some ((-1), I)
  else
    if (d15g1 a2 I) = 0 then
      some ((-1), I)
    else
      (d118 a2 I).bind fun r1 =>
      if r1 = 0 then
        (d100_50 a1 a2 I 120 0 (-9) 0).bind fun r3 =>
        some (r3.1, (jup I 0 0 14 r3.2))
      else
        some (((d113 r1 I).1), ((d113 r1 I).2))
set_option maxHeartbeats 4000000 in
set_option maxRecDepth 20000 in
theorem D100 {d : Nat} {k : jK} {a1 : Int32} {a2 : Int32} {I : jI} {L : jL} {r : Int32 × jI} (h : d100 a1 a2 I = some r) (hk : k (some (.inl (.inl r.1))) (r.2, L)) : jPM d 100 [.inr (0, 0), .inl (.inl a1), .inl (.inl a2)] (I, L) k := by
  refine pM (fun d n => ?_)
  unfold d100 at h
  refine pn_go [50] 400 ?_
  conv => whnf
  refine D31 rfl ?_
  conv => whnf
  refine ⟨fun cz1 => ?_, fun cz1 => ?_⟩
  · replace h := (if_pos cz1).symm.trans h
    conv => whnf
    cases h
    exact hk
  · replace h := (if_neg cz1).symm.trans h
    conv => whnf
    refine D15g1 rfl ?_
    conv => whnf
    refine ⟨fun cz2 => ?_, fun cz2 => ?_⟩
    · replace h := (if_neg cz2).symm.trans h
      conv => whnf
      obtain ⟨r1, hz3, h⟩ := obind h
      refine D118 hz3 ?_
      conv => whnf
      refine ⟨fun cz4 => ?_, fun cz4 => ?_⟩
      · replace h := (if_pos cz4).symm.trans h
        conv => whnf
        obtain ⟨r3, hz5, h⟩ := obind h
        refine L100_50 _ _ _ _ _ _ hz5 (fun e3_r3 e6_r3 => ?_)
        refine pn_go [50] 400 ?_
        conv => whnf
        cases h
        exact hk
      · replace h := (if_neg cz4).symm.trans h
        conv => whnf
        refine D113 rfl ?_
        conv => whnf
        cases h
        exact hk
    · replace h := (if_pos cz2).symm.trans h
      conv => whnf
      cases h
      exact hk
/-- J7_fill_d0a16, loop at 6 -/
noncomputable def d1g11_6 (y1 : Int64) (y4 : Int32) (I : jI) : Nat → Int32 → jL → Option (jL)
  | 0, _, _ => none
  | F + 1, x3, L =>
    if y4 ≤ x3 then
      some L
    else
      d1g11_6 y1 y4 I F (x3 + 1) (jupL L 11 0 (Int32.toNatClampNeg x3) y1)
/-- J7_fill_d0a16 -/
noncomputable def d1g11 (a1 : Int64) (I : jI) (L : jL) : Option (jL) :=
  (d1g11_6 a1 (nI 55) I 70 0 L).bind fun r1 =>
  some r1
/-- X7_weighWays, loop at 53 -/
noncomputable def d122_53 (y1 : Int32) (y2 : Int64) (y4 : Int32) (y5 : Int32) (I : jI) : Nat → Int32 → jL → Option (jL)
  | 0, _, _ => none
  | F + 1, x6, L =>
    if x6 < 0 then
      some L
    else
      if x6 < y5 then
        d122_53 y1 y2 y4 y5 I F (x6 + (-1)) (jupL L 11 0 (Int32.toNatClampNeg x6) (((L 11 0 (Int32.toNatClampNeg x6)) * (Int32.toInt64 y1)) + (0 * (Int32.toInt64 (12 - y1)))))
      else
        d122_53 y1 y2 y4 y5 I F (x6 + (-1)) (jupL L 11 0 (Int32.toNatClampNeg x6) (((L 11 0 (Int32.toNatClampNeg x6)) * (Int32.toInt64 y1)) + ((L 11 0 (Int32.toNatClampNeg (x6 - y5))) * (Int32.toInt64 (12 - y1)))))
/-- X7_weighWays, loop at 20 -/
noncomputable def d122_20 (y1 : Int32) (I : jI) : Nat → Int64 → Int32 → jL → Option (Int64 × jL)
  | 0, _, _, _ => none
  | F + 1, x2, x4, L =>
    if (I 4 1 6) ≤ x4 then
      some (x2, L)
    else
      (d122_53 y1 (x2 * 12) x4 (d36 1 x4 I) I 70 54 L).bind fun r2 =>
      d122_20 y1 I F (x2 * 12) (x4 + 1) r2
/-- X7_weighWays -/
noncomputable def d122 (a1 : Int32) (I : jI) (L : jL) : Option (Int64 × jL) :=
  (d1g11 0 I L).bind fun r1 =>
  (d122_20 a1 I 70 1 0 (jupL r1 11 0 (Int32.toNatClampNeg 0) 1)).bind fun r3 =>
  some (r3.1, r3.2)
end
section
/-- X1_performLot -/
noncomputable def d47 (a0 : Nat) (a1 : Int64) (I : jI) : Option (jI) :=
  if (I 4 a0 6) = 0 then
    some I
  else
    if 1 < (Int64.toInt32 ((a1 / 8) - (a1 / 8) / 4 * 4)) then
      if (Int64.toInt32 ((a1 / 8) - (a1 / 8) / 4 * 4)) = 3 then
        if (d34 a0 (Int64.toInt32 (a1 - a1 / (Int32.toInt64 (I 4 a0 6)) * (Int32.toInt64 (I 4 a0 6)))) I) = 0 then
          (d44 a0 1 0 0 I).bind fun r2 =>
          some r2.2
        else
          (d44 a0 2 (Int64.toInt32 (a1 - a1 / (Int32.toInt64 (I 4 a0 6)) * (Int32.toInt64 (I 4 a0 6)))) 0 I).bind fun r3 =>
          some r3.2
      else
        (d44 a0 1 0 0 I).bind fun r1 =>
        some r1.2
    else
      (d33 a0 (Int64.toInt32 (a1 - a1 / (Int32.toInt64 (I 4 a0 6)) * (Int32.toInt64 (I 4 a0 6)))) 1 I).bind fun r4 =>
      if r4 = 0 then
        if (Int64.toInt32 ((a1 / 8) - (a1 / 8) / 4 * 4)) = 3 then
          if (d34 a0 (Int64.toInt32 (a1 - a1 / (Int32.toInt64 (I 4 a0 6)) * (Int32.toInt64 (I 4 a0 6)))) I) = 0 then
            (d44 a0 1 0 0 I).bind fun r6 =>
            some r6.2
          else
            (d44 a0 2 (Int64.toInt32 (a1 - a1 / (Int32.toInt64 (I 4 a0 6)) * (Int32.toInt64 (I 4 a0 6)))) 0 I).bind fun r7 =>
            some r7.2
        else
          (d44 a0 1 0 0 I).bind fun r5 =>
          some r5.2
      else
        (d44 a0 0 (Int64.toInt32 (a1 - a1 / (Int32.toInt64 (I 4 a0 6)) * (Int32.toInt64 (I 4 a0 6)))) 1 I).bind fun r8 =>
        some r8.2
set_option maxHeartbeats 4000000 in
set_option maxRecDepth 20000 in
theorem D47 {d : Nat} {k : jK} {a0 : Nat} {a1 : Int64} {I : jI} {L : jL} {r : jI} (h : d47 a0 a1 I = some r) (hk : k none (r, L)) : jPM d 47 [.inr (4, a0), .inl (.inr a1)] (I, L) k := by
  refine pM (fun d n => ?_)
  unfold d47 at h
  refine pn_go [] 400 ?_
  conv => whnf
  refine ⟨fun cz1 => ?_, fun cz1 => ?_⟩
  · replace h := (if_neg cz1).symm.trans h
    conv => whnf
    intro _
    conv => whnf
    intro _
    conv => whnf
    intro _
    conv => whnf
    refine ⟨fun cz2 => ?_, fun cz2 => ?_⟩
    · replace h := (if_pos cz2).symm.trans h
      conv => whnf
      refine ⟨fun cz3 => ?_, fun cz3 => ?_⟩
      · replace h := (if_neg cz3).symm.trans h
        conv => whnf
        obtain ⟨r1, hz4, h⟩ := obind h
        refine D44 hz4 ?_
        conv => whnf
        cases h
        exact hk
      · replace h := (if_pos cz3).symm.trans h
        conv => whnf
        refine D34 rfl ?_
        conv => whnf
        refine ⟨fun cz5 => ?_, fun cz5 => ?_⟩
        · replace h := (if_pos cz5).symm.trans h
          conv => whnf
          obtain ⟨r2, hz6, h⟩ := obind h
          refine D44 hz6 ?_
          conv => whnf
          cases h
          exact hk
        · replace h := (if_neg cz5).symm.trans h
          conv => whnf
          obtain ⟨r3, hz7, h⟩ := obind h
          refine D44 hz7 ?_
          conv => whnf
          cases h
          exact hk
    · replace h := (if_neg cz2).symm.trans h
      conv => whnf
      obtain ⟨r4, hz8, h⟩ := obind h
      refine D33 hz8 ?_
      conv => whnf
      refine ⟨fun cz9 => ?_, fun cz9 => ?_⟩
      · replace h := (if_pos cz9).symm.trans h
        conv => whnf
        refine ⟨fun cz10 => ?_, fun cz10 => ?_⟩
        · replace h := (if_neg cz10).symm.trans h
          conv => whnf
          obtain ⟨r5, hz11, h⟩ := obind h
          refine D44 hz11 ?_
          conv => whnf
          cases h
          exact hk
        · replace h := (if_pos cz10).symm.trans h
          conv => whnf
          refine D34 rfl ?_
          conv => whnf
          refine ⟨fun cz12 => ?_, fun cz12 => ?_⟩
          · replace h := (if_pos cz12).symm.trans h
            conv => whnf
            obtain ⟨r6, hz13, h⟩ := obind h
            refine D44 hz13 ?_
            conv => whnf
            cases h
            exact hk
          · replace h := (if_neg cz12).symm.trans h
            conv => whnf
            obtain ⟨r7, hz14, h⟩ := obind h
            refine D44 hz14 ?_
            conv => whnf
            cases h
            exact hk
      · replace h := (if_neg cz9).symm.trans h
        conv => whnf
        obtain ⟨r8, hz15, h⟩ := obind h
        refine D44 hz15 ?_
        conv => whnf
        cases h
        exact hk
  · replace h := (if_pos cz1).symm.trans h
    conv => whnf
    cases h
    exact hk
/-- X7_lots, loop at 60 -/
noncomputable def d105_60 (y1 : Int32) : Nat → Int64 → Int32 → jI → Option (jI)
  | 0, _, _, _ => none
  | F + 1, x3, x5, I =>
    if y1 ≤ x5 then
      some I
    else
      (d47 1 ((x3 * 48271) - (x3 * 48271) / 2147483647 * 2147483647) I).bind fun r1 =>
      d105_60 y1 F ((x3 * 48271) - (x3 * 48271) / 2147483647 * 2147483647) (x5 + 1) r1
set_option maxHeartbeats 4000000 in
set_option maxRecDepth 20000 in
theorem L105_60 {d n : Nat} {k : jK} {y1 : Int32} {L : jL} : ∀ (F : Nat) (x3 : Int64) (x5 : Int32) (I : jI) (e2 : Option jV) (r : jI), d105_60 y1 F x3 x5 I = some r → (∀ (f2 f3 f4 f5 : Option jV), pn (jPM d) k none (jco 105) n (90, [some (.inr (0, 0)), some (.inl (.inl y1)), f2, f3, f4, f5], [], r, L)) → pn (jPM d) k none (jco 105) n (60, [some (.inr (0, 0)), some (.inl (.inl y1)), e2, some (.inl (.inr x3)), none, some (.inl (.inl x5))], [], I, L) := by
  intro F
  induction F with
  | zero => intro x3 x5 I e2 r h hx; cases h
  | succ F ih =>
    intro x3 x5 I e2 r h hx
    rw [d105_60] at h
    refine pn_go [60, 90] 400 ?_
    conv => whnf
    refine ⟨fun cz1 => ?_, fun cz1 => ?_⟩
    · replace h := (if_pos cz1).symm.trans h
      conv => whnf
      cases h
      exact hx _ _ _ _
    · replace h := (if_neg cz1).symm.trans h
      conv => whnf
      intro _
      conv => whnf
      obtain ⟨r1, hz2, h⟩ := obind h
      refine D47 hz2 ?_
      conv => whnf
      exact ih _ _ _ _ r h hx
/-- X7_lots -/
noncomputable def d105 (a1 : Int32) (a2 : Int32) (I : jI) : Option (Int32 × jI) :=
  if a1 < 1 then
    some ((-1), I)
  else
    if 20 < a1 then
      some ((-1), I)
    else
      if a2 < 1 then
        some ((-1), I)
      else
        if (lg_cmp (Int32.toInt64 a2) 2147483647) < 0 then
          if (I 4 1 6) = 0 then
            some ((-4), I)
          else
            if (d32 1 a1 I) = 0 then
              some ((-2), I)
            else
              (d105_60 a1 70 (Int32.toInt64 a2) 0 I).bind fun r2 =>
              (d10 1 r2).bind fun r3 =>
              some (r3, r2)
        else
          some ((-1), I)
set_option maxHeartbeats 4000000 in
set_option maxRecDepth 20000 in
theorem D105 {d : Nat} {k : jK} {a1 : Int32} {a2 : Int32} {I : jI} {L : jL} {r : Int32 × jI} (h : d105 a1 a2 I = some r) (hk : k (some (.inl (.inl r.1))) (r.2, L)) : jPM d 105 [.inr (0, 0), .inl (.inl a1), .inl (.inl a2)] (I, L) k := by
  refine pM (fun d n => ?_)
  unfold d105 at h
  refine pn_go [60] 400 ?_
  conv => whnf
  refine ⟨fun cz1 => ?_, fun cz1 => ?_⟩
  · replace h := (if_pos cz1).symm.trans h
    conv => whnf
    cases h
    exact hk
  · replace h := (if_neg cz1).symm.trans h
    conv => whnf
    refine ⟨fun cz2 => ?_, fun cz2 => ?_⟩
    · replace h := (if_pos cz2).symm.trans h
      conv => whnf
      cases h
      exact hk
    · replace h := (if_neg cz2).symm.trans h
      conv => whnf
      refine ⟨fun cz3 => ?_, fun cz3 => ?_⟩
      · replace h := (if_pos cz3).symm.trans h
        conv => whnf
        cases h
        exact hk
      · replace h := (if_neg cz3).symm.trans h
        conv => whnf
        refine ⟨fun cz4 => ?_, fun cz4 => ?_⟩
        · replace h := (if_pos cz4).symm.trans h
          conv => whnf
          refine ⟨fun cz5 => ?_, fun cz5 => ?_⟩
          · replace h := (if_neg cz5).symm.trans h
            conv => whnf
            refine D32 rfl ?_
            conv => whnf
            refine ⟨fun cz6 => ?_, fun cz6 => ?_⟩
            · replace h := (if_neg cz6).symm.trans h
              conv => whnf
              obtain ⟨r2, hz7, h⟩ := obind h
              refine L105_60 _ _ _ _ _ _ hz7 (fun e2_r2 e3_r2 e4_r2 e5_r2 => ?_)
              refine pn_go [60] 400 ?_
              conv => whnf
              obtain ⟨r3, hz8, h⟩ := obind h
              refine D10 hz8 ?_
              conv => whnf
              cases h
              exact hk
            · replace h := (if_pos cz6).symm.trans h
              conv => whnf
              cases h
              exact hk
          · replace h := (if_pos cz5).symm.trans h
            conv => whnf
            cases h
            exact hk
        · replace h := (if_neg cz4).symm.trans h
          conv => whnf
          cases h
          exact hk
end
section
/-- X7_findings -/
noncomputable def d111 (a1 : Int32) (I : jI) : Int32 :=
  if a1 < 1 then
    (-1)
  else
    if a1 ≤ 5 then
      (I 12 0 (Int32.toNatClampNeg a1))
    else
      (-1)
set_option maxHeartbeats 4000000 in
set_option maxRecDepth 20000 in
theorem D111 {d : Nat} {k : jK} {a1 : Int32} {I : jI} {L : jL} {r : Int32} (h : d111 a1 I = r) (hk : k (some (.inl (.inl r))) (I, L)) : jPM d 111 [.inr (0, 0), .inl (.inl a1)] (I, L) k := by
  refine pM (fun d n => ?_)
  unfold d111 at h
  refine pn_go [] 400 ?_
  conv => whnf
  refine ⟨fun cz1 => ?_, fun cz1 => ?_⟩
  · replace h := (if_pos cz1).symm.trans h
    conv => whnf
    subst h
    exact hk
  · replace h := (if_neg cz1).symm.trans h
    conv => whnf
    refine ⟨fun cz2 => ?_, fun cz2 => ?_⟩
    · replace h := (if_pos cz2).symm.trans h
      conv => whnf
      intro _
      conv => whnf
      subst h
      exact hk
    · replace h := (if_neg cz2).symm.trans h
      conv => whnf
      subst h
      exact hk
end
