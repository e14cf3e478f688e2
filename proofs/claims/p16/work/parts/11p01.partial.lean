/-! THE PARTIAL MACHINE: as the small one, but what must be safe is taken as given: what holds at the end, if there is one -/
noncomputable def pstep (call : jQ) (k : jK) (scr : Option (Nat × (Nat → Int32))) (i : Instr) (np rA rB : Nat) (rC : Int32) (rL : Int64) (rS : List (Int32 × Nat)) (ls : List (Option jV)) (st : List jV) (I : Nat → Nat → Nat → Int32) (L : Nat → Nat → Nat → Int64) (K : jX → Prop) : Prop :=
  match i with
  | .iconst _ => K (np, ls, .inl (.inl rC) :: st, I, L)
  | .bipush _ => K (np, ls, .inl (.inl rC) :: st, I, L)
  | .sipush _ => K (np, ls, .inl (.inl rC) :: st, I, L)
  | .ldc _ => K (np, ls, .inl (.inl rC) :: st, I, L)
  | .lconst _ => K (np, ls, .inl (.inr rL) :: st, I, L)
  | .ldc2_w _ => K (np, ls, .inl (.inr rL) :: st, I, L)
  | .iload _ => (match jget ls rA with | some (.inl (.inl x)) => K (np, ls, .inl (.inl x) :: st, I, L) | _ => True)
  | .iload_n _ => (match jget ls rA with | some (.inl (.inl x)) => K (np, ls, .inl (.inl x) :: st, I, L) | _ => True)
  | .lload _ => (match jget ls rA with | some (.inl (.inr x)) => K (np, ls, .inl (.inr x) :: st, I, L) | _ => True)
  | .lload_n _ => (match jget ls rA with | some (.inl (.inr x)) => K (np, ls, .inl (.inr x) :: st, I, L) | _ => True)
  | .aload _ => (match jget ls rA with | some (.inr q) => K (np, ls, .inr q :: st, I, L) | _ => True)
  | .aload_n _ => (match jget ls rA with | some (.inr q) => K (np, ls, .inr q :: st, I, L) | _ => True)
  | .istore _ => (match Nat.blt rA (jlen ls), st with | true, .inl (.inl x) :: t => K (np, jset1 ls rA (.inl (.inl x)), t, I, L) | _, _ => True)
  | .istore_n _ => (match Nat.blt rA (jlen ls), st with | true, .inl (.inl x) :: t => K (np, jset1 ls rA (.inl (.inl x)), t, I, L) | _, _ => True)
  | .astore _ => (match Nat.blt rA (jlen ls), st with | true, .inr x :: t => K (np, jset1 ls rA (.inr x), t, I, L) | _, _ => True)
  | .astore_n _ => (match Nat.blt rA (jlen ls), st with | true, .inr x :: t => K (np, jset1 ls rA (.inr x), t, I, L) | _, _ => True)
  | .lstore _ => (match Nat.blt (rA + 1) (jlen ls), st with | true, .inl (.inr x) :: t => K (np, jset2 ls rA (.inl (.inr x)), t, I, L) | _, _ => True)
  | .lstore_n _ => (match Nat.blt (rA + 1) (jlen ls), st with | true, .inl (.inr x) :: t => K (np, jset2 ls rA (.inl (.inr x)), t, I, L) | _, _ => True)
  | .iinc _ _ => (match Nat.blt rA (jlen ls), jget ls rA with | true, some (.inl (.inl x)) => K (np, jset1 ls rA (.inl (.inl (x + rC))), st, I, L) | _, _ => True)
  | .iadd => (match st with | .inl (.inl y) :: .inl (.inl x) :: t => K (np, ls, .inl (.inl (x + y)) :: t, I, L) | _ => True)
  | .isub => (match st with | .inl (.inl y) :: .inl (.inl x) :: t => K (np, ls, .inl (.inl (x - y)) :: t, I, L) | _ => True)
  | .imul => (match st with | .inl (.inl y) :: .inl (.inl x) :: t => K (np, ls, .inl (.inl (x * y)) :: t, I, L) | _ => True)
  | .iand => (match st with | .inl (.inl y) :: .inl (.inl x) :: t => K (np, ls, .inl (.inl (x &&& y)) :: t, I, L) | _ => True)
  | .ior => (match st with | .inl (.inl y) :: .inl (.inl x) :: t => K (np, ls, .inl (.inl (x ||| y)) :: t, I, L) | _ => True)
  | .ishl => (match st with | .inl (.inl y) :: .inl (.inl x) :: t => K (np, ls, .inl (.inl (x <<< (y &&& 31))) :: t, I, L) | _ => True)
  | .ishr => (match st with | .inl (.inl y) :: .inl (.inl x) :: t => K (np, ls, .inl (.inl (x >>> (y &&& 31))) :: t, I, L) | _ => True)
  | .idiv => (match st with | .inl (.inl y) :: .inl (.inl x) :: t => ¬ y = 0 → K (np, ls, .inl (.inl (x / y)) :: t, I, L) | _ => True)
  | .irem => (match st with | .inl (.inl y) :: .inl (.inl x) :: t => ¬ y = 0 → K (np, ls, .inl (.inl (x - x / y * y)) :: t, I, L) | _ => True)
  | .ladd => (match st with | .inl (.inr y) :: .inl (.inr x) :: t => K (np, ls, .inl (.inr (x + y)) :: t, I, L) | _ => True)
  | .lmul => (match st with | .inl (.inr y) :: .inl (.inr x) :: t => K (np, ls, .inl (.inr (x * y)) :: t, I, L) | _ => True)
  | .ldiv => (match st with | .inl (.inr y) :: .inl (.inr x) :: t => ¬ y = 0 → K (np, ls, .inl (.inr (x / y)) :: t, I, L) | _ => True)
  | .lrem => (match st with | .inl (.inr y) :: .inl (.inr x) :: t => ¬ y = 0 → K (np, ls, .inl (.inr (x - x / y * y)) :: t, I, L) | _ => True)
  | .lcmp => (match st with | .inl (.inr y) :: .inl (.inr x) :: t => K (np, ls, .inl (.inl (lg_cmp x y)) :: t, I, L) | _ => True)
  | .i2l => (match st with | .inl (.inl x) :: t => K (np, ls, .inl (.inr x.toInt64) :: t, I, L) | _ => True)
  | .l2i => (match st with | .inl (.inr x) :: t => K (np, ls, .inl (.inl x.toInt32) :: t, I, L) | _ => True)
  | .i2b => (match st with | .inl (.inl x) :: t => K (np, ls, .inl (.inl x.toInt8.toInt32) :: t, I, L) | _ => True)
  | .dup => (match st with | .inl (.inl x) :: t => K (np, ls, .inl (.inl x) :: .inl (.inl x) :: t, I, L) | .inr x :: t => K (np, ls, .inr x :: .inr x :: t, I, L) | _ => True)
  | .dup2 => (match st with | .inl (.inl x) :: .inr y :: t => K (np, ls, .inl (.inl x) :: .inr y :: .inl (.inl x) :: .inr y :: t, I, L) | _ => True)
  | .pop => (match st with | .inl (.inl _) :: t => K (np, ls, t, I, L) | _ => True)
  | .pop2 => (match st with | .inl (.inr _) :: t => K (np, ls, t, I, L) | _ => True)
  | .goto _ => K (rA, ls, st, I, L)
  | .ifCond .eq _ => (match st with | .inl (.inl x) :: t => (x = 0 → K (rA, ls, t, I, L)) ∧ (¬ x = 0 → K (np, ls, t, I, L)) | _ => True)
  | .ifCond .ne _ => (match st with | .inl (.inl x) :: t => (¬ x = 0 → K (rA, ls, t, I, L)) ∧ (x = 0 → K (np, ls, t, I, L)) | _ => True)
  | .ifCond .lt _ => (match st with | .inl (.inl x) :: t => (x < 0 → K (rA, ls, t, I, L)) ∧ (¬ x < 0 → K (np, ls, t, I, L)) | _ => True)
  | .ifCond .ge _ => (match st with | .inl (.inl x) :: t => (0 ≤ x → K (rA, ls, t, I, L)) ∧ (¬ 0 ≤ x → K (np, ls, t, I, L)) | _ => True)
  | .ifCond .gt _ => (match st with | .inl (.inl x) :: t => (0 < x → K (rA, ls, t, I, L)) ∧ (¬ 0 < x → K (np, ls, t, I, L)) | _ => True)
  | .ifCond .le _ => (match st with | .inl (.inl x) :: t => (x ≤ 0 → K (rA, ls, t, I, L)) ∧ (¬ x ≤ 0 → K (np, ls, t, I, L)) | _ => True)
  | .if_icmp .eq _ => (match st with | .inl (.inl y) :: .inl (.inl x) :: t => (x = y → K (rA, ls, t, I, L)) ∧ (¬ x = y → K (np, ls, t, I, L)) | _ => True)
  | .if_icmp .ne _ => (match st with | .inl (.inl y) :: .inl (.inl x) :: t => (¬ x = y → K (rA, ls, t, I, L)) ∧ (x = y → K (np, ls, t, I, L)) | _ => True)
  | .if_icmp .lt _ => (match st with | .inl (.inl y) :: .inl (.inl x) :: t => (x < y → K (rA, ls, t, I, L)) ∧ (¬ x < y → K (np, ls, t, I, L)) | _ => True)
  | .if_icmp .ge _ => (match st with | .inl (.inl y) :: .inl (.inl x) :: t => (y ≤ x → K (rA, ls, t, I, L)) ∧ (¬ y ≤ x → K (np, ls, t, I, L)) | _ => True)
  | .if_icmp .gt _ => (match st with | .inl (.inl y) :: .inl (.inl x) :: t => (y < x → K (rA, ls, t, I, L)) ∧ (¬ y < x → K (np, ls, t, I, L)) | _ => True)
  | .if_icmp .le _ => (match st with | .inl (.inl y) :: .inl (.inl x) :: t => (x ≤ y → K (rA, ls, t, I, L)) ∧ (¬ x ≤ y → K (np, ls, t, I, L)) | _ => True)
  | .tableswitch _ _ _ _ => (match st with | .inl (.inl x) :: t => jsw x (fun q => K (q, ls, t, I, L)) rA rS | _ => True)
  | .lookupswitch _ _ => (match st with | .inl (.inl x) :: t => jsw x (fun q => K (q, ls, t, I, L)) rA rS | _ => True)
  | .getfield _ => (match st with
    | .inr (g, n) :: t => (match (jSh g).2 with
      | .inl (ci, fs) => (match Nat.beq ci rB, fs[rA]? with
        | true, some (.inl f) => K (np, ls, .inr (f n) :: t, I, L)
        | true, some (.inr 1) => K (np, ls, .inl (.inr (L g n rA)) :: t, I, L)
        | true, some (.inr _) => K (np, ls, .inl (.inl (I g n rA)) :: t, I, L)
        | _, _ => True)
      | _ => True)
    | _ => True)
  | .putfield _ => (match st with
    | .inl (.inl x) :: .inr (g, n) :: t => (match (jSh g).2 with
      | .inl (ci, fs) => (match Nat.beq ci rB, fs[rA]? with
        | true, some (.inr 0) => K (np, ls, t, jup I g n rA x, L)
        | true, some (.inr 2) => (x = 0 ∨ x = 1) → K (np, ls, t, jup I g n rA x, L)
        | _, _ => True)
      | _ => True)
    | .inl (.inr x) :: .inr (g, n) :: t => (match (jSh g).2 with
      | .inl (ci, fs) => (match Nat.beq ci rB, fs[rA]? with
        | true, some (.inr 1) => K (np, ls, t, I, jupL L g n rA x)
        | _, _ => True)
      | _ => True)
    | _ => True)
  | .getstatic _ => K (np, ls, .inr (900, 0) :: st, I, L)
  | .iaload => (match st with
    | .inl (.inl j) :: .inr (g, n) :: t => (match jro scr g with
      | some q => vp_in j q.1 → K (np, ls, .inl (.inl (q.2 j.toNatClampNeg)) :: t, I, L)
      | none => (match (jSh g).2 with
        | .inr (_, N, .inr 0) => vp_in j N → K (np, ls, .inl (.inl (I g n j.toNatClampNeg)) :: t, I, L)
        | _ => True))
    | _ => True)
  | .baload => (match st with
    | .inl (.inl j) :: .inr (g, n) :: t => (match (jSh g).2 with
      | .inr (_, N, .inr 2) => vp_in j N → K (np, ls, .inl (.inl (I g n j.toNatClampNeg)) :: t, I, L)
      | _ => True)
    | _ => True)
  | .laload => (match st with
    | .inl (.inl j) :: .inr (g, n) :: t => (match (jSh g).2 with
      | .inr (_, N, .inr 1) => vp_in j N → K (np, ls, .inl (.inr (L g n j.toNatClampNeg)) :: t, I, L)
      | _ => True)
    | _ => True)
  | .aaload => (match st with
    | .inl (.inl j) :: .inr (g, n) :: t => (match (jSh g).2 with
      | .inr (_, N, .inl f) => vp_in j N → K (np, ls, .inr (f n j.toNatClampNeg) :: t, I, L)
      | _ => True)
    | _ => True)
  | .iastore => (match st with
    | .inl (.inl x) :: .inl (.inl j) :: .inr (g, n) :: t => (match (jSh g).2 with
      | .inr (_, N, .inr 0) => vp_in j N → K (np, ls, t, jup I g n j.toNatClampNeg x, L)
      | _ => True)
    | _ => True)
  | .bastore => (match st with
    | .inl (.inl x) :: .inl (.inl j) :: .inr (g, n) :: t => (match (jSh g).2 with
      | .inr (_, N, .inr 2) => vp_in j N → K (np, ls, t, jup I g n j.toNatClampNeg (vp_nar .boolean x), L)
      | _ => True)
    | _ => True)
  | .lastore => (match st with
    | .inl (.inr x) :: .inl (.inl j) :: .inr (g, n) :: t => (match (jSh g).2 with
      | .inr (_, N, .inr 1) => vp_in j N → K (np, ls, t, I, jupL L g n j.toNatClampNeg x)
      | _ => True)
    | _ => True)
  | .arraylength => (match st with
    | .inr (g, _) :: t => (match jro scr g with
      | some q => K (np, ls, .inl (.inl (nI q.1)) :: t, I, L)
      | none => (match (jSh g).2 with
        | .inr (_, N, _) => K (np, ls, .inl (.inl (nI N)) :: t, I, L)
        | _ => True))
    | _ => True)
  | .invokevirtual _ => (match jtake rB st [] with
    | some (.inr q :: as, t) => (match jcls q.1 rS, Nat.ble (jcat t) 8 with
      | true, true => call rA (.inr q :: as) (I, L) (fun v σ' => K (np, ls, jopt v t, σ'))
      | _, _ => True)
    | _ => True)
  | .invokestatic _ => (match Nat.beq rA 999 with
    | true => (match st with
      | .inl (.inl n) :: .inl (.inl dp) :: .inr (g', n') :: .inl (.inl sp) :: .inr (g, m) :: t => (match (jSh g).2, (jSh g').2, Nat.ble (jcat t) 8 with
        | .inr (_, N, .inr 0), .inr (_, N', .inr 0), true => (¬ sp < 0 ∧ ¬ dp < 0 ∧ ¬ n < 0 ∧ sp.toNatClampNeg + n.toNatClampNeg ≤ N ∧ dp.toNatClampNeg + n.toNatClampNeg ≤ N') → K (np, ls, t, jcpy I g m g' n' sp.toNatClampNeg dp.toNatClampNeg n.toNatClampNeg, L)
        | _, _, _ => True)
      | _ => True)
    | false => (match Nat.beq rA 998 with
      | true => (match st with
        | .inl (.inl y) :: .inl (.inl x) :: t => (match Nat.ble (jcat t) 8 with
          | true => K (np, ls, .inl (.inl (if y < x then y else x)) :: t, I, L)
          | false => True)
        | _ => True)
      | false => (match Nat.beq rA 997 with
        | true => (match st with
          | .inl (.inl y) :: .inl (.inl x) :: t => (match Nat.ble (jcat t) 8 with
            | true => K (np, ls, .inl (.inl (if x < y then y else x)) :: t, I, L)
            | false => True)
          | _ => True)
        | false => (match jtake rB st [] with
          | some (as, t) => (match Nat.ble (jcat t) 8 with
            | true => call rA as (I, L) (fun v σ' => K (np, ls, jopt v t, σ'))
            | false => True)
          | none => True))))
  | .ireturn => (match st with
    | [.inl (.inl x)] => (match rA with
      | 0 => k (some (.inl (.inl x))) (I, L)
      | _ => (x = 0 ∨ x = 1) → k (some (.inl (.inl x))) (I, L))
    | _ => True)
  | .lreturn => (match st with | [.inl (.inr x)] => k (some (.inl (.inr x))) (I, L) | _ => True)
  | .return_ => (match st with | [] => k none (I, L) | _ => True)
  | _ => True
noncomputable def vN (R : jX → Prop) (E : Option jV → jS → Prop) (C : Nat → List jV → jS → (Option jV → jS → jX) → Prop) (call : jQ) (k : jK) (K : jX → Prop) : Prop := (∀ z, R z → K z) ∧ (∀ v σ, E v σ → k v σ) ∧ ∀ m as σ f, C m as σ f → call m as σ (fun v σ' => K (f v σ'))
noncomputable def vW (T P : jQ → jK → (jX → Prop) → Prop) : Prop := ∃ (S : Prop) (R : jX → Prop) (E : Option jV → jS → Prop) (C : Nat → List jV → jS → (Option jV → jS → jX) → Prop), (∀ call k K, T call k K ↔ S ∧ vN R E C call k K) ∧ ∀ call k K, P call k K ↔ (S → vN R E C call k K)
theorem v_stuck : vW (fun _ _ _ => False) (fun _ _ _ => True) := ⟨False, fun _ => False, fun _ _ => False, fun _ _ _ _ => False, fun _ _ _ => ⟨fun h => h.elim, fun h => h.1⟩, fun _ _ _ => ⟨fun _ h => h.elim, fun _ => trivial⟩⟩
theorem v_goS (A : Prop) (z : jX) : vW (fun _ _ K => A ∧ K z) (fun _ _ K => A → K z) := ⟨A, fun w => w = z, fun _ _ => False, fun _ _ _ _ => False, fun _ _ K => ⟨fun h => ⟨h.1, fun w e => by rw [e]; exact h.2, fun _ _ h => h.elim, fun _ _ _ _ h => h.elim⟩, fun h => ⟨h.1, h.2.1 z rfl⟩⟩, fun _ _ K => ⟨fun h a => ⟨fun w e => by rw [e]; exact h a, fun _ _ h => h.elim, fun _ _ _ _ h => h.elim⟩, fun h a => (h a).1 z rfl⟩⟩
theorem v_go (z : jX) : vW (fun _ _ K => K z) (fun _ _ K => K z) := ⟨True, fun w => w = z, fun _ _ => False, fun _ _ _ _ => False, fun _ _ K => ⟨fun h => ⟨trivial, fun w e => by rw [e]; exact h, fun _ _ h => h.elim, fun _ _ _ _ h => h.elim⟩, fun h => h.2.1 z rfl⟩, fun _ _ K => ⟨fun h a => ⟨fun w e => by rw [e]; exact h, fun _ _ h => h.elim, fun _ _ _ _ h => h.elim⟩, fun h => (h trivial).1 z rfl⟩⟩
theorem v_br (c : Prop) (z z' : jX) : vW (fun _ _ K => (c → K z) ∧ (¬ c → K z')) (fun _ _ K => (c → K z) ∧ (¬ c → K z')) := by
  have e : ∀ (call : jQ) (k : jK) (K : jX → Prop), ((c → K z) ∧ (¬ c → K z')) ↔ vN (fun w => (c ∧ w = z) ∨ (¬ c ∧ w = z')) (fun _ _ => False) (fun _ _ _ _ => False) call k K := fun call k K => by
    constructor
    · intro h
      refine ⟨fun w e => ?_, fun _ _ h => h.elim, fun _ _ _ _ h => h.elim⟩
      rcases e with ⟨e1, e2⟩ | ⟨e1, e2⟩
      · rw [e2]; exact h.1 e1
      · rw [e2]; exact h.2 e1
    · intro h
      exact ⟨fun q => h.1 z (Or.inl ⟨q, rfl⟩), fun q => h.1 z' (Or.inr ⟨q, rfl⟩)⟩
  exact ⟨True, _, _, _, fun call k K => ⟨fun h => ⟨trivial, (e call k K).mp h⟩, fun h => (e call k K).mpr h.2⟩, fun call k K => ⟨fun h _ => (e call k K).mp h, fun h => (e call k K).mpr (h trivial)⟩⟩
theorem v_brn (c : Prop) (z z' : jX) : vW (fun _ _ K => (¬ c → K z) ∧ (c → K z')) (fun _ _ K => (¬ c → K z) ∧ (c → K z')) := by
  have e : ∀ (call : jQ) (k : jK) (K : jX → Prop), ((¬ c → K z) ∧ (c → K z')) ↔ vN (fun w => (¬ c ∧ w = z) ∨ (c ∧ w = z')) (fun _ _ => False) (fun _ _ _ _ => False) call k K := fun call k K => by
    constructor
    · intro h
      refine ⟨fun w e => ?_, fun _ _ h => h.elim, fun _ _ _ _ h => h.elim⟩
      rcases e with ⟨e1, e2⟩ | ⟨e1, e2⟩
      · rw [e2]; exact h.1 e1
      · rw [e2]; exact h.2 e1
    · intro h
      exact ⟨fun q => h.1 z (Or.inl ⟨q, rfl⟩), fun q => h.1 z' (Or.inr ⟨q, rfl⟩)⟩
  exact ⟨True, _, _, _, fun call k K => ⟨fun h => ⟨trivial, (e call k K).mp h⟩, fun h => (e call k K).mpr h.2⟩, fun call k K => ⟨fun h _ => (e call k K).mp h, fun h => (e call k K).mpr (h trivial)⟩⟩
theorem v_ret (v : Option jV) (σ : jS) : vW (fun _ k _ => k v σ) (fun _ k _ => k v σ) := ⟨True, fun _ => False, fun w τ => w = v ∧ τ = σ, fun _ _ _ _ => False, fun _ k _ => ⟨fun h => ⟨trivial, fun _ h => h.elim, fun w τ e => by rw [e.1, e.2]; exact h, fun _ _ _ _ h => h.elim⟩, fun h => h.2.2.1 v σ ⟨rfl, rfl⟩⟩, fun _ k _ => ⟨fun h _ => ⟨fun _ h => h.elim, fun w τ e => by rw [e.1, e.2]; exact h, fun _ _ _ _ h => h.elim⟩, fun h => (h trivial).2.1 v σ ⟨rfl, rfl⟩⟩⟩
theorem v_retS (A : Prop) (v : Option jV) (σ : jS) : vW (fun _ k _ => A ∧ k v σ) (fun _ k _ => A → k v σ) := ⟨A, fun _ => False, fun w τ => w = v ∧ τ = σ, fun _ _ _ _ => False, fun _ k _ => ⟨fun h => ⟨h.1, fun _ h => h.elim, fun w τ e => by rw [e.1, e.2]; exact h.2, fun _ _ _ _ h => h.elim⟩, fun h => ⟨h.1, h.2.2.1 v σ ⟨rfl, rfl⟩⟩⟩, fun _ k _ => ⟨fun h a => ⟨fun _ h => h.elim, fun w τ e => by rw [e.1, e.2]; exact h a, fun _ _ _ _ h => h.elim⟩, fun h a => (h a).2.1 v σ ⟨rfl, rfl⟩⟩⟩
theorem v_call (m : Nat) (as : List jV) (σ : jS) (f : Option jV → jS → jX) : vW (fun call _ K => call m as σ (fun v σ' => K (f v σ'))) (fun call _ K => call m as σ (fun v σ' => K (f v σ'))) := by
  have e : ∀ (call : jQ) (k : jK) (K : jX → Prop), call m as σ (fun v σ' => K (f v σ')) ↔ vN (fun _ => False) (fun _ _ => False) (fun m' as' σ' f' => m' = m ∧ as' = as ∧ σ' = σ ∧ f' = f) call k K := fun call k K => by
    constructor
    · intro h
      refine ⟨fun _ h => h.elim, fun _ _ h => h.elim, fun m' as' σ' f' e => ?_⟩
      obtain ⟨e1, e2, e3, e4⟩ := e
      rw [e1, e2, e3, e4]
      exact h
    · intro h
      exact h.2.2 m as σ f ⟨rfl, rfl, rfl, rfl⟩
  exact ⟨True, _, _, _, fun call k K => ⟨fun h => ⟨trivial, (e call k K).mp h⟩, fun h => (e call k K).mpr h.2⟩, fun call k K => ⟨fun h _ => (e call k K).mp h, fun h => (e call k K).mpr (h trivial)⟩⟩
theorem sw_all (x : Int32) (d : Nat) : ∀ l : List (Int32 × Nat), ∃ R : Nat → Prop, ∀ K : Nat → Prop, jsw x K d l ↔ ∀ q, R q → K q
  | [] => ⟨fun q => q = d, fun K => ⟨fun h q e => by rw [e]; exact h, fun h => h d rfl⟩⟩
  | c :: t => by
    obtain ⟨R, hR⟩ := sw_all x d t
    refine ⟨fun q => (x = c.1 ∧ q = c.2) ∨ (¬ x = c.1 ∧ R q), fun K => ⟨fun h q e => ?_, fun h => ⟨fun a => h c.2 (Or.inl ⟨a, rfl⟩), fun a => (hR K).mpr (fun q r => h q (Or.inr ⟨a, r⟩))⟩⟩⟩
    rcases e with ⟨e1, e2⟩ | ⟨e1, e2⟩
    · rw [e2]; exact h.1 e1
    · exact (hR K).mp (h.2 e1) q e2
theorem v_sw (x : Int32) (d : Nat) (l : List (Int32 × Nat)) (f : Nat → jX) : vW (fun _ _ K => jsw x (fun q => K (f q)) d l) (fun _ _ K => jsw x (fun q => K (f q)) d l) := by
  obtain ⟨R, hR⟩ := sw_all x d l
  have e : ∀ (call : jQ) (k : jK) (K : jX → Prop), jsw x (fun q => K (f q)) d l ↔ vN (fun w => ∃ q, R q ∧ w = f q) (fun _ _ => False) (fun _ _ _ _ => False) call k K := fun call k K => by
    constructor
    · intro h
      refine ⟨fun w e => ?_, fun _ _ h => h.elim, fun _ _ _ _ h => h.elim⟩
      obtain ⟨q, e1, e2⟩ := e
      rw [e2]
      exact (hR _).mp h q e1
    · intro h
      exact (hR _).mpr (fun q r => h.1 (f q) ⟨q, r, rfl⟩)
  exact ⟨True, _, _, _, fun call k K => ⟨fun h => ⟨trivial, (e call k K).mp h⟩, fun h => (e call k K).mpr h.2⟩, fun call k K => ⟨fun h _ => (e call k K).mp h, fun h => (e call k K).mpr (h trivial)⟩⟩
set_option maxHeartbeats 4000000 in
theorem jview (scr : Option (Nat × (Nat → Int32))) (i : Instr) (np rA rB : Nat) (rC : Int32) (rL : Int64) (rS : List (Int32 × Nat)) (ls : List (Option jV)) (st : List jV) (I : Nat → Nat → Nat → Int32) (L : Nat → Nat → Nat → Int64) : vW (fun call k K => jstep call k scr i np rA rB rC rL rS ls st I L K) (fun call k K => pstep call k scr i np rA rB rC rL rS ls st I L K) := by
  cases i
  all_goals first | exact v_stuck | exact v_go _ | skip
  case iload z =>
    dsimp only [jstep, pstep]
    generalize jget ls rA = q
    rcases q with _ | ((x | x) | x) <;> first | exact v_stuck | exact v_go _ | exact v_goS _ _ | exact v_br _ _ _ | exact v_brn _ _ _ | exact v_ret _ _ | exact v_retS _ _ _ | exact v_call _ _ _ _ | exact v_sw _ _ _ _
  case iload_n z =>
    dsimp only [jstep, pstep]
    generalize jget ls rA = q
    rcases q with _ | ((x | x) | x) <;> first | exact v_stuck | exact v_go _ | exact v_goS _ _ | exact v_br _ _ _ | exact v_brn _ _ _ | exact v_ret _ _ | exact v_retS _ _ _ | exact v_call _ _ _ _ | exact v_sw _ _ _ _
  case lload z =>
    dsimp only [jstep, pstep]
    generalize jget ls rA = q
    rcases q with _ | ((x | x) | x) <;> first | exact v_stuck | exact v_go _ | exact v_goS _ _ | exact v_br _ _ _ | exact v_brn _ _ _ | exact v_ret _ _ | exact v_retS _ _ _ | exact v_call _ _ _ _ | exact v_sw _ _ _ _
  case lload_n z =>
    dsimp only [jstep, pstep]
    generalize jget ls rA = q
    rcases q with _ | ((x | x) | x) <;> first | exact v_stuck | exact v_go _ | exact v_goS _ _ | exact v_br _ _ _ | exact v_brn _ _ _ | exact v_ret _ _ | exact v_retS _ _ _ | exact v_call _ _ _ _ | exact v_sw _ _ _ _
  case aload z =>
    dsimp only [jstep, pstep]
    generalize jget ls rA = q
    rcases q with _ | ((x | x) | x) <;> first | exact v_stuck | exact v_go _ | exact v_goS _ _ | exact v_br _ _ _ | exact v_brn _ _ _ | exact v_ret _ _ | exact v_retS _ _ _ | exact v_call _ _ _ _ | exact v_sw _ _ _ _
  case aload_n z =>
    dsimp only [jstep, pstep]
    generalize jget ls rA = q
    rcases q with _ | ((x | x) | x) <;> first | exact v_stuck | exact v_go _ | exact v_goS _ _ | exact v_br _ _ _ | exact v_brn _ _ _ | exact v_ret _ _ | exact v_retS _ _ _ | exact v_call _ _ _ _ | exact v_sw _ _ _ _
  case istore z =>
    dsimp only [jstep, pstep]
    generalize Nat.blt rA (jlen ls) = b
    rcases b with _ | _ <;> rcases st with _ | ⟨((x | x) | x), t⟩ <;> first | exact v_stuck | exact v_go _ | exact v_goS _ _ | exact v_br _ _ _ | exact v_brn _ _ _ | exact v_ret _ _ | exact v_retS _ _ _ | exact v_call _ _ _ _ | exact v_sw _ _ _ _
  case istore_n z =>
    dsimp only [jstep, pstep]
    generalize Nat.blt rA (jlen ls) = b
    rcases b with _ | _ <;> rcases st with _ | ⟨((x | x) | x), t⟩ <;> first | exact v_stuck | exact v_go _ | exact v_goS _ _ | exact v_br _ _ _ | exact v_brn _ _ _ | exact v_ret _ _ | exact v_retS _ _ _ | exact v_call _ _ _ _ | exact v_sw _ _ _ _
  case astore z =>
    dsimp only [jstep, pstep]
    generalize Nat.blt rA (jlen ls) = b
    rcases b with _ | _ <;> rcases st with _ | ⟨((x | x) | x), t⟩ <;> first | exact v_stuck | exact v_go _ | exact v_goS _ _ | exact v_br _ _ _ | exact v_brn _ _ _ | exact v_ret _ _ | exact v_retS _ _ _ | exact v_call _ _ _ _ | exact v_sw _ _ _ _
  case astore_n z =>
    dsimp only [jstep, pstep]
    generalize Nat.blt rA (jlen ls) = b
    rcases b with _ | _ <;> rcases st with _ | ⟨((x | x) | x), t⟩ <;> first | exact v_stuck | exact v_go _ | exact v_goS _ _ | exact v_br _ _ _ | exact v_brn _ _ _ | exact v_ret _ _ | exact v_retS _ _ _ | exact v_call _ _ _ _ | exact v_sw _ _ _ _
  case lstore z =>
    dsimp only [jstep, pstep]
    generalize Nat.blt (rA + 1) (jlen ls) = b
    rcases b with _ | _ <;> rcases st with _ | ⟨((x | x) | x), t⟩ <;> first | exact v_stuck | exact v_go _ | exact v_goS _ _ | exact v_br _ _ _ | exact v_brn _ _ _ | exact v_ret _ _ | exact v_retS _ _ _ | exact v_call _ _ _ _ | exact v_sw _ _ _ _
  case lstore_n z =>
    dsimp only [jstep, pstep]
    generalize Nat.blt (rA + 1) (jlen ls) = b
    rcases b with _ | _ <;> rcases st with _ | ⟨((x | x) | x), t⟩ <;> first | exact v_stuck | exact v_go _ | exact v_goS _ _ | exact v_br _ _ _ | exact v_brn _ _ _ | exact v_ret _ _ | exact v_retS _ _ _ | exact v_call _ _ _ _ | exact v_sw _ _ _ _
  case iinc z w =>
    dsimp only [jstep, pstep]
    generalize Nat.blt rA (jlen ls) = b
    generalize jget ls rA = q
    rcases b with _ | _ <;> rcases q with _ | ((x | x) | x) <;> first | exact v_stuck | exact v_go _ | exact v_goS _ _ | exact v_br _ _ _ | exact v_brn _ _ _ | exact v_ret _ _ | exact v_retS _ _ _ | exact v_call _ _ _ _ | exact v_sw _ _ _ _
  case iadd =>
    rcases st with _ | ⟨((y | y) | y), _ | ⟨((x | x) | x), t⟩⟩ <;> first | exact v_stuck | exact v_go _ | exact v_goS _ _ | exact v_br _ _ _ | exact v_brn _ _ _ | exact v_ret _ _ | exact v_retS _ _ _ | exact v_call _ _ _ _ | exact v_sw _ _ _ _
  case isub =>
    rcases st with _ | ⟨((y | y) | y), _ | ⟨((x | x) | x), t⟩⟩ <;> first | exact v_stuck | exact v_go _ | exact v_goS _ _ | exact v_br _ _ _ | exact v_brn _ _ _ | exact v_ret _ _ | exact v_retS _ _ _ | exact v_call _ _ _ _ | exact v_sw _ _ _ _
  case imul =>
    rcases st with _ | ⟨((y | y) | y), _ | ⟨((x | x) | x), t⟩⟩ <;> first | exact v_stuck | exact v_go _ | exact v_goS _ _ | exact v_br _ _ _ | exact v_brn _ _ _ | exact v_ret _ _ | exact v_retS _ _ _ | exact v_call _ _ _ _ | exact v_sw _ _ _ _
  case iand =>
    rcases st with _ | ⟨((y | y) | y), _ | ⟨((x | x) | x), t⟩⟩ <;> first | exact v_stuck | exact v_go _ | exact v_goS _ _ | exact v_br _ _ _ | exact v_brn _ _ _ | exact v_ret _ _ | exact v_retS _ _ _ | exact v_call _ _ _ _ | exact v_sw _ _ _ _
  case ior =>
    rcases st with _ | ⟨((y | y) | y), _ | ⟨((x | x) | x), t⟩⟩ <;> first | exact v_stuck | exact v_go _ | exact v_goS _ _ | exact v_br _ _ _ | exact v_brn _ _ _ | exact v_ret _ _ | exact v_retS _ _ _ | exact v_call _ _ _ _ | exact v_sw _ _ _ _
  case ishl =>
    rcases st with _ | ⟨((y | y) | y), _ | ⟨((x | x) | x), t⟩⟩ <;> first | exact v_stuck | exact v_go _ | exact v_goS _ _ | exact v_br _ _ _ | exact v_brn _ _ _ | exact v_ret _ _ | exact v_retS _ _ _ | exact v_call _ _ _ _ | exact v_sw _ _ _ _
  case ishr =>
    rcases st with _ | ⟨((y | y) | y), _ | ⟨((x | x) | x), t⟩⟩ <;> first | exact v_stuck | exact v_go _ | exact v_goS _ _ | exact v_br _ _ _ | exact v_brn _ _ _ | exact v_ret _ _ | exact v_retS _ _ _ | exact v_call _ _ _ _ | exact v_sw _ _ _ _
  case idiv =>
    rcases st with _ | ⟨((y | y) | y), _ | ⟨((x | x) | x), t⟩⟩ <;> first | exact v_stuck | exact v_go _ | exact v_goS _ _ | exact v_br _ _ _ | exact v_brn _ _ _ | exact v_ret _ _ | exact v_retS _ _ _ | exact v_call _ _ _ _ | exact v_sw _ _ _ _
  case irem =>
    rcases st with _ | ⟨((y | y) | y), _ | ⟨((x | x) | x), t⟩⟩ <;> first | exact v_stuck | exact v_go _ | exact v_goS _ _ | exact v_br _ _ _ | exact v_brn _ _ _ | exact v_ret _ _ | exact v_retS _ _ _ | exact v_call _ _ _ _ | exact v_sw _ _ _ _
  case ladd =>
    rcases st with _ | ⟨((y | y) | y), _ | ⟨((x | x) | x), t⟩⟩ <;> first | exact v_stuck | exact v_go _ | exact v_goS _ _ | exact v_br _ _ _ | exact v_brn _ _ _ | exact v_ret _ _ | exact v_retS _ _ _ | exact v_call _ _ _ _ | exact v_sw _ _ _ _
  case lmul =>
    rcases st with _ | ⟨((y | y) | y), _ | ⟨((x | x) | x), t⟩⟩ <;> first | exact v_stuck | exact v_go _ | exact v_goS _ _ | exact v_br _ _ _ | exact v_brn _ _ _ | exact v_ret _ _ | exact v_retS _ _ _ | exact v_call _ _ _ _ | exact v_sw _ _ _ _
  case ldiv =>
    rcases st with _ | ⟨((y | y) | y), _ | ⟨((x | x) | x), t⟩⟩ <;> first | exact v_stuck | exact v_go _ | exact v_goS _ _ | exact v_br _ _ _ | exact v_brn _ _ _ | exact v_ret _ _ | exact v_retS _ _ _ | exact v_call _ _ _ _ | exact v_sw _ _ _ _
  case lrem =>
    rcases st with _ | ⟨((y | y) | y), _ | ⟨((x | x) | x), t⟩⟩ <;> first | exact v_stuck | exact v_go _ | exact v_goS _ _ | exact v_br _ _ _ | exact v_brn _ _ _ | exact v_ret _ _ | exact v_retS _ _ _ | exact v_call _ _ _ _ | exact v_sw _ _ _ _
  case lcmp =>
    rcases st with _ | ⟨((y | y) | y), _ | ⟨((x | x) | x), t⟩⟩ <;> first | exact v_stuck | exact v_go _ | exact v_goS _ _ | exact v_br _ _ _ | exact v_brn _ _ _ | exact v_ret _ _ | exact v_retS _ _ _ | exact v_call _ _ _ _ | exact v_sw _ _ _ _
  case dup2 =>
    rcases st with _ | ⟨((y | y) | y), _ | ⟨((x | x) | x), t⟩⟩ <;> first | exact v_stuck | exact v_go _ | exact v_goS _ _ | exact v_br _ _ _ | exact v_brn _ _ _ | exact v_ret _ _ | exact v_retS _ _ _ | exact v_call _ _ _ _ | exact v_sw _ _ _ _
  case i2l =>
    rcases st with _ | ⟨((x | x) | x), t⟩ <;> first | exact v_stuck | exact v_go _ | exact v_goS _ _ | exact v_br _ _ _ | exact v_brn _ _ _ | exact v_ret _ _ | exact v_retS _ _ _ | exact v_call _ _ _ _ | exact v_sw _ _ _ _
  case l2i =>
    rcases st with _ | ⟨((x | x) | x), t⟩ <;> first | exact v_stuck | exact v_go _ | exact v_goS _ _ | exact v_br _ _ _ | exact v_brn _ _ _ | exact v_ret _ _ | exact v_retS _ _ _ | exact v_call _ _ _ _ | exact v_sw _ _ _ _
  case i2b =>
    rcases st with _ | ⟨((x | x) | x), t⟩ <;> first | exact v_stuck | exact v_go _ | exact v_goS _ _ | exact v_br _ _ _ | exact v_brn _ _ _ | exact v_ret _ _ | exact v_retS _ _ _ | exact v_call _ _ _ _ | exact v_sw _ _ _ _
  case dup =>
    rcases st with _ | ⟨((x | x) | x), t⟩ <;> first | exact v_stuck | exact v_go _ | exact v_goS _ _ | exact v_br _ _ _ | exact v_brn _ _ _ | exact v_ret _ _ | exact v_retS _ _ _ | exact v_call _ _ _ _ | exact v_sw _ _ _ _
  case pop =>
    rcases st with _ | ⟨((x | x) | x), t⟩ <;> first | exact v_stuck | exact v_go _ | exact v_goS _ _ | exact v_br _ _ _ | exact v_brn _ _ _ | exact v_ret _ _ | exact v_retS _ _ _ | exact v_call _ _ _ _ | exact v_sw _ _ _ _
  case pop2 =>
    rcases st with _ | ⟨((x | x) | x), t⟩ <;> first | exact v_stuck | exact v_go _ | exact v_goS _ _ | exact v_br _ _ _ | exact v_brn _ _ _ | exact v_ret _ _ | exact v_retS _ _ _ | exact v_call _ _ _ _ | exact v_sw _ _ _ _
  case ifCond c z =>
    cases c <;> rcases st with _ | ⟨((x | x) | x), t⟩ <;> first | exact v_stuck | exact v_go _ | exact v_goS _ _ | exact v_br _ _ _ | exact v_brn _ _ _ | exact v_ret _ _ | exact v_retS _ _ _ | exact v_call _ _ _ _ | exact v_sw _ _ _ _
  case if_icmp c z =>
    cases c <;> rcases st with _ | ⟨((y | y) | y), _ | ⟨((x | x) | x), t⟩⟩ <;> first | exact v_stuck | exact v_go _ | exact v_goS _ _ | exact v_br _ _ _ | exact v_brn _ _ _ | exact v_ret _ _ | exact v_retS _ _ _ | exact v_call _ _ _ _ | exact v_sw _ _ _ _
  case tableswitch a b c e =>
    rcases st with _ | ⟨((x | x) | x), t⟩ <;> first | exact v_stuck | exact v_go _ | exact v_goS _ _ | exact v_br _ _ _ | exact v_brn _ _ _ | exact v_ret _ _ | exact v_retS _ _ _ | exact v_call _ _ _ _ | exact v_sw _ _ _ _
  case lookupswitch a b =>
    rcases st with _ | ⟨((x | x) | x), t⟩ <;> first | exact v_stuck | exact v_go _ | exact v_goS _ _ | exact v_br _ _ _ | exact v_brn _ _ _ | exact v_ret _ _ | exact v_retS _ _ _ | exact v_call _ _ _ _ | exact v_sw _ _ _ _
  case getfield z =>
    rcases st with _ | ⟨((x | x) | ⟨g, n⟩), t⟩
    · exact v_stuck
    · exact v_stuck
    · exact v_stuck
    · dsimp only [jstep, pstep]
      generalize (jSh g).2 = sh
      rcases sh with ⟨ci, fs⟩ | sh
      · dsimp only
        generalize Nat.beq ci rB = b
        generalize fs[rA]? = o
        rcases b with _ | _ <;> rcases o with _ | (f | (_ | _ | z)) <;> first | exact v_stuck | exact v_go _ | exact v_goS _ _ | exact v_br _ _ _ | exact v_brn _ _ _ | exact v_ret _ _ | exact v_retS _ _ _ | exact v_call _ _ _ _ | exact v_sw _ _ _ _
      · exact v_stuck
  case putfield z =>
    rcases st with _ | ⟨((x | x) | ⟨g, n⟩), _ | ⟨((y | y) | ⟨g, n⟩), t⟩⟩
    all_goals first | exact v_stuck | skip
    · dsimp only [jstep, pstep]
      generalize (jSh g).2 = sh
      rcases sh with ⟨ci, fs⟩ | sh
      · dsimp only
        generalize Nat.beq ci rB = b
        generalize fs[rA]? = o
        rcases b with _ | _ <;> rcases o with _ | (f | (_ | _ | _ | z)) <;> first | exact v_stuck | exact v_go _ | exact v_goS _ _ | exact v_br _ _ _ | exact v_brn _ _ _ | exact v_ret _ _ | exact v_retS _ _ _ | exact v_call _ _ _ _ | exact v_sw _ _ _ _
      · exact v_stuck
    · dsimp only [jstep, pstep]
      generalize (jSh g).2 = sh
      rcases sh with ⟨ci, fs⟩ | sh
      · dsimp only
        generalize Nat.beq ci rB = b
        generalize fs[rA]? = o
        rcases b with _ | _ <;> rcases o with _ | (f | (_ | _ | _ | z)) <;> first | exact v_stuck | exact v_go _ | exact v_goS _ _ | exact v_br _ _ _ | exact v_brn _ _ _ | exact v_ret _ _ | exact v_retS _ _ _ | exact v_call _ _ _ _ | exact v_sw _ _ _ _
      · exact v_stuck
  case iaload =>
    rcases st with _ | ⟨((j | x) | ⟨g, n⟩), _ | ⟨((y | y) | ⟨g, n⟩), t⟩⟩
    all_goals first | exact v_stuck | skip
    dsimp only [jstep, pstep]
    generalize jro scr g = q
    generalize (jSh g).2 = sh
    rcases q with _ | q
    · rcases sh with sh | ⟨a, N, (f | (_ | z))⟩ <;> first | exact v_stuck | exact v_go _ | exact v_goS _ _ | exact v_br _ _ _ | exact v_brn _ _ _ | exact v_ret _ _ | exact v_retS _ _ _ | exact v_call _ _ _ _ | exact v_sw _ _ _ _
    · exact v_goS _ _
  case baload =>
    rcases st with _ | ⟨((j | x) | ⟨g, n⟩), _ | ⟨((y | y) | ⟨g, n⟩), t⟩⟩
    all_goals first | exact v_stuck | skip
    dsimp only [jstep, pstep]
    generalize (jSh g).2 = sh
    rcases sh with sh | ⟨a, N, (f | (_ | _ | _ | z))⟩ <;> first | exact v_stuck | exact v_go _ | exact v_goS _ _ | exact v_br _ _ _ | exact v_brn _ _ _ | exact v_ret _ _ | exact v_retS _ _ _ | exact v_call _ _ _ _ | exact v_sw _ _ _ _
  case laload =>
    rcases st with _ | ⟨((j | x) | ⟨g, n⟩), _ | ⟨((y | y) | ⟨g, n⟩), t⟩⟩
    all_goals first | exact v_stuck | skip
    dsimp only [jstep, pstep]
    generalize (jSh g).2 = sh
    rcases sh with sh | ⟨a, N, (f | (_ | _ | z))⟩ <;> first | exact v_stuck | exact v_go _ | exact v_goS _ _ | exact v_br _ _ _ | exact v_brn _ _ _ | exact v_ret _ _ | exact v_retS _ _ _ | exact v_call _ _ _ _ | exact v_sw _ _ _ _
  case aaload =>
    rcases st with _ | ⟨((j | x) | ⟨g, n⟩), _ | ⟨((y | y) | ⟨g, n⟩), t⟩⟩
    all_goals first | exact v_stuck | skip
    dsimp only [jstep, pstep]
    generalize (jSh g).2 = sh
    rcases sh with sh | ⟨a, N, (f | z)⟩ <;> first | exact v_stuck | exact v_go _ | exact v_goS _ _ | exact v_br _ _ _ | exact v_brn _ _ _ | exact v_ret _ _ | exact v_retS _ _ _ | exact v_call _ _ _ _ | exact v_sw _ _ _ _
  case iastore =>
    rcases st with _ | ⟨((x | x) | x), _ | ⟨((j | j) | j), _ | ⟨((y | y) | ⟨g, n⟩), t⟩⟩⟩
    all_goals first | exact v_stuck | skip
    dsimp only [jstep, pstep]
    generalize (jSh g).2 = sh
    rcases sh with sh | ⟨a, N, (f | (_ | z))⟩ <;> first | exact v_stuck | exact v_go _ | exact v_goS _ _ | exact v_br _ _ _ | exact v_brn _ _ _ | exact v_ret _ _ | exact v_retS _ _ _ | exact v_call _ _ _ _ | exact v_sw _ _ _ _
  case bastore =>
    rcases st with _ | ⟨((x | x) | x), _ | ⟨((j | j) | j), _ | ⟨((y | y) | ⟨g, n⟩), t⟩⟩⟩
    all_goals first | exact v_stuck | skip
    dsimp only [jstep, pstep]
    generalize (jSh g).2 = sh
    rcases sh with sh | ⟨a, N, (f | (_ | _ | _ | z))⟩ <;> first | exact v_stuck | exact v_go _ | exact v_goS _ _ | exact v_br _ _ _ | exact v_brn _ _ _ | exact v_ret _ _ | exact v_retS _ _ _ | exact v_call _ _ _ _ | exact v_sw _ _ _ _
  case lastore =>
    rcases st with _ | ⟨((x | x) | x), _ | ⟨((j | j) | j), _ | ⟨((y | y) | ⟨g, n⟩), t⟩⟩⟩
    all_goals first | exact v_stuck | skip
    dsimp only [jstep, pstep]
    generalize (jSh g).2 = sh
    rcases sh with sh | ⟨a, N, (f | (_ | _ | z))⟩ <;> first | exact v_stuck | exact v_go _ | exact v_goS _ _ | exact v_br _ _ _ | exact v_brn _ _ _ | exact v_ret _ _ | exact v_retS _ _ _ | exact v_call _ _ _ _ | exact v_sw _ _ _ _
  case arraylength =>
    rcases st with _ | ⟨((x | x) | ⟨g, n⟩), t⟩
    all_goals first | exact v_stuck | skip
    dsimp only [jstep, pstep]
    generalize jro scr g = q
    generalize (jSh g).2 = sh
    rcases q with _ | q
    · rcases sh with sh | ⟨a, N, f⟩ <;> first | exact v_stuck | exact v_go _ | exact v_goS _ _ | exact v_br _ _ _ | exact v_brn _ _ _ | exact v_ret _ _ | exact v_retS _ _ _ | exact v_call _ _ _ _ | exact v_sw _ _ _ _
    · exact v_go _
  case invokevirtual z =>
    dsimp only [jstep, pstep]
    generalize jtake rB st [] = q
    rcases q with _ | ⟨(_ | ⟨((x | x) | q), as⟩), t⟩
    all_goals first | exact v_stuck | skip
    dsimp only
    generalize jcls q.1 rS = b
    generalize Nat.ble (jcat t) 8 = c
    rcases b with _ | _ <;> rcases c with _ | _ <;> first | exact v_stuck | exact v_go _ | exact v_goS _ _ | exact v_br _ _ _ | exact v_brn _ _ _ | exact v_ret _ _ | exact v_retS _ _ _ | exact v_call _ _ _ _ | exact v_sw _ _ _ _
  case invokestatic z =>
    dsimp only [jstep, pstep]
    generalize Nat.beq rA 999 = b9
    rcases b9 with _ | _
    · dsimp only
      generalize Nat.beq rA 998 = b8
      rcases b8 with _ | _
      · dsimp only
        generalize Nat.beq rA 997 = b7
        rcases b7 with _ | _
        · dsimp only
          generalize jtake rB st [] = q
          rcases q with _ | ⟨as, t⟩
          · exact v_stuck
          · dsimp only
            generalize Nat.ble (jcat t) 8 = c
            rcases c with _ | _ <;> first | exact v_stuck | exact v_go _ | exact v_goS _ _ | exact v_br _ _ _ | exact v_brn _ _ _ | exact v_ret _ _ | exact v_retS _ _ _ | exact v_call _ _ _ _ | exact v_sw _ _ _ _
        · rcases st with _ | ⟨((y | y) | y), _ | ⟨((x | x) | x), t⟩⟩
          all_goals first | exact v_stuck | skip
          dsimp only
          generalize Nat.ble (jcat t) 8 = c
          rcases c with _ | _ <;> first | exact v_stuck | exact v_go _ | exact v_goS _ _ | exact v_br _ _ _ | exact v_brn _ _ _ | exact v_ret _ _ | exact v_retS _ _ _ | exact v_call _ _ _ _ | exact v_sw _ _ _ _
      · rcases st with _ | ⟨((y | y) | y), _ | ⟨((x | x) | x), t⟩⟩
        all_goals first | exact v_stuck | skip
        dsimp only
        generalize Nat.ble (jcat t) 8 = c
        rcases c with _ | _ <;> first | exact v_stuck | exact v_go _ | exact v_goS _ _ | exact v_br _ _ _ | exact v_brn _ _ _ | exact v_ret _ _ | exact v_retS _ _ _ | exact v_call _ _ _ _ | exact v_sw _ _ _ _
    · rcases st with _ | ⟨((a | a) | a), _ | ⟨((b | b) | b), _ | ⟨((c | c) | ⟨g', n'⟩), _ | ⟨((e | e) | e), _ | ⟨((h | h) | ⟨g, m⟩), t⟩⟩⟩⟩⟩
      all_goals first | exact v_stuck | skip
      dsimp only
      generalize (jSh g).2 = sh
      generalize (jSh g').2 = sh'
      generalize Nat.ble (jcat t) 8 = c
      rcases sh with sh | ⟨u, N, (f | (_ | z))⟩ <;> rcases sh' with sh' | ⟨u', N', (f' | (_ | z'))⟩ <;> rcases c with _ | _ <;> first | exact v_stuck | exact v_go _ | exact v_goS _ _ | exact v_br _ _ _ | exact v_brn _ _ _ | exact v_ret _ _ | exact v_retS _ _ _ | exact v_call _ _ _ _ | exact v_sw _ _ _ _
  case ireturn =>
    rcases st with _ | ⟨((x | x) | x), _ | ⟨y, t⟩⟩
    all_goals first | exact v_stuck | skip
    rcases rA with _ | rA <;> first | exact v_stuck | exact v_go _ | exact v_goS _ _ | exact v_br _ _ _ | exact v_brn _ _ _ | exact v_ret _ _ | exact v_retS _ _ _ | exact v_call _ _ _ _ | exact v_sw _ _ _ _
  case lreturn =>
    rcases st with _ | ⟨((x | x) | x), _ | ⟨y, t⟩⟩ <;> first | exact v_stuck | exact v_go _ | exact v_goS _ _ | exact v_br _ _ _ | exact v_brn _ _ _ | exact v_ret _ _ | exact v_retS _ _ _ | exact v_call _ _ _ _ | exact v_sw _ _ _ _
  case return_ =>
    rcases st with _ | ⟨y, t⟩ <;> first | exact v_stuck | exact v_go _ | exact v_goS _ _ | exact v_br _ _ _ | exact v_brn _ _ _ | exact v_ret _ _ | exact v_retS _ _ _ | exact v_call _ _ _ _ | exact v_sw _ _ _ _
noncomputable def pst (call : jQ) (k : jK) (scr : Option (Nat × (Nat → Int32))) (code : List jN) (x : jX) (K : jX → Prop) : Prop := match x with
  | (pc, ls, st, I, L) => (match jat code pc with
    | some (i, _, np, rA, rB, rC, rL, rS) => pstep call k scr i np rA rB rC rL rS ls st I L K
    | none => True)
theorem pview (scr : Option (Nat × (Nat → Int32))) (code : List jN) (x : jX) : vW (fun call k K => jst call k scr code x K) (fun call k K => pst call k scr code x K) := by
  obtain ⟨pc, ls, st, I, L⟩ := x
  dsimp only [jst, pst]
  generalize jat code pc = q
  rcases q with _ | ⟨i, a, np, rA, rB, rC, rL, rS⟩
  · exact v_stuck
  · exact jview scr i np rA rB rC rL rS ls st I L
noncomputable def qAnd (k1 k2 : jK) : jK := fun v σ => k1 v σ ∧ k2 v σ
theorem st_mono {call : jQ} {k k' : jK} {scr : Option (Nat × (Nat → Int32))} {code : List jN} {x : jX} {K K' : jX → Prop} (Hc : ∀ m as σ K K', (∀ v σ, K v σ → K' v σ) → call m as σ K → call m as σ K') (hk : ∀ v σ, k v σ → k' v σ) (hK : ∀ z, K z → K' z) (h : jst call k scr code x K) : jst call k' scr code x K' := by
  obtain ⟨S, R, E, C, hT, -⟩ := pview scr code x
  obtain ⟨s, h1, h2, h3⟩ := (hT call k K).mp h
  exact (hT call k' K').mpr ⟨s, fun z r => hK z (h1 z r), fun v σ e => hk v σ (h2 v σ e), fun m as σ f c => Hc m as σ _ _ (fun v σ q => hK _ q) (h3 m as σ f c)⟩
theorem pst_mono {call call' : jQ} {k k' : jK} {scr : Option (Nat × (Nat → Int32))} {code : List jN} {x : jX} {K K' : jX → Prop} (Hc : ∀ m as σ K K', (∀ v σ, K v σ → K' v σ) → call m as σ K → call' m as σ K') (hk : ∀ v σ, k v σ → k' v σ) (hK : ∀ z, K z → K' z) (h : pst call k scr code x K) : pst call' k' scr code x K' := by
  obtain ⟨S, R, E, C, -, hP⟩ := pview scr code x
  refine (hP call' k' K').mpr (fun s => ?_)
  obtain ⟨h1, h2, h3⟩ := (hP call k K).mp h s
  exact ⟨fun z r => hK z (h1 z r), fun v σ e => hk v σ (h2 v σ e), fun m as σ f c => Hc m as σ _ _ (fun v σ q => hK _ q) (h3 m as σ f c)⟩
theorem pst_all {call : jQ} {k : Nat → jK} {scr : Option (Nat × (Nat → Int32))} {code : List jN} {x : jX} {K : Nat → jX → Prop} (Hc : ∀ m as σ (K : Nat → jK), (∀ n, call m as σ (K n)) → call m as σ (fun v σ => ∀ n, K n v σ)) (h : ∀ n, pst call (k n) scr code x (K n)) : pst call (fun v σ => ∀ n, k n v σ) scr code x (fun z => ∀ n, K n z) := by
  obtain ⟨S, R, E, C, -, hP⟩ := pview scr code x
  refine (hP call _ _).mpr (fun s => ?_)
  have h := fun n => (hP call (k n) (K n)).mp (h n) s
  exact ⟨fun z r n => (h n).1 z r, fun v σ e n => (h n).2.1 v σ e, fun m as σ f c => Hc m as σ _ (fun n => (h n).2.2 m as σ f c)⟩
theorem pst_comb {callW callP : jQ} {k1 k2 : jK} {scr : Option (Nat × (Nat → Int32))} {code : List jN} {x : jX} {K1 K2 : jX → Prop} (Hc : ∀ m as σ K1 K2, callW m as σ K1 → callP m as σ K2 → callW m as σ (qAnd K1 K2)) (h1 : jst callW k1 scr code x K1) (h2 : pst callP k2 scr code x K2) : jst callW (qAnd k1 k2) scr code x (fun z => K1 z ∧ K2 z) := by
  obtain ⟨S, R, E, C, hT, hP⟩ := pview scr code x
  obtain ⟨s, a1, a2, a3⟩ := (hT callW k1 K1).mp h1
  obtain ⟨b1, b2, b3⟩ := (hP callP k2 K2).mp h2 s
  exact (hT callW _ _).mpr ⟨s, fun z r => ⟨a1 z r, b1 z r⟩, fun v σ e => ⟨a2 v σ e, b2 v σ e⟩, fun m as σ f c => Hc m as σ _ _ (a3 m as σ f c) (b3 m as σ f c)⟩
theorem pst_of {callW callP : jQ} {k : jK} {scr : Option (Nat × (Nat → Int32))} {code : List jN} {x : jX} {K : jX → Prop} (Hc : ∀ m as σ K, callW m as σ K → callP m as σ K) (h : jst callW k scr code x K) : pst callP k scr code x K := by
  obtain ⟨S, R, E, C, hT, hP⟩ := pview scr code x
  obtain ⟨s, a1, a2, a3⟩ := (hT callW k K).mp h
  exact (hP callP k K).mpr (fun _ => ⟨a1, a2, fun m as σ f c => Hc m as σ _ (a3 m as σ f c)⟩)
noncomputable def pn (call : jQ) (k : jK) (scr : Option (Nat × (Nat → Int32))) (code : List jN) : Nat → jX → Prop
  | 0, _ => True
  | n + 1, x => pst call k scr code x (pn call k scr code n)
noncomputable def jPM : Nat → jQ
  | 0 => fun _ _ _ _ => True
  | d + 1 => fun m as σ k => match Nat.ble (jlen (jent as)) (jmi m).2.2.1 with
    | true => ∀ n, pn (jPM d) k none (jco m) n (0, jpad (jmi m).2.2.1 (jent as), [], σ)
    | false => True
theorem pn_mono {call call' : jQ} {k k' : jK} {scr : Option (Nat × (Nat → Int32))} {code : List jN} (Hc : ∀ m as σ K K', (∀ v σ, K v σ → K' v σ) → call m as σ K → call' m as σ K') (hk : ∀ v σ, k v σ → k' v σ) : ∀ (n : Nat) {x : jX}, pn call k scr code n x → pn call' k' scr code n x
  | 0, _, _ => trivial
  | n + 1, _, h => pst_mono Hc hk (fun z hz => pn_mono Hc hk n hz) h
theorem jPM_mono : ∀ (d : Nat) (m : Nat) (as : List jV) (σ : jS) (K K' : jK), (∀ v σ, K v σ → K' v σ) → jPM d m as σ K → jPM d m as σ K'
  | 0, _, _, _, _, _, _, _ => trivial
  | d + 1, m, as, σ, K, K', hK, h => by
    unfold jPM at h ⊢
    split
    · rename_i e
      rw [e] at h
      exact fun n => pn_mono (jPM_mono d) hK n (h n)
    · trivial
theorem pn_dec {d : Nat} {k : jK} {scr : Option (Nat × (Nat → Int32))} {code : List jN} : ∀ (n : Nat) {x : jX}, pn (jPM d) k scr code (n + 1) x → pn (jPM d) k scr code n x
  | 0, _, _ => trivial
  | n + 1, _, h => pst_mono (jPM_mono d) (fun _ _ q => q) (fun z hz => pn_dec n hz) h
theorem jPM_dec : ∀ (d : Nat) (m : Nat) (as : List jV) (σ : jS) (K : jK), jPM (d + 1) m as σ K → jPM d m as σ K
  | 0, _, _, _, _, _ => trivial
  | d + 1, m, as, σ, K, h => by
    unfold jPM at h ⊢
    split
    · rename_i e
      rw [e] at h
      exact fun n => pn_mono (fun m as σ K K' q w => jPM_dec d m as σ K' (jPM_mono (d + 1) m as σ K K' q w)) (fun _ _ q => q) n (h n)
    · trivial
theorem jPM_le {m : Nat} {as : List jV} {σ : jS} {K : jK} : ∀ {d e : Nat}, d ≤ e → jPM e m as σ K → jPM d m as σ K
  | d, 0, h, q => by rw [Nat.le_zero.mp h]; exact q
  | d, e + 1, h, q => by
    rcases Nat.lt_or_ge e d with w | w
    · rw [Nat.le_antisymm h w]; exact q
    · exact jPM_le w (jPM_dec e m as σ K q)
theorem pn_all {call : jQ} {k : Nat → jK} {scr : Option (Nat × (Nat → Int32))} {code : List jN} (Hc : ∀ m as σ (K : Nat → jK), (∀ n, call m as σ (K n)) → call m as σ (fun v σ => ∀ n, K n v σ)) (Hm : ∀ m as σ K K', (∀ v σ, K v σ → K' v σ) → call m as σ K → call m as σ K') : ∀ (n : Nat) {x : jX}, (∀ i, pn call (k i) scr code n x) → pn call (fun v σ => ∀ i, k i v σ) scr code n x
  | 0, _, _ => trivial
  | n + 1, _, h => pst_mono Hm (fun _ _ q => q) (fun z hz => pn_all Hc Hm n hz) (pst_all Hc h)
theorem jPM_all : ∀ (d : Nat) (m : Nat) (as : List jV) (σ : jS) (K : Nat → jK), (∀ n, jPM d m as σ (K n)) → jPM d m as σ (fun v σ => ∀ n, K n v σ)
  | 0, _, _, _, _, _ => trivial
  | d + 1, m, as, σ, K, h => by
    unfold jPM at h ⊢
    split
    · rename_i e
      rw [e] at h
      exact fun n => pn_all (jPM_all d) (jPM_mono d) n (fun i => h i n)
    · trivial
theorem jWB_mono {call : jQ} {k k' : jK} {scr : Option (Nat × (Nat → Int32))} {code : List jN} {x : jX} (Hc : ∀ m as σ K K', (∀ v σ, K v σ → K' v σ) → call m as σ K → call m as σ K') (hk : ∀ v σ, k v σ → k' v σ) (h : jWB call k scr code x) : jWB call k' scr code x :=
  h _ (fun _ _ hy hK => jWB_step (st_mono Hc hk hK hy))
theorem jWPM_mono : ∀ (d : Nat) (m : Nat) (as : List jV) (σ : jS) (K K' : jK), (∀ v σ, K v σ → K' v σ) → jWPM d m as σ K → jWPM d m as σ K'
  | 0, _, _, _, _, _, _, h => h
  | d + 1, m, as, σ, K, K', hK, h => by
    unfold jWPM at h ⊢
    split
    · rename_i e
      rw [e] at h
      exact jWB_mono (jWPM_mono d) hK h
    · rename_i e
      rw [e] at h
      exact h
/-- what is safe and comes to k1, and partially to k2, comes to both -/
theorem jWB_comb {d : Nat} {k1 k2 : jK} {scr : Option (Nat × (Nat → Int32))} {code : List jN} {x : jX} (Hc : ∀ m as σ K1 K2, jWPM d m as σ K1 → jPM d m as σ K2 → jWPM d m as σ (qAnd K1 K2)) (h1 : jWB (jWPM d) k1 scr code x) (h2 : ∀ n, pn (jPM d) k2 scr code n x) : jWB (jWPM d) (qAnd k1 k2) scr code x :=
  h1 (fun y => (∀ n, pn (jPM d) k2 scr code n y) → jWB (jWPM d) (qAnd k1 k2) scr code y) (fun y K hy hK h2 => jWB_step (st_mono (jWPM_mono d) (fun _ _ q => q) (fun z hz => hK z hz.1 hz.2) (pst_comb Hc hy (pst_mono (jPM_mono d) (fun _ _ q => q 0) (fun _ q => q) (pst_all (jPM_all d) (fun n => h2 (n + 1))))))) h2
theorem jWPM_comb : ∀ (d : Nat) (m : Nat) (as : List jV) (σ : jS) (K1 K2 : jK), jWPM d m as σ K1 → jPM d m as σ K2 → jWPM d m as σ (qAnd K1 K2)
  | 0, _, _, _, _, _, h, _ => h
  | d + 1, m, as, σ, K1, K2, h1, h2 => by
    unfold jWPM at h1 ⊢
    unfold jPM at h2
    split
    · rename_i e
      rw [e] at h1 h2
      exact jWB_comb (jWPM_comb d) h1 h2
    · rename_i e
      rw [e] at h1
      exact h1
theorem pn_of {d : Nat} {k : jK} {scr : Option (Nat × (Nat → Int32))} {code : List jN} {x : jX} (Hc : ∀ m as σ K, jWPM d m as σ K → jPM d m as σ K) (h : jWB (jWPM d) k scr code x) : ∀ n, pn (jPM d) k scr code n x :=
  h (fun y => ∀ n, pn (jPM d) k scr code n y) (fun y K hy hK n => by
    match n with
    | 0 => trivial
    | n + 1 => exact pst_mono (jPM_mono d) (fun _ _ q => q) (fun z hz => hK z hz n) (pst_of Hc hy))
theorem jPM_of : ∀ (d : Nat) (m : Nat) (as : List jV) (σ : jS) (K : jK), jWPM d m as σ K → jPM d m as σ K
  | 0, _, _, _, _, _ => trivial
  | d + 1, m, as, σ, K, h => by
    unfold jWPM at h
    unfold jPM
    split
    · rename_i e
      rw [e] at h
      exact pn_of (jPM_of d) h
    · trivial
noncomputable def prun (call : jQ) (k : jK) (scr : Option (Nat × (Nat → Int32))) (code : List jN) (stops : List Nat) (K : jX → Prop) : Nat → jX → Prop
  | 0, x => K x
  | n + 1, x => pst call k scr code x (fun y => match y with
    | (pc, z) => (match jel pc stops with
      | true => K (pc, z)
      | false => prun call k scr code stops K n (pc, z)))
theorem pn_go {d : Nat} {k : jK} {scr : Option (Nat × (Nat → Int32))} {code : List jN} (stops : List Nat) {n : Nat} : ∀ (N : Nat) {x : jX}, prun (jPM d) k scr code stops (pn (jPM d) k scr code n) N x → pn (jPM d) k scr code n x
  | 0, _, h => h
  | N + 1, x, h => by
    refine pn_dec n (pst_mono (jPM_mono d) (fun _ _ q => q) (fun z hz => ?_) h)
    obtain ⟨pc, z⟩ := z
    dsimp only at hz
    cases he : jel pc stops with
    | true => rw [he] at hz; exact hz
    | false => rw [he] at hz; exact pn_go stops N hz
/-- up to a stop, at the cost of one -/
theorem pn_lp {d : Nat} {k : jK} {scr : Option (Nat × (Nat → Int32))} {code : List jN} (stops : List Nat) {n : Nat} (N : Nat) {x : jX} (h : prun (jPM d) k scr code stops (pn (jPM d) k scr code n) (N + 1) x) : pn (jPM d) k scr code (n + 1) x := by
  refine pst_mono (jPM_mono d) (fun _ _ q => q) (fun z hz => ?_) h
  obtain ⟨pc, z⟩ := z
  dsimp only at hz
  cases he : jel pc stops with
  | true => rw [he] at hz; exact hz
  | false => rw [he] at hz; exact pn_go stops N hz
/-- a method, into its body -/
theorem pM {m : Nat} {as : List jV} {σ : jS} {k : jK} {d : Nat} (h : ∀ d n, pn (jPM d) k none (jco m) n (0, jpad (jmi m).2.2.1 (jent as), [], σ)) : jPM d m as σ k := by
  cases d with
  | zero => trivial
  | succ d =>
    unfold jPM
    split
    · exact h d
    · trivial
/-- a contract, partially, at any depth -/
theorem pK {m : Nat} {c : aK} (h : aKP aGI m c) {d : Nat} {as : List jV} {I : Nat → Nat → Nat → Int32} {L : Nat → Nat → Nat → Int64} {k : jK} (has : aAs c.1 as) (hG : gG aGI I) (hk : ∀ v I' L', gG aGI I' → gR c.2.2.1 I L I' L' → aRv c.2.1 v → k v (I', L')) : jPM d m as (I, L) k :=
  jPM_le (Nat.le_max_left d c.2.2.2) (jPM_of _ _ _ _ _ (h (max d c.2.2.2) (Nat.le_max_right _ _) as I L has hG k hk))
theorem use_jp {m : Nat} {A : List aA} {rv : Nat × (Int × Int)} (h : jKP m A rv) {d : Nat} {as : List jV} {I : Nat → Nat → Nat → Int32} {L : Nat → Nat → Nat → Int64} {k kp : jK} (hd : 13 ≤ d) (has : aAs A as) (hG : gG aGI I) (hJ : jJ I) (hp : jPM d m as (I, L) kp) (hk : ∀ v I' L', gG aGI I' → jJ I' → aRv rv v → kp v (I', L') → k v (I', L')) : jWPM d m as (I, L) k :=
  jWPM_mono d m as (I, L) _ _ (fun v σ q => hk v σ.1 σ.2 q.1.1 q.1.2.1 q.1.2.2 q.2) (jWPM_comb d m as (I, L) (fun v σ => gG aGI σ.1 ∧ jJ σ.1 ∧ aRv rv v) kp (h d hd as I L has hG hJ _ (fun v I' L' a b c => ⟨a, b, c⟩)) hp)
