section
/-! the answers of row and text, by their arguments alone -/
noncomputable def eA (R N : Int) (r n : Int32) : Int32 := if r.toInt < 0 then -1 else if R < r.toInt then -1 else if N < n.toInt then -1 else if n.toInt < 0 then -3 else n
theorem lw_ix {i c : Int32} {N : Nat} (hi0 : 0 ≤ i.toInt) (hi : i.toInt + 6 ≤ (N : Int)) (hN : N ≤ 384) (h0 : 0 ≤ c.toInt) (h5 : c.toInt ≤ 5) : vp_in (i + c) N := by
  have e : (i + c).toInt = i.toInt + c.toInt := i32_add (by omega)
  exact vp_in_iff.mpr (by omega)
end
section
/-! no miracles: what comes to k has an end of which k holds -/
noncomputable def mW (T : jQ → jK → (jX → Prop) → Prop) : Prop := ∀ call : jQ, (∀ m as σ, ¬ call m as σ (fun _ _ => False)) → ¬ T call (fun _ _ => False) (fun _ => False)
theorem m_stuck : mW (fun _ _ _ => False) := fun _ _ h => h
theorem m_go (z : jX) : mW (fun _ _ K => K z) := fun _ _ h => h
theorem m_goS (A : Prop) (z : jX) : mW (fun _ _ K => A ∧ K z) := fun _ _ h => h.2
theorem m_br (c : Prop) (z z' : jX) : mW (fun _ _ K => (c → K z) ∧ (¬ c → K z')) := fun _ _ h => (Classical.em c).elim h.1 h.2
theorem m_brn (c : Prop) (z z' : jX) : mW (fun _ _ K => (¬ c → K z) ∧ (c → K z')) := fun _ _ h => (Classical.em c).elim h.2 h.1
theorem m_ret (v : Option jV) (σ : jS) : mW (fun _ k _ => k v σ) := fun _ _ h => h
theorem m_retS (A : Prop) (v : Option jV) (σ : jS) : mW (fun _ k _ => A ∧ k v σ) := fun _ _ h => h.2
theorem m_call (m : Nat) (as : List jV) (σ : jS) (f : Option jV → jS → jX) : mW (fun call _ K => call m as σ (fun v σ' => K (f v σ'))) := fun _ Hc h => Hc m as σ h
theorem sw_no (x : Int32) (d : Nat) : ∀ l : List (Int32 × Nat), ¬ jsw x (fun _ => False) d l
  | [], h => h
  | c :: t, h => (Classical.em (x = c.1)).elim h.1 (fun q => sw_no x d t (h.2 q))
theorem m_sw (x : Int32) (d : Nat) (l : List (Int32 × Nat)) (f : Nat → jX) : mW (fun _ _ K => jsw x (fun q => K (f q)) d l) := fun _ _ h => sw_no x d l h
set_option maxHeartbeats 4000000 in
theorem jmir (scr : Option (Nat × (Nat → Int32))) (i : Instr) (np rA rB : Nat) (rC : Int32) (rL : Int64) (rS : List (Int32 × Nat)) (ls : List (Option jV)) (st : List jV) (I : Nat → Nat → Nat → Int32) (L : Nat → Nat → Nat → Int64) : mW (fun call k K => jstep call k scr i np rA rB rC rL rS ls st I L K) := by
  cases i
  all_goals first | exact m_stuck | exact m_go _ | skip
  case iload z =>
    dsimp only [jstep]
    generalize jget ls rA = q
    rcases q with _ | ((x | x) | x) <;> first | exact m_stuck | exact m_go _ | exact m_goS _ _ | exact m_br _ _ _ | exact m_brn _ _ _ | exact m_ret _ _ | exact m_retS _ _ _ | exact m_call _ _ _ _ | exact m_sw _ _ _ _
  case iload_n z =>
    dsimp only [jstep]
    generalize jget ls rA = q
    rcases q with _ | ((x | x) | x) <;> first | exact m_stuck | exact m_go _ | exact m_goS _ _ | exact m_br _ _ _ | exact m_brn _ _ _ | exact m_ret _ _ | exact m_retS _ _ _ | exact m_call _ _ _ _ | exact m_sw _ _ _ _
  case lload z =>
    dsimp only [jstep]
    generalize jget ls rA = q
    rcases q with _ | ((x | x) | x) <;> first | exact m_stuck | exact m_go _ | exact m_goS _ _ | exact m_br _ _ _ | exact m_brn _ _ _ | exact m_ret _ _ | exact m_retS _ _ _ | exact m_call _ _ _ _ | exact m_sw _ _ _ _
  case lload_n z =>
    dsimp only [jstep]
    generalize jget ls rA = q
    rcases q with _ | ((x | x) | x) <;> first | exact m_stuck | exact m_go _ | exact m_goS _ _ | exact m_br _ _ _ | exact m_brn _ _ _ | exact m_ret _ _ | exact m_retS _ _ _ | exact m_call _ _ _ _ | exact m_sw _ _ _ _
  case aload z =>
    dsimp only [jstep]
    generalize jget ls rA = q
    rcases q with _ | ((x | x) | x) <;> first | exact m_stuck | exact m_go _ | exact m_goS _ _ | exact m_br _ _ _ | exact m_brn _ _ _ | exact m_ret _ _ | exact m_retS _ _ _ | exact m_call _ _ _ _ | exact m_sw _ _ _ _
  case aload_n z =>
    dsimp only [jstep]
    generalize jget ls rA = q
    rcases q with _ | ((x | x) | x) <;> first | exact m_stuck | exact m_go _ | exact m_goS _ _ | exact m_br _ _ _ | exact m_brn _ _ _ | exact m_ret _ _ | exact m_retS _ _ _ | exact m_call _ _ _ _ | exact m_sw _ _ _ _
  case istore z =>
    dsimp only [jstep]
    generalize Nat.blt rA (jlen ls) = b
    rcases b with _ | _ <;> rcases st with _ | ⟨((x | x) | x), t⟩ <;> first | exact m_stuck | exact m_go _ | exact m_goS _ _ | exact m_br _ _ _ | exact m_brn _ _ _ | exact m_ret _ _ | exact m_retS _ _ _ | exact m_call _ _ _ _ | exact m_sw _ _ _ _
  case istore_n z =>
    dsimp only [jstep]
    generalize Nat.blt rA (jlen ls) = b
    rcases b with _ | _ <;> rcases st with _ | ⟨((x | x) | x), t⟩ <;> first | exact m_stuck | exact m_go _ | exact m_goS _ _ | exact m_br _ _ _ | exact m_brn _ _ _ | exact m_ret _ _ | exact m_retS _ _ _ | exact m_call _ _ _ _ | exact m_sw _ _ _ _
  case astore z =>
    dsimp only [jstep]
    generalize Nat.blt rA (jlen ls) = b
    rcases b with _ | _ <;> rcases st with _ | ⟨((x | x) | x), t⟩ <;> first | exact m_stuck | exact m_go _ | exact m_goS _ _ | exact m_br _ _ _ | exact m_brn _ _ _ | exact m_ret _ _ | exact m_retS _ _ _ | exact m_call _ _ _ _ | exact m_sw _ _ _ _
  case astore_n z =>
    dsimp only [jstep]
    generalize Nat.blt rA (jlen ls) = b
    rcases b with _ | _ <;> rcases st with _ | ⟨((x | x) | x), t⟩ <;> first | exact m_stuck | exact m_go _ | exact m_goS _ _ | exact m_br _ _ _ | exact m_brn _ _ _ | exact m_ret _ _ | exact m_retS _ _ _ | exact m_call _ _ _ _ | exact m_sw _ _ _ _
  case lstore z =>
    dsimp only [jstep]
    generalize Nat.blt (rA + 1) (jlen ls) = b
    rcases b with _ | _ <;> rcases st with _ | ⟨((x | x) | x), t⟩ <;> first | exact m_stuck | exact m_go _ | exact m_goS _ _ | exact m_br _ _ _ | exact m_brn _ _ _ | exact m_ret _ _ | exact m_retS _ _ _ | exact m_call _ _ _ _ | exact m_sw _ _ _ _
  case lstore_n z =>
    dsimp only [jstep]
    generalize Nat.blt (rA + 1) (jlen ls) = b
    rcases b with _ | _ <;> rcases st with _ | ⟨((x | x) | x), t⟩ <;> first | exact m_stuck | exact m_go _ | exact m_goS _ _ | exact m_br _ _ _ | exact m_brn _ _ _ | exact m_ret _ _ | exact m_retS _ _ _ | exact m_call _ _ _ _ | exact m_sw _ _ _ _
  case iinc z w =>
    dsimp only [jstep]
    generalize Nat.blt rA (jlen ls) = b
    generalize jget ls rA = q
    rcases b with _ | _ <;> rcases q with _ | ((x | x) | x) <;> first | exact m_stuck | exact m_go _ | exact m_goS _ _ | exact m_br _ _ _ | exact m_brn _ _ _ | exact m_ret _ _ | exact m_retS _ _ _ | exact m_call _ _ _ _ | exact m_sw _ _ _ _
  case iadd =>
    rcases st with _ | ⟨((y | y) | y), _ | ⟨((x | x) | x), t⟩⟩ <;> first | exact m_stuck | exact m_go _ | exact m_goS _ _ | exact m_br _ _ _ | exact m_brn _ _ _ | exact m_ret _ _ | exact m_retS _ _ _ | exact m_call _ _ _ _ | exact m_sw _ _ _ _
  case isub =>
    rcases st with _ | ⟨((y | y) | y), _ | ⟨((x | x) | x), t⟩⟩ <;> first | exact m_stuck | exact m_go _ | exact m_goS _ _ | exact m_br _ _ _ | exact m_brn _ _ _ | exact m_ret _ _ | exact m_retS _ _ _ | exact m_call _ _ _ _ | exact m_sw _ _ _ _
  case imul =>
    rcases st with _ | ⟨((y | y) | y), _ | ⟨((x | x) | x), t⟩⟩ <;> first | exact m_stuck | exact m_go _ | exact m_goS _ _ | exact m_br _ _ _ | exact m_brn _ _ _ | exact m_ret _ _ | exact m_retS _ _ _ | exact m_call _ _ _ _ | exact m_sw _ _ _ _
  case iand =>
    rcases st with _ | ⟨((y | y) | y), _ | ⟨((x | x) | x), t⟩⟩ <;> first | exact m_stuck | exact m_go _ | exact m_goS _ _ | exact m_br _ _ _ | exact m_brn _ _ _ | exact m_ret _ _ | exact m_retS _ _ _ | exact m_call _ _ _ _ | exact m_sw _ _ _ _
  case ior =>
    rcases st with _ | ⟨((y | y) | y), _ | ⟨((x | x) | x), t⟩⟩ <;> first | exact m_stuck | exact m_go _ | exact m_goS _ _ | exact m_br _ _ _ | exact m_brn _ _ _ | exact m_ret _ _ | exact m_retS _ _ _ | exact m_call _ _ _ _ | exact m_sw _ _ _ _
  case ishl =>
    rcases st with _ | ⟨((y | y) | y), _ | ⟨((x | x) | x), t⟩⟩ <;> first | exact m_stuck | exact m_go _ | exact m_goS _ _ | exact m_br _ _ _ | exact m_brn _ _ _ | exact m_ret _ _ | exact m_retS _ _ _ | exact m_call _ _ _ _ | exact m_sw _ _ _ _
  case ishr =>
    rcases st with _ | ⟨((y | y) | y), _ | ⟨((x | x) | x), t⟩⟩ <;> first | exact m_stuck | exact m_go _ | exact m_goS _ _ | exact m_br _ _ _ | exact m_brn _ _ _ | exact m_ret _ _ | exact m_retS _ _ _ | exact m_call _ _ _ _ | exact m_sw _ _ _ _
  case idiv =>
    rcases st with _ | ⟨((y | y) | y), _ | ⟨((x | x) | x), t⟩⟩ <;> first | exact m_stuck | exact m_go _ | exact m_goS _ _ | exact m_br _ _ _ | exact m_brn _ _ _ | exact m_ret _ _ | exact m_retS _ _ _ | exact m_call _ _ _ _ | exact m_sw _ _ _ _
  case irem =>
    rcases st with _ | ⟨((y | y) | y), _ | ⟨((x | x) | x), t⟩⟩ <;> first | exact m_stuck | exact m_go _ | exact m_goS _ _ | exact m_br _ _ _ | exact m_brn _ _ _ | exact m_ret _ _ | exact m_retS _ _ _ | exact m_call _ _ _ _ | exact m_sw _ _ _ _
  case ladd =>
    rcases st with _ | ⟨((y | y) | y), _ | ⟨((x | x) | x), t⟩⟩ <;> first | exact m_stuck | exact m_go _ | exact m_goS _ _ | exact m_br _ _ _ | exact m_brn _ _ _ | exact m_ret _ _ | exact m_retS _ _ _ | exact m_call _ _ _ _ | exact m_sw _ _ _ _
  case lmul =>
    rcases st with _ | ⟨((y | y) | y), _ | ⟨((x | x) | x), t⟩⟩ <;> first | exact m_stuck | exact m_go _ | exact m_goS _ _ | exact m_br _ _ _ | exact m_brn _ _ _ | exact m_ret _ _ | exact m_retS _ _ _ | exact m_call _ _ _ _ | exact m_sw _ _ _ _
  case ldiv =>
    rcases st with _ | ⟨((y | y) | y), _ | ⟨((x | x) | x), t⟩⟩ <;> first | exact m_stuck | exact m_go _ | exact m_goS _ _ | exact m_br _ _ _ | exact m_brn _ _ _ | exact m_ret _ _ | exact m_retS _ _ _ | exact m_call _ _ _ _ | exact m_sw _ _ _ _
  case lrem =>
    rcases st with _ | ⟨((y | y) | y), _ | ⟨((x | x) | x), t⟩⟩ <;> first | exact m_stuck | exact m_go _ | exact m_goS _ _ | exact m_br _ _ _ | exact m_brn _ _ _ | exact m_ret _ _ | exact m_retS _ _ _ | exact m_call _ _ _ _ | exact m_sw _ _ _ _
  case lcmp =>
    rcases st with _ | ⟨((y | y) | y), _ | ⟨((x | x) | x), t⟩⟩ <;> first | exact m_stuck | exact m_go _ | exact m_goS _ _ | exact m_br _ _ _ | exact m_brn _ _ _ | exact m_ret _ _ | exact m_retS _ _ _ | exact m_call _ _ _ _ | exact m_sw _ _ _ _
  case dup2 =>
    rcases st with _ | ⟨((y | y) | y), _ | ⟨((x | x) | x), t⟩⟩ <;> first | exact m_stuck | exact m_go _ | exact m_goS _ _ | exact m_br _ _ _ | exact m_brn _ _ _ | exact m_ret _ _ | exact m_retS _ _ _ | exact m_call _ _ _ _ | exact m_sw _ _ _ _
  case i2l =>
    rcases st with _ | ⟨((x | x) | x), t⟩ <;> first | exact m_stuck | exact m_go _ | exact m_goS _ _ | exact m_br _ _ _ | exact m_brn _ _ _ | exact m_ret _ _ | exact m_retS _ _ _ | exact m_call _ _ _ _ | exact m_sw _ _ _ _
  case l2i =>
    rcases st with _ | ⟨((x | x) | x), t⟩ <;> first | exact m_stuck | exact m_go _ | exact m_goS _ _ | exact m_br _ _ _ | exact m_brn _ _ _ | exact m_ret _ _ | exact m_retS _ _ _ | exact m_call _ _ _ _ | exact m_sw _ _ _ _
  case i2b =>
    rcases st with _ | ⟨((x | x) | x), t⟩ <;> first | exact m_stuck | exact m_go _ | exact m_goS _ _ | exact m_br _ _ _ | exact m_brn _ _ _ | exact m_ret _ _ | exact m_retS _ _ _ | exact m_call _ _ _ _ | exact m_sw _ _ _ _
  case dup =>
    rcases st with _ | ⟨((x | x) | x), t⟩ <;> first | exact m_stuck | exact m_go _ | exact m_goS _ _ | exact m_br _ _ _ | exact m_brn _ _ _ | exact m_ret _ _ | exact m_retS _ _ _ | exact m_call _ _ _ _ | exact m_sw _ _ _ _
  case pop =>
    rcases st with _ | ⟨((x | x) | x), t⟩ <;> first | exact m_stuck | exact m_go _ | exact m_goS _ _ | exact m_br _ _ _ | exact m_brn _ _ _ | exact m_ret _ _ | exact m_retS _ _ _ | exact m_call _ _ _ _ | exact m_sw _ _ _ _
  case pop2 =>
    rcases st with _ | ⟨((x | x) | x), t⟩ <;> first | exact m_stuck | exact m_go _ | exact m_goS _ _ | exact m_br _ _ _ | exact m_brn _ _ _ | exact m_ret _ _ | exact m_retS _ _ _ | exact m_call _ _ _ _ | exact m_sw _ _ _ _
  case ifCond c z =>
    cases c <;> rcases st with _ | ⟨((x | x) | x), t⟩ <;> first | exact m_stuck | exact m_go _ | exact m_goS _ _ | exact m_br _ _ _ | exact m_brn _ _ _ | exact m_ret _ _ | exact m_retS _ _ _ | exact m_call _ _ _ _ | exact m_sw _ _ _ _
  case if_icmp c z =>
    cases c <;> rcases st with _ | ⟨((y | y) | y), _ | ⟨((x | x) | x), t⟩⟩ <;> first | exact m_stuck | exact m_go _ | exact m_goS _ _ | exact m_br _ _ _ | exact m_brn _ _ _ | exact m_ret _ _ | exact m_retS _ _ _ | exact m_call _ _ _ _ | exact m_sw _ _ _ _
  case tableswitch a b c e =>
    rcases st with _ | ⟨((x | x) | x), t⟩ <;> first | exact m_stuck | exact m_go _ | exact m_goS _ _ | exact m_br _ _ _ | exact m_brn _ _ _ | exact m_ret _ _ | exact m_retS _ _ _ | exact m_call _ _ _ _ | exact m_sw _ _ _ _
  case lookupswitch a b =>
    rcases st with _ | ⟨((x | x) | x), t⟩ <;> first | exact m_stuck | exact m_go _ | exact m_goS _ _ | exact m_br _ _ _ | exact m_brn _ _ _ | exact m_ret _ _ | exact m_retS _ _ _ | exact m_call _ _ _ _ | exact m_sw _ _ _ _
  case getfield z =>
    rcases st with _ | ⟨((x | x) | ⟨g, n⟩), t⟩
    · exact m_stuck
    · exact m_stuck
    · exact m_stuck
    · dsimp only [jstep]
      generalize (jSh g).2 = sh
      rcases sh with ⟨ci, fs⟩ | sh
      · dsimp only
        generalize Nat.beq ci rB = b
        generalize fs[rA]? = o
        rcases b with _ | _ <;> rcases o with _ | (f | (_ | _ | z)) <;> first | exact m_stuck | exact m_go _ | exact m_goS _ _ | exact m_br _ _ _ | exact m_brn _ _ _ | exact m_ret _ _ | exact m_retS _ _ _ | exact m_call _ _ _ _ | exact m_sw _ _ _ _
      · exact m_stuck
  case putfield z =>
    rcases st with _ | ⟨((x | x) | ⟨g, n⟩), _ | ⟨((y | y) | ⟨g, n⟩), t⟩⟩
    all_goals first | exact m_stuck | skip
    · dsimp only [jstep]
      generalize (jSh g).2 = sh
      rcases sh with ⟨ci, fs⟩ | sh
      · dsimp only
        generalize Nat.beq ci rB = b
        generalize fs[rA]? = o
        rcases b with _ | _ <;> rcases o with _ | (f | (_ | _ | _ | z)) <;> first | exact m_stuck | exact m_go _ | exact m_goS _ _ | exact m_br _ _ _ | exact m_brn _ _ _ | exact m_ret _ _ | exact m_retS _ _ _ | exact m_call _ _ _ _ | exact m_sw _ _ _ _
      · exact m_stuck
    · dsimp only [jstep]
      generalize (jSh g).2 = sh
      rcases sh with ⟨ci, fs⟩ | sh
      · dsimp only
        generalize Nat.beq ci rB = b
        generalize fs[rA]? = o
        rcases b with _ | _ <;> rcases o with _ | (f | (_ | _ | _ | z)) <;> first | exact m_stuck | exact m_go _ | exact m_goS _ _ | exact m_br _ _ _ | exact m_brn _ _ _ | exact m_ret _ _ | exact m_retS _ _ _ | exact m_call _ _ _ _ | exact m_sw _ _ _ _
      · exact m_stuck
  case iaload =>
    rcases st with _ | ⟨((j | x) | ⟨g, n⟩), _ | ⟨((y | y) | ⟨g, n⟩), t⟩⟩
    all_goals first | exact m_stuck | skip
    dsimp only [jstep]
    generalize jro scr g = q
    generalize (jSh g).2 = sh
    rcases q with _ | q
    · rcases sh with sh | ⟨a, N, (f | (_ | z))⟩ <;> first | exact m_stuck | exact m_go _ | exact m_goS _ _ | exact m_br _ _ _ | exact m_brn _ _ _ | exact m_ret _ _ | exact m_retS _ _ _ | exact m_call _ _ _ _ | exact m_sw _ _ _ _
    · exact m_goS _ _
  case baload =>
    rcases st with _ | ⟨((j | x) | ⟨g, n⟩), _ | ⟨((y | y) | ⟨g, n⟩), t⟩⟩
    all_goals first | exact m_stuck | skip
    dsimp only [jstep]
    generalize (jSh g).2 = sh
    rcases sh with sh | ⟨a, N, (f | (_ | _ | _ | z))⟩ <;> first | exact m_stuck | exact m_go _ | exact m_goS _ _ | exact m_br _ _ _ | exact m_brn _ _ _ | exact m_ret _ _ | exact m_retS _ _ _ | exact m_call _ _ _ _ | exact m_sw _ _ _ _
  case laload =>
    rcases st with _ | ⟨((j | x) | ⟨g, n⟩), _ | ⟨((y | y) | ⟨g, n⟩), t⟩⟩
    all_goals first | exact m_stuck | skip
    dsimp only [jstep]
    generalize (jSh g).2 = sh
    rcases sh with sh | ⟨a, N, (f | (_ | _ | z))⟩ <;> first | exact m_stuck | exact m_go _ | exact m_goS _ _ | exact m_br _ _ _ | exact m_brn _ _ _ | exact m_ret _ _ | exact m_retS _ _ _ | exact m_call _ _ _ _ | exact m_sw _ _ _ _
  case aaload =>
    rcases st with _ | ⟨((j | x) | ⟨g, n⟩), _ | ⟨((y | y) | ⟨g, n⟩), t⟩⟩
    all_goals first | exact m_stuck | skip
    dsimp only [jstep]
    generalize (jSh g).2 = sh
    rcases sh with sh | ⟨a, N, (f | z)⟩ <;> first | exact m_stuck | exact m_go _ | exact m_goS _ _ | exact m_br _ _ _ | exact m_brn _ _ _ | exact m_ret _ _ | exact m_retS _ _ _ | exact m_call _ _ _ _ | exact m_sw _ _ _ _
  case iastore =>
    rcases st with _ | ⟨((x | x) | x), _ | ⟨((j | j) | j), _ | ⟨((y | y) | ⟨g, n⟩), t⟩⟩⟩
    all_goals first | exact m_stuck | skip
    dsimp only [jstep]
    generalize (jSh g).2 = sh
    rcases sh with sh | ⟨a, N, (f | (_ | z))⟩ <;> first | exact m_stuck | exact m_go _ | exact m_goS _ _ | exact m_br _ _ _ | exact m_brn _ _ _ | exact m_ret _ _ | exact m_retS _ _ _ | exact m_call _ _ _ _ | exact m_sw _ _ _ _
  case bastore =>
    rcases st with _ | ⟨((x | x) | x), _ | ⟨((j | j) | j), _ | ⟨((y | y) | ⟨g, n⟩), t⟩⟩⟩
    all_goals first | exact m_stuck | skip
    dsimp only [jstep]
    generalize (jSh g).2 = sh
    rcases sh with sh | ⟨a, N, (f | (_ | _ | _ | z))⟩ <;> first | exact m_stuck | exact m_go _ | exact m_goS _ _ | exact m_br _ _ _ | exact m_brn _ _ _ | exact m_ret _ _ | exact m_retS _ _ _ | exact m_call _ _ _ _ | exact m_sw _ _ _ _
  case lastore =>
    rcases st with _ | ⟨((x | x) | x), _ | ⟨((j | j) | j), _ | ⟨((y | y) | ⟨g, n⟩), t⟩⟩⟩
    all_goals first | exact m_stuck | skip
    dsimp only [jstep]
    generalize (jSh g).2 = sh
    rcases sh with sh | ⟨a, N, (f | (_ | _ | z))⟩ <;> first | exact m_stuck | exact m_go _ | exact m_goS _ _ | exact m_br _ _ _ | exact m_brn _ _ _ | exact m_ret _ _ | exact m_retS _ _ _ | exact m_call _ _ _ _ | exact m_sw _ _ _ _
  case arraylength =>
    rcases st with _ | ⟨((x | x) | ⟨g, n⟩), t⟩
    all_goals first | exact m_stuck | skip
    dsimp only [jstep]
    generalize jro scr g = q
    generalize (jSh g).2 = sh
    rcases q with _ | q
    · rcases sh with sh | ⟨a, N, f⟩ <;> first | exact m_stuck | exact m_go _ | exact m_goS _ _ | exact m_br _ _ _ | exact m_brn _ _ _ | exact m_ret _ _ | exact m_retS _ _ _ | exact m_call _ _ _ _ | exact m_sw _ _ _ _
    · exact m_go _
  case invokevirtual z =>
    dsimp only [jstep]
    generalize jtake rB st [] = q
    rcases q with _ | ⟨(_ | ⟨((x | x) | q), as⟩), t⟩
    all_goals first | exact m_stuck | skip
    dsimp only
    generalize jcls q.1 rS = b
    generalize Nat.ble (jcat t) 8 = c
    rcases b with _ | _ <;> rcases c with _ | _ <;> first | exact m_stuck | exact m_go _ | exact m_goS _ _ | exact m_br _ _ _ | exact m_brn _ _ _ | exact m_ret _ _ | exact m_retS _ _ _ | exact m_call _ _ _ _ | exact m_sw _ _ _ _
  case invokestatic z =>
    dsimp only [jstep]
    generalize Nat.beq rA 999 = b9
    rcases b9 with _ | _
    · dsimp only
      generalize Nat.beq rA 998 = b8
      rcases b8 with _ | _
      · dsimp only
        generalize Nat.beq rA 997 = b7
        rcases b7 with _ | _
        · dsimp only
          generalize jtake rB st [] = q
          rcases q with _ | ⟨as, t⟩
          · exact m_stuck
          · dsimp only
            generalize Nat.ble (jcat t) 8 = c
            rcases c with _ | _ <;> first | exact m_stuck | exact m_go _ | exact m_goS _ _ | exact m_br _ _ _ | exact m_brn _ _ _ | exact m_ret _ _ | exact m_retS _ _ _ | exact m_call _ _ _ _ | exact m_sw _ _ _ _
        · rcases st with _ | ⟨((y | y) | y), _ | ⟨((x | x) | x), t⟩⟩
          all_goals first | exact m_stuck | skip
          dsimp only
          generalize Nat.ble (jcat t) 8 = c
          rcases c with _ | _ <;> first | exact m_stuck | exact m_go _ | exact m_goS _ _ | exact m_br _ _ _ | exact m_brn _ _ _ | exact m_ret _ _ | exact m_retS _ _ _ | exact m_call _ _ _ _ | exact m_sw _ _ _ _
      · rcases st with _ | ⟨((y | y) | y), _ | ⟨((x | x) | x), t⟩⟩
        all_goals first | exact m_stuck | skip
        dsimp only
        generalize Nat.ble (jcat t) 8 = c
        rcases c with _ | _ <;> first | exact m_stuck | exact m_go _ | exact m_goS _ _ | exact m_br _ _ _ | exact m_brn _ _ _ | exact m_ret _ _ | exact m_retS _ _ _ | exact m_call _ _ _ _ | exact m_sw _ _ _ _
    · rcases st with _ | ⟨((a | a) | a), _ | ⟨((b | b) | b), _ | ⟨((c | c) | ⟨g', n'⟩), _ | ⟨((e | e) | e), _ | ⟨((h | h) | ⟨g, m⟩), t⟩⟩⟩⟩⟩
      all_goals first | exact m_stuck | skip
      dsimp only
      generalize (jSh g).2 = sh
      generalize (jSh g').2 = sh'
      generalize Nat.ble (jcat t) 8 = c
      rcases sh with sh | ⟨u, N, (f | (_ | z))⟩ <;> rcases sh' with sh' | ⟨u', N', (f' | (_ | z'))⟩ <;> rcases c with _ | _ <;> first | exact m_stuck | exact m_go _ | exact m_goS _ _ | exact m_br _ _ _ | exact m_brn _ _ _ | exact m_ret _ _ | exact m_retS _ _ _ | exact m_call _ _ _ _ | exact m_sw _ _ _ _
  case ireturn =>
    rcases st with _ | ⟨((x | x) | x), _ | ⟨y, t⟩⟩
    all_goals first | exact m_stuck | skip
    rcases rA with _ | rA <;> first | exact m_stuck | exact m_go _ | exact m_goS _ _ | exact m_br _ _ _ | exact m_brn _ _ _ | exact m_ret _ _ | exact m_retS _ _ _ | exact m_call _ _ _ _ | exact m_sw _ _ _ _
  case lreturn =>
    rcases st with _ | ⟨((x | x) | x), _ | ⟨y, t⟩⟩ <;> first | exact m_stuck | exact m_go _ | exact m_goS _ _ | exact m_br _ _ _ | exact m_brn _ _ _ | exact m_ret _ _ | exact m_retS _ _ _ | exact m_call _ _ _ _ | exact m_sw _ _ _ _
  case return_ =>
    rcases st with _ | ⟨y, t⟩ <;> first | exact m_stuck | exact m_go _ | exact m_goS _ _ | exact m_br _ _ _ | exact m_brn _ _ _ | exact m_ret _ _ | exact m_retS _ _ _ | exact m_call _ _ _ _ | exact m_sw _ _ _ _
theorem st_no {call : jQ} {scr : Option (Nat × (Nat → Int32))} {code : List jN} {x : jX} (Hc : ∀ m as σ, ¬ call m as σ (fun _ _ => False)) : ¬ jst call (fun _ _ => False) scr code x (fun _ => False) := by
  obtain ⟨pc, ls, st, I, L⟩ := x
  dsimp only [jst]
  generalize jat code pc = q
  rcases q with _ | ⟨i, a, np, rA, rB, rC, rL, rS⟩
  · exact fun h => h
  · exact jmir scr i np rA rB rC rL rS ls st I L call Hc
theorem jWPM_no : ∀ (d m : Nat) (as : List jV) (σ : jS), ¬ jWPM d m as σ (fun _ _ => False)
  | 0, _, _, _, h => h
  | d + 1, m, as, σ, h => by
    unfold jWPM at h
    split at h
    · exact h (fun _ => False) (fun y K hy hK => st_no (jWPM_no d) (st_mono (jWPM_mono d) (fun _ _ q => q) hK hy))
    · exact h
/-- what a contract says holds of what the partial machine comes to -/
theorem use_tr {m : Nat} {c : aK} (h : aKP aGI m c) {as : List jV} {I I' : jI} {L L' : jL} {v : Option jV} (has : aAs c.1 as) (hG : gG aGI I) (hp : ∀ (d : Nat) (k : jK), k v (I', L') → jPM d m as (I, L) k) : gG aGI I' ∧ gR c.2.2.1 I L I' L' ∧ aRv c.2.1 v := by
  have t := jWPM_comb c.2.2.2 m as (I, L) (fun v σ => gG aGI σ.1 ∧ gR c.2.2.1 I L σ.1 σ.2 ∧ aRv c.2.1 v) (fun w σ => w = v ∧ σ = (I', L')) (h c.2.2.2 (Nat.le_refl _) as I L has hG _ (fun v I' L' a b c => ⟨a, b, c⟩)) (hp _ _ ⟨rfl, rfl⟩)
  refine Classical.byContradiction (fun n => jWPM_no _ _ _ _ (jWPM_mono _ _ _ _ _ _ (fun w σ q => n ?_) t))
  obtain ⟨q1, q2, q3⟩ := q
  subst q2
  subst q3
  exact q1
end
section
/-! pure helpers: ints, bounds, answers of 0 and 1 -/
theorem cmp_lt {x y : Int64} : lg_cmp x y < 0 ↔ x.toInt < y.toInt := by rw [cmp_lg]; exact (hop_q .lt _ _).symm
theorem cmp_gt {x y : Int64} : 0 < lg_cmp x y ↔ y.toInt < x.toInt := by rw [cmp_lg]; exact (hop_q .gt _ _).symm
theorem t64 (x : Int32) : (Int32.toInt64 x).toInt = x.toInt := Int32.toInt_toInt64 x
theorem b01 {P : Prop} [Decidable P] : ((if P then (1 : Int32) else 0) = 0) ↔ ¬ P := by
  by_cases h : P
  · rw [if_pos h]; exact ⟨fun z => absurd z (by decide), fun z => absurd h z⟩
  · rw [if_neg h]; exact ⟨fun _ => h, fun _ => rfl⟩
theorem in_t (a b c : Int64) (I : jI) : d124 a b c I = if b.toInt ≤ a.toInt ∧ a.toInt ≤ c.toInt then 1 else 0 := by
  unfold d124
  by_cases h1 : a.toInt < b.toInt
  · rw [if_pos (cmp_lt.mpr h1), if_neg (by omega)]
  · rw [if_neg (fun q => h1 (cmp_lt.mp q))]
    by_cases h2 : c.toInt < a.toInt
    · rw [if_pos (cmp_gt.mpr h2), if_neg (by omega)]
    · rw [if_neg (fun q => h2 (cmp_gt.mp q)), if_pos (by omega)]
theorem in_i (x : Int32) (b c : Int64) (I : jI) : d124 (Int32.toInt64 x) b c I = if b.toInt ≤ x.toInt ∧ x.toInt ≤ c.toInt then 1 else 0 := by rw [in_t, t64]
theorem i32_inc {x : Int32} (h : x.toInt ≤ 1000000) : (x + 1).toInt = x.toInt + 1 := by
  have c : (1 : Int32).toInt = 1 := rfl
  have r := i32_rng x
  rw [i32_add (by rw [c]; omega), c]
theorem isText_t (a : Int32) (I : jI) : d129 a I = if 0 ≤ a.toInt ∧ a.toInt ≤ 3 then 1 else 0 := by unfold d129; rw [in_i]; rfl
theorem isRow_t (a : Int32) (I : jI) : d128 a I = if 0 ≤ a.toInt ∧ a.toInt ≤ 5 then 1 else 0 := by unfold d128; rw [in_i]; rfl
theorem names_t (a : Int32) (I : jI) : d15g2 a I = if 0 ≤ a.toInt ∧ a.toInt ≤ 3 then 1 else 0 := by
  unfold d15g2
  have e : (nI 4).toInt = 4 := rfl
  have z : (0 : Int32).toInt = 0 := rfl
  by_cases h1 : a.toInt < 0
  · rw [if_pos (lt_t.mpr (by rw [z]; exact h1)), if_neg (by omega)]
  · rw [if_neg (fun q => h1 (by have := lt_t.mp q; rw [z] at this; exact this))]
    by_cases h2 : 4 ≤ a.toInt
    · rw [if_pos (le_t.mpr (by rw [e]; exact h2)), if_neg (by omega)]
    · rw [if_neg (fun q => h2 (by have := le_t.mp q; rw [e] at this; exact this)), if_pos (by omega)]
theorem names_r (a : Int32) (I : jI) : d15g1 a I = if 0 ≤ a.toInt ∧ a.toInt ≤ 5 then 1 else 0 := by
  unfold d15g1
  have e : (nI 6).toInt = 6 := rfl
  have z : (0 : Int32).toInt = 0 := rfl
  by_cases h1 : a.toInt < 0
  · rw [if_pos (lt_t.mpr (by rw [z]; exact h1)), if_neg (by omega)]
  · rw [if_neg (fun q => h1 (by have := lt_t.mp q; rw [z] at this; exact this))]
    by_cases h2 : 6 ≤ a.toInt
    · rw [if_pos (le_t.mpr (by rw [e]; exact h2)), if_neg (by omega)]
    · rw [if_neg (fun q => h2 (by have := le_t.mp q; rw [e] at this; exact this)), if_pos (by omega)]
theorem jup_at {I : jI} {g i j : Nat} {x : Int32} : jup I g i j x g i j = x := by unfold jup; rw [if_pos ⟨rfl, rfl, rfl⟩]
theorem jup_g {I : jI} {g0 g i j : Nat} {x : Int32} (h : ¬ g = g0) : jup I g0 i j x g = I g := by
  funext a b
  unfold jup
  exact if_neg (fun q => h q.1)
theorem le0_t {x : Int32} : 0 ≤ x ↔ 0 ≤ x.toInt := by rw [le_t]; rfl
theorem lt0_t {x : Int32} : x < 0 ↔ x.toInt < 0 := by rw [lt_t]; rfl
theorem eq_t {x y : Int32} : x = y ↔ x.toInt = y.toInt := Int32.toInt_inj.symm
theorem ix60 {t x : Int32} (h0 : 0 ≤ t.toInt) (h3 : t.toInt ≤ 3) (g0 : 0 ≤ x.toInt) (g : x.toInt ≤ 60) : Int32.toNatClampNeg (60 * t + x) = 60 * t.toNatClampNeg + x.toNatClampNeg := by
  have c : (60 : Int32).toInt = 60 := rfl
  have e1 : (60 * t).toInt = 60 * t.toInt := by rw [i32_mul (by rw [c]; omega), c]
  have e2 : (60 * t + x).toInt = 60 * t.toInt + x.toInt := by rw [i32_add (by rw [e1]; omega), e1]
  have n0 := cl_t h0
  have n1 := cl_t g0
  have n2 := cl_t (x := 60 * t + x) (by omega)
  omega
theorem jPM_and {d m : Nat} {as : List jV} {σ : jS} {k1 k2 : jK} (h1 : jPM d m as σ k1) (h2 : jPM d m as σ k2) : jPM d m as σ (fun v σ => k1 v σ ∧ k2 v σ) :=
  jPM_mono d m as σ _ _ (fun v σ h => ⟨h 0, h 1⟩) (jPM_all d m as σ (fun n => match n with | 0 => k1 | _ + 1 => k2) (fun n => match n with | 0 => h1 | _ + 1 => h2))
theorem find_c {w : Int32} {I : jI} {g : Nat} (h : ¬ g = 0) (h' : ¬ g = 12) : (d113 w I).2 g = I g := (jup_g h').trans (jup_g h)
theorem find_m {w : Int32} {I : jI} {g : Nat} (h : ¬ g = 31) (h' : ¬ g = 39) : (d126 w I).2 g = I g := (jup_g h').trans (jup_g h)
end
section
/-! TEXTS: the class's and the reference's are the same -/
noncomputable def RT (I : jI) : Prop := (∀ t, t < 4 → I 37 0 t = I 16 0 t) ∧ ∀ t j, t < 4 → j < 60 → I 38 0 (60 * t + j) = I 30 t j
theorem RT_fr {W : List Nat} {I I' : jI} (h : RT I) (f : fr W I I') (hw : (jel 16 W || jel 30 W || jel 37 W || jel 38 W) = false) : RT I' := by
  simp only [Bool.or_eq_false_iff] at hw
  obtain ⟨⟨⟨w1, w2⟩, w3⟩, w4⟩ := hw
  refine ⟨fun t ht => ?_, fun t j ht hj => ?_⟩
  · rw [fr_arr f (g := 37) (fun _ => rfl) w3, fr_arr f (g := 16) (fun _ => rfl) w1]; exact h.1 t ht
  · rw [fr_arr f (g := 38) (fun _ => rfl) w4, fr_arr f (g := 30) (fun _ => rfl) w2]; exact h.2 t j ht hj
theorem fill_t {y0 : Nat} {v : Int32} : ∀ (F : Nat) (x : Int32) (I : jI), 0 ≤ x.toInt → x.toInt ≤ 60 → 60 - x.toInt < (F : Int) → ∃ I', d2g30_5 y0 v (nI 60) F x I = some I' ∧ ∀ g i j, I' g i j = if g = 30 ∧ i = y0 ∧ x.toInt ≤ (j : Int) ∧ j < 60 then v else I g i j
  | 0, _, _, _, _, h => by exfalso; simp at h; omega
  | F + 1, x, I, h0, h1, h2 => by
    have e60 : (nI 60).toInt = 60 := rfl
    have n := cl_t h0
    rw [d2g30_5]
    by_cases q : nI 60 ≤ x
    · rw [if_pos q]
      rw [le_t, e60] at q
      exact ⟨I, rfl, fun g i j => by rw [if_neg (fun z => by omega)]⟩
    · rw [if_neg q]
      rw [le_t, e60] at q
      have e := i32_inc (x := x) (by omega)
      obtain ⟨I', e1, e2⟩ := fill_t F (x + 1) (jup I 30 y0 x.toNatClampNeg v) (by omega) (by omega) (by omega)
      refine ⟨I', e1, fun g i j => ?_⟩
      rw [e2, e]
      by_cases c : g = 30 ∧ i = y0 ∧ x.toInt ≤ (j : Int) ∧ j < 60
      · rw [if_pos c]
        by_cases c2 : x.toInt + 1 ≤ (j : Int)
        · rw [if_pos ⟨c.1, c.2.1, c2, c.2.2.2⟩]
        · rw [if_neg (fun z => c2 z.2.2.1)]
          unfold jup
          rw [if_pos ⟨c.1, c.2.1, by omega⟩]
      · rw [if_neg c, if_neg (fun z => c ⟨z.1, z.2.1, by omega, z.2.2.2⟩), jup_of (fun z => c ⟨z.1, z.2.1, by omega, by omega⟩)]
theorem fill_m {t y2 : Int32} (t0 : 0 ≤ t.toInt) (t3 : t.toInt ≤ 3) : ∀ (F : Nat) (x : Int32) (I : jI), 0 ≤ x.toInt → x.toInt ≤ 60 → 60 - x.toInt < (F : Int) → ∃ I', d139_34 t y2 F x I = some I' ∧ ∀ g i j, I' g i j = if g = 38 ∧ i = 0 ∧ 60 * t.toInt + x.toInt ≤ (j : Int) ∧ (j : Int) < 60 * t.toInt + 60 then 32 else I g i j
  | 0, _, _, _, _, h => by exfalso; simp at h; omega
  | F + 1, x, I, h0, h1, h2 => by
    have e60 : (60 : Int32).toInt = 60 := rfl
    have n := cl_t h0
    have nt := cl_t t0
    rw [d139_34]
    by_cases q : 60 ≤ x
    · rw [if_pos q]
      rw [le_t, e60] at q
      exact ⟨I, rfl, fun g i j => by rw [if_neg (fun z => by omega)]⟩
    · rw [if_neg q]
      rw [le_t, e60] at q
      have e := i32_inc (x := x) (by omega)
      have ei := ix60 t0 t3 h0 (x := x) (by omega)
      obtain ⟨I', e1, e2⟩ := fill_m t0 t3 F (x + 1) (jup I 38 0 (Int32.toNatClampNeg (60 * t + x)) 32) (by omega) (by omega) (by omega)
      refine ⟨I', e1, fun g i j => ?_⟩
      rw [e2, e, ei]
      by_cases c : g = 38 ∧ i = 0 ∧ 60 * t.toInt + x.toInt ≤ (j : Int) ∧ (j : Int) < 60 * t.toInt + 60
      · rw [if_pos c]
        by_cases c2 : 60 * t.toInt + (x.toInt + 1) ≤ (j : Int)
        · rw [if_pos ⟨c.1, c.2.1, c2, c.2.2.2⟩]
        · rw [if_neg (fun z => c2 z.2.2.1)]
          unfold jup
          rw [if_pos ⟨c.1, c.2.1, by omega⟩]
      · rw [if_neg c, if_neg (fun z => c ⟨z.1, z.2.1, by omega, z.2.2.2⟩), jup_of (fun z => c ⟨z.1, z.2.1, by omega, by omega⟩)]
noncomputable def txOK (t n : Int32) : Prop := (0 ≤ t.toInt ∧ t.toInt ≤ 3) ∧ 0 ≤ n.toInt ∧ n.toInt ≤ 60
noncomputable def txC (t n : Int32) (I I' : jI) : Prop := (txOK t n → (∀ x, I' 16 0 x = if x = t.toNatClampNeg then n else I 16 0 x) ∧ ∀ x j, I' 30 x j = if x = t.toNatClampNeg ∧ j < 60 then 32 else I 30 x j) ∧ (¬ txOK t n → I' 16 = I 16 ∧ I' 30 = I 30)
noncomputable def txM (t n : Int32) (I I' : jI) : Prop := (txOK t n → (∀ x, I' 37 0 x = if x = t.toNatClampNeg then n else I 37 0 x) ∧ ∀ j, I' 38 0 j = if 60 * t.toNatClampNeg ≤ j ∧ j < 60 * t.toNatClampNeg + 60 then 32 else I 38 0 j) ∧ (¬ txOK t n → I' 37 = I 37 ∧ I' 38 = I 38)
theorem le60_t {n : Int32} : n ≤ 60 ↔ n.toInt ≤ 60 := by rw [le_t]; rfl
theorem text_c (t n : Int32) (I : jI) : ∃ r, d74 t n I = some r ∧ r.1 = eA 3 60 t n ∧ txC t n I r.2 := by
  unfold d74
  rw [names_t]
  by_cases h1 : 0 ≤ t.toInt ∧ t.toInt ≤ 3
  · rw [if_neg (by rw [b01]; exact fun z => z h1)]
    by_cases h2 : n.toInt ≤ 60
    · rw [if_pos (le60_t.mpr h2)]
      by_cases h3 : 0 ≤ n.toInt
      · rw [if_pos (le0_t.mpr h3)]
        obtain ⟨I', e1, e2⟩ := fill_t (y0 := t.toNatClampNeg) (v := 32) 70 0 I (by decide) (by decide) (by decide)
        unfold d20g2 d2g30
        rw [e1]
        refine ⟨_, rfl, ?_, fun _ => ⟨fun x => ?_, fun x j => ?_⟩, fun z => absurd ⟨h1, h3, h2⟩ z⟩
        · unfold eA; rw [if_neg (by omega), if_neg (by omega), if_neg (by omega), if_neg (by omega)]
        · show jup I' 16 0 t.toNatClampNeg n 16 0 x = _
          unfold jup
          by_cases c : x = t.toNatClampNeg
          · rw [if_pos ⟨rfl, rfl, c⟩, if_pos c]
          · rw [if_neg (fun z => c z.2.2), if_neg c, e2, if_neg (fun z => absurd z.1 (by decide))]
        · show jup I' 16 0 t.toNatClampNeg n 30 x j = _
          rw [jup_of (fun z => absurd z.1 (by decide)), e2]
          have z0 : (0 : Int32).toInt = 0 := rfl
          by_cases c : x = t.toNatClampNeg ∧ j < 60
          · rw [if_pos c, if_pos ⟨rfl, c.1, by rw [z0]; omega, c.2⟩]
          · rw [if_neg c, if_neg (fun z => c ⟨z.2.1, z.2.2.2⟩)]
      · rw [if_neg (fun z => h3 (le0_t.mp z))]
        refine ⟨_, rfl, ?_, fun z => absurd z.2.1 h3, fun _ => ⟨?_, ?_⟩⟩
        · unfold eA; rw [if_neg (by omega), if_neg (by omega), if_neg (by omega), if_pos (by omega)]; rfl
        · exact find_c (by decide) (by decide)
        · exact find_c (by decide) (by decide)
    · rw [if_neg (fun z => h2 (le60_t.mp z))]
      refine ⟨_, rfl, ?_, fun z => absurd z.2.2 h2, fun _ => ⟨rfl, rfl⟩⟩
      unfold eA; rw [if_neg (by omega), if_neg (by omega), if_pos (by omega)]
  · rw [if_pos (by rw [b01]; exact h1)]
    refine ⟨_, rfl, ?_, fun z => absurd z.1 h1, fun _ => ⟨rfl, rfl⟩⟩
    unfold eA
    by_cases h : t.toInt < 0
    · rw [if_pos h]
    · rw [if_neg h, if_pos (by omega)]
theorem text_m (t n : Int32) (I : jI) : ∃ r, d139 t n I = some r ∧ r.1 = eA 3 60 t n ∧ txM t n I r.2 := by
  unfold d139
  rw [isText_t]
  by_cases h1 : 0 ≤ t.toInt ∧ t.toInt ≤ 3
  · rw [if_neg (by rw [b01]; exact fun z => z h1)]
    by_cases h2 : n.toInt ≤ 60
    · rw [if_pos (le60_t.mpr h2)]
      by_cases h3 : 0 ≤ n.toInt
      · rw [if_pos (le0_t.mpr h3)]
        obtain ⟨I', e1, e2⟩ := fill_m (t := t) (y2 := n) h1.1 h1.2 70 0 (jup I 37 0 t.toNatClampNeg n) (by decide) (by decide) (by decide)
        have nt := cl_t h1.1
        rw [e1]
        refine ⟨_, rfl, ?_, fun _ => ⟨fun x => ?_, fun j => ?_⟩, fun z => absurd ⟨h1, h3, h2⟩ z⟩
        · unfold eA; rw [if_neg (by omega), if_neg (by omega), if_neg (by omega), if_neg (by omega)]
        · show I' 37 0 x = _
          rw [e2, if_neg (fun z => absurd z.1 (by decide))]
          unfold jup
          by_cases c : x = t.toNatClampNeg
          · rw [if_pos ⟨rfl, rfl, c⟩, if_pos c]
          · rw [if_neg (fun z => c z.2.2), if_neg c]
        · show I' 38 0 j = _
          have z0 : (0 : Int32).toInt = 0 := rfl
          rw [e2, z0]
          by_cases c : 60 * t.toNatClampNeg ≤ j ∧ j < 60 * t.toNatClampNeg + 60
          · rw [if_pos c, if_pos ⟨rfl, rfl, by omega, by omega⟩]
          · rw [if_neg c, if_neg (fun z => c (by omega)), jup_of (fun z => absurd z.1 (by decide))]
      · rw [if_neg (fun z => h3 (le0_t.mp z))]
        refine ⟨_, rfl, ?_, fun z => absurd z.2.1 h3, fun _ => ⟨?_, ?_⟩⟩
        · unfold eA; rw [if_neg (by omega), if_neg (by omega), if_neg (by omega), if_pos (by omega)]; rfl
        · exact find_m (by decide) (by decide)
        · exact find_m (by decide) (by decide)
    · rw [if_neg (fun z => h2 (le60_t.mp z))]
      refine ⟨_, rfl, ?_, fun z => absurd z.2.2 h2, fun _ => ⟨rfl, rfl⟩⟩
      unfold eA; rw [if_neg (by omega), if_neg (by omega), if_pos (by omega)]
  · rw [if_pos (by rw [b01]; exact h1)]
    refine ⟨_, rfl, ?_, fun z => absurd z.1 h1, fun _ => ⟨rfl, rfl⟩⟩
    unfold eA
    by_cases h : t.toInt < 0
    · rw [if_pos h]
    · rw [if_neg h, if_pos (by omega)]
theorem RT_text {t n : Int32} {I I1 I2 : jI} (h : RT I) (f1 : fr [12, 16, 30, 1013] I I1) (f2 : fr [37, 38, 39, 32013] I1 I2) (c : txC t n I I1) (m : txM t n I1 I2) : RT I2 := by
  have w16 : I2 16 = I1 16 := fr_arr f2 (fun _ => rfl) rfl
  have w30 : I2 30 = I1 30 := fr_arr f2 (fun _ => rfl) rfl
  have w37 : I1 37 = I 37 := fr_arr f1 (fun _ => rfl) rfl
  have w38 : I1 38 = I 38 := fr_arr f1 (fun _ => rfl) rfl
  by_cases ok : txOK t n
  · have c := c.1 ok
    have m := m.1 ok
    have nt := cl_t ok.1.1
    have o3 := ok.1.2
    refine ⟨fun x hx => ?_, fun x j hx hj => ?_⟩
    · rw [m.1, w16, c.1, w37, h.1 x hx]
    · rw [m.2, w30, c.2, w38, h.2 x j hx hj]
      by_cases q : x = t.toNatClampNeg
      · rw [if_pos (by omega : 60 * t.toNatClampNeg ≤ 60 * x + j ∧ 60 * x + j < 60 * t.toNatClampNeg + 60), if_pos (⟨q, hj⟩ : x = t.toNatClampNeg ∧ j < 60)]
      · rw [if_neg (by omega : ¬ (60 * t.toNatClampNeg ≤ 60 * x + j ∧ 60 * x + j < 60 * t.toNatClampNeg + 60)), if_neg (fun z => q z.1 : ¬ (x = t.toNatClampNeg ∧ j < 60))]
  · have c := c.2 ok
    have m := m.2 ok
    refine ⟨fun x hx => ?_, fun x j hx hj => ?_⟩
    · rw [m.1, w16, c.1, w37]; exact h.1 x hx
    · rw [m.2, w30, c.2, w38]; exact h.2 x j hx hj
end
section
/-! put: the answers, the TEXTS -/
noncomputable def puOK (I : jI) (g : Nat) (t i : Int32) : Prop := (0 ≤ t.toInt ∧ t.toInt ≤ 3) ∧ 0 ≤ i.toInt ∧ i.toInt < (I g 0 t.toNatClampNeg).toInt
noncomputable def puC (t i v : Int32) (I I' : jI) : Prop := (puOK I 16 t i → ∀ x j, I' 30 x j = if x = t.toNatClampNeg ∧ j = i.toNatClampNeg then v.toInt8.toInt32 else I 30 x j) ∧ (¬ puOK I 16 t i → I' 30 = I 30)
noncomputable def puM (t i v : Int32) (I I' : jI) : Prop := (puOK I 37 t i → ∀ j, I' 38 0 j = if j = 60 * t.toNatClampNeg + i.toNatClampNeg then v.toInt8.toInt32 else I 38 0 j) ∧ (¬ puOK I 37 t i → I' 38 = I 38)
theorem put_c (t i v : Int32) (I : jI) : ∃ r, d75 t i v I = some r ∧ (¬ (0 ≤ t.toInt ∧ t.toInt ≤ 3) → r.1 = -1) ∧ ((0 ≤ t.toInt ∧ t.toInt ≤ 3) → ¬ puOK I 16 t i → r.1 = -3) ∧ (puOK I 16 t i → r.1 = I 30 t.toNatClampNeg i.toNatClampNeg + 1000) ∧ puC t i v I r.2 := by
  unfold d75
  rw [names_t]
  by_cases h1 : 0 ≤ t.toInt ∧ t.toInt ≤ 3
  · rw [if_neg (by rw [b01]; exact fun z => z h1)]
    by_cases h2 : d22g2 t i I = 0
    · rw [if_pos h2]
      have ok : puOK I 16 t i := by
        refine ⟨h1, ?_⟩
        unfold d22g2 at h2
        split at h2
        · exact absurd h2 (by decide)
        · split at h2
          · exact absurd h2 (by decide)
          · split at h2
            · rename_i a b
              rw [lt0_t] at a
              rw [lt_t] at b
              omega
            · exact absurd h2 (by decide)
      refine ⟨_, rfl, fun z => absurd h1 z, fun _ z => absurd ok z, fun _ => rfl, fun _ x j => ?_, fun z => absurd ok z⟩
      show jup I 30 t.toNatClampNeg i.toNatClampNeg v.toInt8.toInt32 30 x j = _
      unfold jup
      by_cases c : x = t.toNatClampNeg ∧ j = i.toNatClampNeg
      · rw [if_pos ⟨rfl, c⟩, if_pos c]
      · rw [if_neg (fun z => c z.2), if_neg c]
    · rw [if_neg h2]
      have no : ¬ puOK I 16 t i := by
        intro ok
        refine h2 ?_
        unfold d22g2 d16g2
        have e1 : ¬ I 16 0 t.toNatClampNeg = -1 := fun z => by
          have := ok.2
          rw [z] at this
          have c : (-1 : Int32).toInt = -1 := rfl
          omega
        rw [if_neg e1, if_neg (by decide), if_neg (fun z => by rw [lt0_t] at z; have := ok.2.1; omega), if_pos (lt_t.mpr ok.2.2)]
      refine ⟨_, rfl, fun z => absurd h1 z, fun _ _ => rfl, fun z => absurd z no, fun z => absurd z no, fun _ => ?_⟩
      exact find_c (by decide) (by decide)
  · rw [if_pos (by rw [b01]; exact h1)]
    exact ⟨_, rfl, fun _ => rfl, fun z => absurd z h1, fun z => absurd z.1 h1, fun z => absurd z.1 h1, fun _ => rfl⟩
theorem gi_len {I : jI} (h : gG aGI I) {t : Nat} (ht : t ≤ 3) : -1 ≤ (I 37 0 t).toInt ∧ (I 37 0 t).toInt ≤ 60 := h (37, (0, 0), (0, 3), (-1, 60)) (by decide) 0 t (by simp) (by simp) (by simp) (by simp; omega)
theorem put_m (t i v : Int32) {I : jI} (hG : gG aGI I) : ∃ r, d140 t i v I = some r ∧ (¬ (0 ≤ t.toInt ∧ t.toInt ≤ 3) → r.1 = -1) ∧ ((0 ≤ t.toInt ∧ t.toInt ≤ 3) → ¬ puOK I 37 t i → r.1 = -3) ∧ (puOK I 37 t i → r.1 = I 38 0 (60 * t.toNatClampNeg + i.toNatClampNeg) + 1000) ∧ puM t i v I r.2 := by
  unfold d140
  rw [isText_t]
  by_cases h1 : 0 ≤ t.toInt ∧ t.toInt ≤ 3
  · rw [if_neg (by rw [b01]; exact fun z => z h1)]
    have nt := cl_t h1.1
    have hl := gi_len hG (t := t.toNatClampNeg) (by omega)
    have c1 : (1 : Int32).toInt = 1 := rfl
    have es : (I 37 0 t.toNatClampNeg - 1).toInt = (I 37 0 t.toNatClampNeg).toInt - 1 := by rw [i32_sub (by rw [c1]; omega), c1]
    by_cases h2 : 0 ≤ (I 37 0 t.toNatClampNeg).toInt
    · rw [if_pos (le0_t.mpr h2), in_i, t64, es]
      by_cases h3 : 0 ≤ i.toInt ∧ i.toInt ≤ (I 37 0 t.toNatClampNeg).toInt - 1
      · rw [if_neg (by rw [b01]; exact fun z => z h3)]
        have ok : puOK I 37 t i := ⟨h1, h3.1, by omega⟩
        have ei := ix60 h1.1 h1.2 h3.1 (by omega)
        rw [ei]
        refine ⟨_, rfl, fun z => absurd h1 z, fun _ z => absurd ok z, fun _ => rfl, fun _ j => ?_, fun z => absurd ok z⟩
        show jup I 38 0 (60 * t.toNatClampNeg + i.toNatClampNeg) v.toInt8.toInt32 38 0 j = _
        unfold jup
        by_cases c : j = 60 * t.toNatClampNeg + i.toNatClampNeg
        · rw [if_pos ⟨rfl, rfl, c⟩, if_pos c]
        · rw [if_neg (fun z => c z.2.2), if_neg c]
      · rw [if_pos (by rw [b01]; exact h3)]
        have no : ¬ puOK I 37 t i := fun ok => h3 ⟨ok.2.1, by have := ok.2.2; omega⟩
        refine ⟨_, rfl, fun z => absurd h1 z, fun _ _ => rfl, fun z => absurd z no, fun z => absurd z no, fun _ => ?_⟩
        exact find_m (by decide) (by decide)
    · rw [if_neg (fun z => h2 (le0_t.mp z))]
      have no : ¬ puOK I 37 t i := fun ok => by have := ok.2; omega
      refine ⟨_, rfl, fun z => absurd h1 z, fun _ _ => rfl, fun z => absurd z no, fun z => absurd z no, fun _ => ?_⟩
      exact find_m (by decide) (by decide)
  · rw [if_pos (by rw [b01]; exact h1)]
    exact ⟨_, rfl, fun _ => rfl, fun z => absurd z h1, fun z => absurd z.1 h1, fun z => absurd z.1 h1, fun _ => rfl⟩
theorem RT_put {t i v : Int32} {I I1 I2 : jI} {x1 x2 : Int32} (hG : gG aGI I) (h : RT I) (f1 : fr [12, 30, 1013] I I1) (f2 : fr [38, 39, 32013] I1 I2) (a1 : (¬ (0 ≤ t.toInt ∧ t.toInt ≤ 3) → x1 = -1) ∧ ((0 ≤ t.toInt ∧ t.toInt ≤ 3) → ¬ puOK I 16 t i → x1 = -3) ∧ (puOK I 16 t i → x1 = I 30 t.toNatClampNeg i.toNatClampNeg + 1000) ∧ puC t i v I I1) (a2 : (¬ (0 ≤ t.toInt ∧ t.toInt ≤ 3) → x2 = -1) ∧ ((0 ≤ t.toInt ∧ t.toInt ≤ 3) → ¬ puOK I1 37 t i → x2 = -3) ∧ (puOK I1 37 t i → x2 = I1 38 0 (60 * t.toNatClampNeg + i.toNatClampNeg) + 1000) ∧ puM t i v I1 I2) : RT I2 ∧ x1 = x2 := by
  obtain ⟨p1, p2, p3, p4⟩ := a1
  obtain ⟨q1, q2, q3, q4⟩ := a2
  have w16 : I2 16 = I 16 := (fr_arr f2 (g := 16) (fun _ => rfl) rfl).trans (fr_arr f1 (g := 16) (fun _ => rfl) rfl)
  have w30 : I2 30 = I1 30 := fr_arr f2 (fun _ => rfl) rfl
  have w37 : I1 37 = I 37 := fr_arr f1 (fun _ => rfl) rfl
  have v37 : I2 37 = I 37 := (fr_arr f2 (g := 37) (fun _ => rfl) rfl).trans w37
  have w38 : I1 38 = I 38 := fr_arr f1 (fun _ => rfl) rfl
  by_cases h1 : 0 ≤ t.toInt ∧ t.toInt ≤ 3
  · have nt := cl_t h1.1
    have et : I 37 0 t.toNatClampNeg = I 16 0 t.toNatClampNeg := h.1 _ (by omega)
    have eo : puOK I1 37 t i ↔ puOK I 16 t i := by unfold puOK; rw [w37, et]
    by_cases ok : puOK I 16 t i
    · have ni := cl_t ok.2.1
      have hl := gi_len hG (t := t.toNatClampNeg) (by omega)
      rw [et] at hl
      have o2 := ok.2.2
      refine ⟨⟨fun x hx => ?_, fun x j hx hj => ?_⟩, ?_⟩
      · rw [v37, w16]; exact h.1 x hx
      · rw [q4.1 (eo.mpr ok), w30, p4.1 ok, w38, h.2 x j hx hj]
        by_cases c : x = t.toNatClampNeg ∧ j = i.toNatClampNeg
        · rw [if_pos c, if_pos (by omega)]
        · rw [if_neg c, if_neg (fun z => c (by omega))]
      · rw [p3 ok, q3 (eo.mpr ok), w38, h.2 _ _ (by omega) (by omega)]
    · refine ⟨⟨fun x hx => ?_, fun x j hx hj => ?_⟩, ?_⟩
      · rw [v37, w16]; exact h.1 x hx
      · rw [q4.2 (fun z => ok (eo.mp z)), w30, p4.2 ok, w38]; exact h.2 x j hx hj
      · rw [p2 h1 ok, q2 h1 (fun z => ok (eo.mp z))]
  · refine ⟨⟨fun x hx => ?_, fun x j hx hj => ?_⟩, ?_⟩
    · rw [v37, w16]; exact h.1 x hx
    · rw [q4.2 (fun z => h1 z.1), w30, p4.2 (fun z => h1 z.1), w38]; exact h.2 x j hx hj
    · rw [p1 h1, q1 h1]
end
section
/-! calls of TEXTS, as the law makes them -/
theorem P74 {d : Nat} {t n : Int32} {I : jI} {L : jL} : jPM d 74 [.inr (0, 0), .inl (.inl t), .inl (.inl n)] (I, L) (fun v σ => (v = some (.inl (.inl (eA 3 60 t n))) ∧ txC t n I σ.1) ∧ fr [12, 16, 30, 1013] I σ.1) := by
  obtain ⟨r, e, a, c⟩ := text_c t n I
  exact jPM_and (D74 e ⟨by rw [a], c⟩) (Fx74 (fun _ I' L' f => f))
theorem P139 {d : Nat} {t n : Int32} {I : jI} {L : jL} : jPM d 139 [.inr (31, 0), .inl (.inl t), .inl (.inl n)] (I, L) (fun v σ => (v = some (.inl (.inl (eA 3 60 t n))) ∧ txM t n I σ.1) ∧ fr [37, 38, 39, 32013] I σ.1) := by
  obtain ⟨r, e, a, c⟩ := text_m t n I
  exact jPM_and (D139 e ⟨by rw [a], c⟩) (Fx139 (fun _ I' L' f => f))
noncomputable def puS (g : Nat) (y : Int32) (t i x : Int32) (I : jI) (Q : Prop) : Prop := (¬ (0 ≤ t.toInt ∧ t.toInt ≤ 3) → x = -1) ∧ ((0 ≤ t.toInt ∧ t.toInt ≤ 3) → ¬ puOK I g t i → x = -3) ∧ (puOK I g t i → x = y + 1000) ∧ Q
theorem P75 {d : Nat} {t i w : Int32} {I : jI} {L : jL} : jPM d 75 [.inr (0, 0), .inl (.inl t), .inl (.inl i), .inl (.inl w)] (I, L) (fun v σ => (∃ x, v = some (.inl (.inl x)) ∧ puS 16 (I 30 t.toNatClampNeg i.toNatClampNeg) t i x I (puC t i w I σ.1)) ∧ fr [12, 30, 1013] I σ.1) := by
  obtain ⟨r, e, a⟩ := put_c t i w I
  exact jPM_and (D75 e ⟨r.1, rfl, a⟩) (Fx75 (fun _ I' L' f => f))
theorem P140 {d : Nat} {t i w : Int32} {I : jI} {L : jL} (hG : gG aGI I) : jPM d 140 [.inr (31, 0), .inl (.inl t), .inl (.inl i), .inl (.inl w)] (I, L) (fun v σ => (∃ x, v = some (.inl (.inl x)) ∧ puS 37 (I 38 0 (60 * t.toNatClampNeg + i.toNatClampNeg)) t i x I (puM t i w I σ.1)) ∧ fr [38, 39, 32013] I σ.1) := by
  obtain ⟨r, e, a⟩ := put_m t i w hG
  exact jPM_and (D140 e ⟨r.1, rfl, a⟩) (Fx140 (fun _ I' L' f => f))
end
section
/-! THE READERS: the class's and the reference's go alike through a TEXT -/
noncomputable def cs (I : jI) (p q : Int32) : jI := jup (jup I 3 0 3 p) 3 0 4 q
noncomputable def ms (J : jI) (p : Int32) : jI := jup J 31 0 16 p
theorem cs_p (I : jI) (p q x : Int32) : jup (cs I p q) 3 0 3 x = cs I x q := by
  funext g i j
  unfold cs jup
  by_cases h : g = 3 ∧ i = 0 ∧ j = 3
  · obtain ⟨rfl, rfl, rfl⟩ := h; rfl
  · rw [if_neg h, if_neg h, if_neg h]
theorem cs_q (I : jI) (p q x : Int32) : jup (cs I p q) 3 0 4 x = cs I p x := by
  funext g i j
  unfold cs jup
  by_cases h : g = 3 ∧ i = 0 ∧ j = 4
  · rw [if_pos h, if_pos h]
  · rw [if_neg h, if_neg h, if_neg h]
theorem cs_up (I : jI) (p q : Int32) {g i j : Nat} {x : Int32} (h : ¬ g = 3) : jup (cs I p q) g i j x = cs (jup I g i j x) p q := by
  funext a b c
  unfold cs jup
  by_cases h1 : a = g ∧ b = i ∧ c = j
  · have h3 : ¬ a = 3 := fun z => h (h1.1.symm.trans z)
    rw [if_pos h1, if_neg (fun z => h3 z.1), if_neg (fun z => h3 z.1), if_pos h1]
  · rw [if_neg h1]
    by_cases h2 : a = 3 ∧ b = 0 ∧ c = 4
    · rw [if_pos h2, if_pos h2]
    · rw [if_neg h2, if_neg h2]
      by_cases h3 : a = 3 ∧ b = 0 ∧ c = 3
      · rw [if_pos h3, if_pos h3]
      · rw [if_neg h3, if_neg h3, if_neg h1]
theorem ms_p (J : jI) (p x : Int32) : jup (ms J p) 31 0 16 x = ms J x := by
  funext g i j
  unfold ms jup
  by_cases h : g = 31 ∧ i = 0 ∧ j = 16
  · rw [if_pos h, if_pos h]
  · rw [if_neg h, if_neg h, if_neg h]
theorem ms_up (J : jI) (p : Int32) {g i j : Nat} {x : Int32} (h : ¬ (g = 31 ∧ i = 0 ∧ j = 16)) : jup (ms J p) g i j x = ms (jup J g i j x) p := by
  funext a b c
  unfold ms jup
  by_cases h1 : a = g ∧ b = i ∧ c = j
  · have h3 : ¬ (a = 31 ∧ b = 0 ∧ c = 16) := fun z => h ⟨h1.1.symm.trans z.1, h1.2.1.symm.trans z.2.1, h1.2.2.symm.trans z.2.2⟩
    rw [if_pos h1, if_neg h3, if_pos h1]
  · rw [if_neg h1]
    by_cases h2 : a = 31 ∧ b = 0 ∧ c = 16
    · rw [if_pos h2, if_pos h2]
    · rw [if_neg h2, if_neg h2, if_neg h1]
/-- both read the same n bytes -/
noncomputable def rdS (I J : jI) (n : Int) : Prop := (0 ≤ n ∧ n ≤ 60) ∧ (I 3 0 2).toInt = n ∧ (J 31 0 17).toInt = n ∧ ∃ t : Int32, (0 ≤ t.toInt ∧ t.toInt ≤ 3) ∧ J 31 0 15 = 60 * t ∧ ∀ p : Int32, 0 ≤ p.toInt → p.toInt < n → J 38 0 (60 * t.toNatClampNeg + p.toNatClampNeg) = I 17 0 p.toNatClampNeg
theorem rdS_up {I J : jI} {n : Int} (h : rdS I J n) {g i j g' i' j' : Nat} {x y : Int32} (h1 : ¬ g = 3 ∧ ¬ g = 17) (h2 : ¬ (g' = 31 ∧ (j' = 15 ∨ j' = 17)) ∧ ¬ g' = 38) : rdS (jup I g i j x) (jup J g' i' j' y) n := by
  obtain ⟨a, b, c, t, e, f, k⟩ := h
  refine ⟨a, ?_, ?_, t, e, ?_, fun p p0 p1 => ?_⟩
  · rw [jup_g (fun z => h1.1 z.symm)]; exact b
  · rw [jup_of (fun z => h2.1 ⟨z.1.symm, Or.inr z.2.2.symm⟩)]; exact c
  · rw [jup_of (fun z => h2.1 ⟨z.1.symm, Or.inl z.2.2.symm⟩)]; exact f
  · rw [jup_g (fun z => h2.2 z.symm), jup_g (fun z => h1.2 z.symm)]; exact k p p0 p1
theorem ms_here {I J : jI} {n : Int} (h : rdS I J n) {p q : Int32} (p0 : 0 ≤ p.toInt) (p1 : p.toInt < n) : d141 (ms J p) = (cs I p q) 17 0 (Int32.toNatClampNeg ((cs I p q) 3 0 3)) := by
  obtain ⟨a, b, c, t, e, f, k⟩ := h
  have e1 : (ms J p) 31 0 15 = 60 * t := f
  have e2 : (ms J p) 31 0 16 = p := rfl
  have e3 : (cs I p q) 3 0 3 = p := rfl
  unfold d141
  rw [e1, e2, e3, ix60 e.1 e.2 p0 (by omega)]
  exact k p p0 p1
theorem i32_ps {a p : Int32} (a0 : 0 ≤ a.toInt) (a1 : a.toInt ≤ 1000) (p0 : 0 ≤ p.toInt) (p1 : p.toInt ≤ 60) : (a + (p + 1)) - 1 = a + p := by
  have c : (1 : Int32).toInt = 1 := rfl
  have e1 := i32_inc (x := p) (by omega)
  have e2 : (a + (p + 1)).toInt = a.toInt + (p.toInt + 1) := by rw [i32_add (by omega), e1]
  have e3 : ((a + (p + 1)) - 1).toInt = a.toInt + p.toInt := by rw [i32_sub (by rw [e2, c]; omega), e2, c]; omega
  have e4 : (a + p).toInt = a.toInt + p.toInt := by rw [i32_add (by omega)]
  exact eq_t.mpr (by rw [e3, e4])
theorem go_c {I : jI} {p : Int32} {n : Int} (hn : (I 3 0 2).toInt = n) : d60 (cs I p (-9)) = if p.toInt < n then 1 else 0 := by
  unfold d60
  have e1 : (cs I p (-9)) 3 0 4 = -9 := rfl
  have e2 : (cs I p (-9)) 3 0 2 = I 3 0 2 := rfl
  have e3 : (cs I p (-9)) 3 0 3 = p := rfl
  rw [e1, e2, e3, if_pos rfl]
  by_cases h : p.toInt < n
  · rw [if_pos h, if_neg (by rw [le_t, hn]; omega)]
  · rw [if_neg h, if_pos (by rw [le_t, hn]; omega)]
theorem go_f {I : jI} {p q : Int32} (h : ¬ q = -9) : d60 (cs I p q) = 0 := by
  unfold d60
  exact if_neg (show ¬ (cs I p q) 3 0 4 = -9 from h)
theorem fh_c {I : jI} {p : Int32} : d67 (cs I p (-9)) = some (cs I p p) := by
  unfold d67
  rw [if_pos (show (cs I p (-9)) 3 0 4 = -9 from rfl)]
  exact congrArg some (cs_q I p (-9) p)
theorem fh_f {I : jI} {p q : Int32} (h : ¬ q = -9) : d67 (cs I p q) = some (cs I p q) := by
  unfold d67
  exact if_neg (show ¬ (cs I p q) 3 0 4 = -9 from h)
theorem fg_f {I : jI} {p q lo : Int32} (h : ¬ q = -9) : d66 lo (cs I p q) = some (0, cs I p q) := by
  unfold d66
  rw [go_f h, if_pos rfl, fh_f h]
  rfl
theorem ne9 {p : Int32} (h : 0 ≤ p.toInt) : ¬ p = -9 := fun z => by
  rw [z] at h
  exact absurd h (by decide)
/-- a figure -/
theorem fig_eq {I J : jI} {n : Int} (h : rdS I J n) {p lo : Int32} (hl : lo = 0 ∨ lo = 1) (p0 : 0 ≤ p.toInt) (p1 : p.toInt ≤ n) : (∃ v : Int32, p.toInt < n ∧ lo.toInt ≤ v.toInt ∧ v.toInt ≤ 9 ∧ d66 lo (cs I p (-9)) = some (v, cs I (p + 1) (-9)) ∧ d143 lo 9 (ms J p) = some (v, ms J (p + 1))) ∨ (d66 lo (cs I p (-9)) = some (0, cs I p p) ∧ d143 lo 9 (ms J p) = some (-9, ms J p)) := by
  obtain ⟨a, b, c, t, e, f, k⟩ := id h
  have c48 : (48 : Int32).toInt = 48 := rfl
  have c9 : (9 : Int32).toInt = 9 := rfl
  have hl' : 0 ≤ lo.toInt ∧ lo.toInt ≤ 1 := by rcases hl with rfl | rfl <;> decide
  unfold d66 d143
  rw [go_c b]
  have e16 : (ms J p) 31 0 16 = p := rfl
  have e17 : (ms J p) 31 0 17 = J 31 0 17 := rfl
  rw [e16, e17]
  by_cases hp : p.toInt < n
  · rw [if_pos hp, if_neg (by decide), if_neg (show ¬ p = J 31 0 17 from fun z => by rw [z, c] at hp; omega), ms_here h (q := -9) p0 hp, in_i, t64, t64]
    have e3 : (cs I p (-9)) 17 0 (Int32.toNatClampNeg ((cs I p (-9)) 3 0 3)) = I 17 0 p.toNatClampNeg := rfl
    have e3' : (cs I p (-9)) 3 0 3 = p := rfl
    rw [e3, e3']
    generalize hw : I 17 0 p.toNatClampNeg = w
    have el : (48 + lo).toInt = 48 + lo.toInt := by rw [i32_add (by rw [c48]; omega), c48]
    have eh : ((48 : Int32) + 9).toInt = 57 := rfl
    rw [el, eh]
    have rw' := i32_rng w
    by_cases w1 : 48 + lo.toInt ≤ w.toInt ∧ w.toInt ≤ 57
    · have es : (w - 48).toInt = w.toInt - 48 := by rw [i32_sub (by rw [c48]; omega), c48]
      refine Or.inl ⟨w - 48, hp, by omega, by omega, ?_, ?_⟩
      · rw [if_neg (by rw [lt_t, es]; omega), if_neg (by rw [lt_t, es, c9]; omega), cs_p]
      · rw [if_neg (by rw [b01]; exact fun z => z w1), ms_p]
        have e4 : (ms J (p + 1)) 38 0 (Int32.toNatClampNeg (((ms J (p + 1)) 31 0 15 + (ms J (p + 1)) 31 0 16) - 1)) = w := by
          have f1 : (ms J (p + 1)) 31 0 15 = 60 * t := f
          have f2 : (ms J (p + 1)) 31 0 16 = p + 1 := rfl
          have c60 : (60 : Int32).toInt = 60 := rfl
          have e5 : (60 * t).toInt = 60 * t.toInt := by rw [i32_mul (by rw [c60]; omega), c60]
          rw [f1, f2, i32_ps (by omega) (by omega) p0 (by omega), ix60 e.1 e.2 p0 (by omega), ← hw]
          exact k p p0 hp
        rw [e4]
    · refine Or.inr ⟨?_, ?_⟩
      · rw [fh_c]
        by_cases w2 : w - 48 < lo
        · rw [if_pos w2]; rfl
        · rw [if_neg w2]
          by_cases w3 : (9 : Int32) < w - 48
          · rw [if_pos w3]; rfl
          · exfalso
            rw [lt_t] at w2 w3
            rw [c9] at w3
            rw [Int32.toInt_sub, c48] at w2 w3
            by_cases w4 : -2147483648 ≤ w.toInt - 48
            · rw [bm32 (by omega)] at w2 w3
              omega
            · have e9 : Int.bmod (w.toInt - 48) (2 ^ 32) = w.toInt - 48 + 4294967296 := by
                rw [Int.bmod_def]
                omega
              rw [e9] at w2 w3
              omega
      · rw [if_pos (by rw [b01]; exact w1)]
  · rw [if_neg hp, if_pos rfl, fh_c, if_pos (show p = J 31 0 17 from eq_t.mpr (by rw [c]; omega))]
    exact Or.inr ⟨rfl, rfl⟩
end
section
theorem inc_rng {p : Int32} {n : Int} (p0 : 0 ≤ p.toInt) (p1 : p.toInt < n) (hn : n ≤ 60) : (p + 1).toInt = p.toInt + 1 := i32_inc (by omega)
/-- two figures -/
theorem two_eq {I J : jI} {n : Int} (h : rdS I J n) {p : Int32} (p0 : 0 ≤ p.toInt) (p1 : p.toInt ≤ n) : (∃ v q : Int32, p.toInt ≤ q.toInt ∧ q.toInt ≤ n ∧ 0 ≤ v.toInt ∧ v.toInt ≤ 99 ∧ d65 (cs I p (-9)) = some (v, cs I q (-9)) ∧ d144 (ms J p) = some (v, ms J q)) ∨ (∃ q w : Int32, 0 ≤ q.toInt ∧ q.toInt ≤ n ∧ d65 (cs I p (-9)) = some (w, cs I q q) ∧ d144 (ms J p) = some (-9, ms J q)) := by
  have hn := h.1.2
  have c10 : (10 : Int32).toInt = 10 := rfl
  rcases fig_eq h (Or.inl rfl) p0 p1 with ⟨v, a1, a2, a3, a4, a5⟩ | ⟨a4, a5⟩
  · have e1 := inc_rng p0 a1 hn
    have a2 : 0 ≤ v.toInt := a2
    rcases fig_eq h (p := p + 1) (Or.inl rfl) (by omega) (by omega) with ⟨w, b1, b2, b3, b4, b5⟩ | ⟨b4, b5⟩
    · have e2 := inc_rng (p := p + 1) (by omega) b1 hn
      have b2 : 0 ≤ w.toInt := b2
      have e3 : (10 * v).toInt = 10 * v.toInt := by rw [i32_mul (by rw [c10]; omega), c10]
      have e4 : (10 * v + w).toInt = 10 * v.toInt + w.toInt := by rw [i32_add (by rw [e3]; omega), e3]
      refine Or.inl ⟨10 * v + w, p + 1 + 1, by omega, by omega, by omega, by omega, ?_, ?_⟩
      · unfold d65; rw [a4]; dsimp only [Option.bind_some]; rw [b4]; rfl
      · unfold d144; rw [a5]; dsimp only [Option.bind_some]; rw [if_neg (ne9 a2), b5]; dsimp only [Option.bind_some]; rw [if_neg (ne9 b2)]
    · refine Or.inr ⟨p + 1, 10 * v + 0, by omega, by omega, ?_, ?_⟩
      · unfold d65; rw [a4]; dsimp only [Option.bind_some]; rw [b4]; rfl
      · unfold d144; rw [a5]; dsimp only [Option.bind_some]; rw [if_neg (ne9 a2), b5]; dsimp only [Option.bind_some]; rw [if_pos rfl]
  · refine Or.inr ⟨p, 10 * 0 + 0, p0, p1, ?_, ?_⟩
    · unfold d65; rw [a4]; dsimp only [Option.bind_some]; rw [fg_f (ne9 p0)]; rfl
    · unfold d144; rw [a5]; dsimp only [Option.bind_some]; rw [if_pos rfl]
theorem two_f {I : jI} {p q : Int32} (h : ¬ q = -9) : d65 (cs I p q) = some (10 * 0 + 0, cs I p q) := by
  unfold d65; rw [fg_f h]; dsimp only [Option.bind_some]; rw [fg_f h]; rfl
/-- blanks -/
theorem skip_eq {I J : jI} {n : Int} (h : rdS I J n) (x : Int32) : ∀ (F : Nat) (p : Int32), 0 ≤ p.toInt → p.toInt ≤ n → n - p.toInt < (F : Int) → ∃ q : Int32, p.toInt ≤ q.toInt ∧ q.toInt ≤ n ∧ d61_0 F (cs I p x) = some (cs I q x) ∧ d142_0 F (ms J p) = some (ms J q)
  | 0, p, _, p1, hf => by exfalso; simp at hf; omega
  | F + 1, p, p0, p1, hf => by
    obtain ⟨a, b, c, t, e, f, k⟩ := id h
    rw [d61_0, d142_0]
    have e2 : (cs I p x) 3 0 2 = I 3 0 2 := rfl
    have e3 : (cs I p x) 3 0 3 = p := rfl
    have f17 : (ms J p) 31 0 17 = J 31 0 17 := rfl
    have f16 : (ms J p) 31 0 16 = p := rfl
    rw [e2, e3, f17, f16]
    by_cases hp : p.toInt < n
    · rw [if_neg (show ¬ I 3 0 2 ≤ p by rw [le_t, b]; omega), if_neg (show ¬ J 31 0 17 ≤ p by rw [le_t, c]; omega)]
      rw [ms_here h (q := x) p0 hp, e3]
      by_cases hw : (cs I p x) 17 0 p.toNatClampNeg = 32
      · rw [if_pos hw, if_pos hw, cs_p, ms_p]
        have e1 := inc_rng p0 hp a.2
        obtain ⟨q, q1, q2, q3, q4⟩ := skip_eq h x F (p + 1) (by omega) (by omega) (by omega)
        exact ⟨q, by omega, q2, q3, q4⟩
      · rw [if_neg hw, if_neg hw]
        exact ⟨p, by omega, p1, rfl, rfl⟩
    · rw [if_pos (show I 3 0 2 ≤ p by rw [le_t, b]; omega), if_pos (show J 31 0 17 ≤ p by rw [le_t, c]; omega)]
      exact ⟨p, by omega, p1, rfl, rfl⟩
theorem skip_c {I J : jI} {n : Int} (h : rdS I J n) (x p : Int32) (p0 : 0 ≤ p.toInt) (p1 : p.toInt ≤ n) : ∃ q : Int32, p.toInt ≤ q.toInt ∧ q.toInt ≤ n ∧ d61 (cs I p x) = some (cs I q x) ∧ d142 (ms J p) = some (ms J q) := by
  have hn := h.1.2
  obtain ⟨q, q1, q2, q3, q4⟩ := skip_eq h x 70 p p0 p1 (by simp; omega)
  refine ⟨q, q1, q2, ?_, ?_⟩
  · unfold d61; rw [q3]; rfl
  · unfold d142; rw [q4]; rfl
/-- a letter -/
theorem kind_eq {I J : jI} {n : Int} (h : rdS I J n) {p : Int32} (X : jI) (p0 : 0 ≤ p.toInt) (p1 : p.toInt < n) : (∃ κ : Int32, 0 ≤ κ.toInt ∧ κ.toInt ≤ 5 ∧ d64 (cs I p (-9)) = some (κ, cs I (p + 1) (-9)) ∧ d146 (d141 (ms J p)) X = κ) ∨ (d64 (cs I p (-9)) = some (0, cs I p p) ∧ d146 (d141 (ms J p)) X = -9) := by
  obtain ⟨a, b, c, t, e, f, k⟩ := id h
  rw [ms_here h (q := -9) p0 p1]
  have e3 : (cs I p (-9)) 3 0 3 = p := rfl
  rw [e3]
  unfold d64
  rw [go_c b, if_pos p1, if_neg (by decide)]
  generalize hw : (cs I p (-9)) 17 0 p.toNatClampNeg = w
  have step : ∀ (F : Nat) (x : Int32), d64_9 (F + 1) x (cs I p (-9)) = if 6 ≤ x then some (.inr (cs I p (-9))) else if w = jletters x.toNatClampNeg then some (.inl (x, cs I (p + 1) (-9))) else d64_9 F (x + 1) (cs I p (-9)) := by
    intro F x
    rw [d64_9, e3, hw, cs_p]
  have s0 : d64_9 70 0 (cs I p (-9)) = if w = 112 then some (.inl (0, cs I (p + 1) (-9))) else d64_9 69 1 (cs I p (-9)) := step 69 0
  have s1 : d64_9 69 1 (cs I p (-9)) = if w = 99 then some (.inl (1, cs I (p + 1) (-9))) else d64_9 68 2 (cs I p (-9)) := step 68 1
  have s2 : d64_9 68 2 (cs I p (-9)) = if w = 104 then some (.inl (2, cs I (p + 1) (-9))) else d64_9 67 3 (cs I p (-9)) := step 67 2
  have s3 : d64_9 67 3 (cs I p (-9)) = if w = 115 then some (.inl (3, cs I (p + 1) (-9))) else d64_9 66 4 (cs I p (-9)) := step 66 3
  have s4 : d64_9 66 4 (cs I p (-9)) = if w = 108 then some (.inl (4, cs I (p + 1) (-9))) else d64_9 65 5 (cs I p (-9)) := step 65 4
  have s5 : d64_9 65 5 (cs I p (-9)) = if w = 121 then some (.inl (5, cs I (p + 1) (-9))) else d64_9 64 6 (cs I p (-9)) := step 64 5
  have s6 : d64_9 64 6 (cs I p (-9)) = some (.inr (cs I p (-9))) := step 63 6
  unfold d146
  rw [s0]
  by_cases h0 : w = 112
  · rw [if_pos h0, if_pos h0]; exact Or.inl ⟨0, by decide, by decide, rfl, rfl⟩
  rw [if_neg h0, if_neg h0, s1]
  by_cases h1 : w = 99
  · rw [if_pos h1, if_pos h1]; exact Or.inl ⟨1, by decide, by decide, rfl, rfl⟩
  rw [if_neg h1, if_neg h1, s2]
  by_cases h2 : w = 104
  · rw [if_pos h2, if_pos h2]; exact Or.inl ⟨2, by decide, by decide, rfl, rfl⟩
  rw [if_neg h2, if_neg h2, s3]
  by_cases h3 : w = 115
  · rw [if_pos h3, if_pos h3]; exact Or.inl ⟨3, by decide, by decide, rfl, rfl⟩
  rw [if_neg h3, if_neg h3, s4]
  by_cases h4 : w = 108
  · rw [if_pos h4, if_pos h4]; exact Or.inl ⟨4, by decide, by decide, rfl, rfl⟩
  rw [if_neg h4, if_neg h4, s5]
  by_cases h5 : w = 121
  · rw [if_pos h5, if_pos h5]; exact Or.inl ⟨5, by decide, by decide, rfl, rfl⟩
  rw [if_neg h5, if_neg h5, s6]
  refine Or.inr ⟨?_, rfl⟩
  dsimp only [Option.bind_some]
  rw [fh_c]
  rfl
theorem kind_n {I J : jI} {n : Int} (h : rdS I J n) {p : Int32} (p1 : ¬ p.toInt < n) : d64 (cs I p (-9)) = some (0, cs I p p) := by
  unfold d64
  rw [go_c h.2.1, if_neg p1, if_pos rfl, fh_c]
  rfl
end
section
/-- a PACKET more -/
noncomputable def pk (I : jI) (k g w e : Int32) : jI := jup (jup (jup (jup (jup I 18 5 (I 4 5 6).toNatClampNeg k) 19 5 (I 4 5 6).toNatClampNeg g) 20 5 (I 4 5 6).toNatClampNeg w) 21 5 (I 4 5 6).toNatClampNeg e) 4 5 6 (I 4 5 6 + 1)
noncomputable def pkm (J : jI) (k g w e : Int32) : jI := jup (jup (jup (jup (jup J 40 0 (4 * (J 31 0 21).toNatClampNeg) k) 40 0 (4 * (J 31 0 21).toNatClampNeg + 1) g) 40 0 (4 * (J 31 0 21).toNatClampNeg + 2) w) 40 0 (4 * (J 31 0 21).toNatClampNeg + 3) e) 31 0 21 (J 31 0 21 + 1)
theorem pk_rd {I J : jI} {n : Int} {k g w e : Int32} (h : rdS I J n) : rdS (pk I k g w e) (pkm J k g w e) n := by
  unfold pk pkm
  exact rdS_up (rdS_up (rdS_up (rdS_up (rdS_up h (by decide) ⟨fun z => absurd z.1 (by decide), by decide⟩) (by decide) ⟨fun z => absurd z.1 (by decide), by decide⟩) (by decide) ⟨fun z => absurd z.1 (by decide), by decide⟩) (by decide) ⟨fun z => absurd z.1 (by decide), by decide⟩) (by decide) (by decide)
theorem add_c {I : jI} {p q k g w e : Int32} (h : (I 4 5 6).toInt < 6) : d48 5 k g w e (cs I p q) = some (cs (pk I k g w e) p q) := by
  unfold d48
  have c6 : (6 : Int32).toInt = 6 := rfl
  have n6 : ¬ (6 : Int32) ≤ I 4 5 6 := by rw [le_t, c6]; omega
  rw [if_neg (show ¬ (6 : Int32) ≤ cs I p q 4 5 6 from n6)]
  show some (jup (jup (jup (jup (jup (cs I p q) 18 5 (I 4 5 6).toNatClampNeg k) 19 5 (I 4 5 6).toNatClampNeg g) 20 5 (I 4 5 6).toNatClampNeg w) 21 5 (I 4 5 6).toNatClampNeg e) 4 5 6 (I 4 5 6 + 1)) = _
  rw [cs_up _ _ _ (by decide), cs_up _ _ _ (by decide), cs_up _ _ _ (by decide), cs_up _ _ _ (by decide), cs_up _ _ _ (by decide)]
  rfl
theorem ix4 {m c : Int32} (h0 : 0 ≤ m.toInt) (h5 : m.toInt ≤ 6) (g0 : 0 ≤ c.toInt) (g : c.toInt ≤ 3) : Int32.toNatClampNeg (4 * m + c) = 4 * m.toNatClampNeg + c.toNatClampNeg := by
  have k : (4 : Int32).toInt = 4 := rfl
  have e1 : (4 * m).toInt = 4 * m.toInt := by rw [i32_mul (by rw [k]; omega), k]
  have e2 : (4 * m + c).toInt = 4 * m.toInt + c.toInt := by rw [i32_add (by rw [e1]; omega), e1]
  have n0 := cl_t h0
  have n1 := cl_t g0
  have n2 := cl_t (x := 4 * m + c) (by omega)
  omega
theorem ix4z {m : Int32} (h0 : 0 ≤ m.toInt) (h5 : m.toInt ≤ 6) : Int32.toNatClampNeg (4 * m) = 4 * m.toNatClampNeg := by
  have k : (4 : Int32).toInt = 4 := rfl
  have e1 : (4 * m).toInt = 4 * m.toInt := by rw [i32_mul (by rw [k]; omega), k]
  have n0 := cl_t h0
  have n2 := cl_t (x := 4 * m) (by omega)
  omega
theorem add_m {J : jI} {p k g w e : Int32} (h0 : 0 ≤ (J 31 0 21).toInt) (h5 : (J 31 0 21).toInt ≤ 6) : jup (jup (jup (jup (jup (ms J p) 40 0 (Int32.toNatClampNeg (4 * (J 31 0 21))) k) 40 0 (Int32.toNatClampNeg (4 * (J 31 0 21) + 1)) g) 40 0 (Int32.toNatClampNeg (4 * (J 31 0 21) + 2)) w) 40 0 (Int32.toNatClampNeg (4 * (J 31 0 21) + 3)) e) 31 0 21 (J 31 0 21 + 1) = ms (pkm J k g w e) p := by
  rw [ix4z h0 h5, ix4 h0 h5 (c := 1) (by decide) (by decide), ix4 h0 h5 (c := 2) (by decide) (by decide), ix4 h0 h5 (c := 3) (by decide) (by decide)]
  rw [ms_up _ _ (fun z => absurd z.1 (by decide)), ms_up _ _ (fun z => absurd z.1 (by decide)), ms_up _ _ (fun z => absurd z.1 (by decide)), ms_up _ _ (fun z => absurd z.1 (by decide)), ms_up _ _ (by decide)]
  rfl
/-- the PACKETS read so far -/
noncomputable def RP (I J : jI) (m : Nat) : Prop := (I 4 5 6).toInt = (m : Int) ∧ (J 31 0 21).toInt = (m : Int) ∧ ∀ i, i < m → (I 18 5 i = J 40 0 (4 * i) ∧ I 19 5 i = J 40 0 (4 * i + 1) ∧ I 20 5 i = J 40 0 (4 * i + 2) ∧ I 21 5 i = J 40 0 (4 * i + 3)) ∧ (0 ≤ (I 18 5 i).toInt ∧ (I 18 5 i).toInt ≤ 5) ∧ (1 ≤ (I 19 5 i).toInt ∧ (I 19 5 i).toInt ≤ 9) ∧ (0 ≤ (I 20 5 i).toInt ∧ (I 20 5 i).toInt ≤ 99) ∧ (1 ≤ (I 21 5 i).toInt ∧ (I 21 5 i).toInt ≤ 9)
noncomputable def RN (I J : jI) : Prop := I 4 5 7 = J 31 0 18 ∧ I 4 5 8 = J 31 0 19 ∧ (1 ≤ (I 4 5 7).toInt ∧ (I 4 5 7).toInt ≤ 9) ∧ (0 ≤ (I 4 5 8).toInt ∧ (I 4 5 8).toInt ≤ 99)
theorem RP_add {I J : jI} {m : Nat} {k g w e : Int32} (h : RP I J m) (hm : m < 6) (hk : 0 ≤ k.toInt ∧ k.toInt ≤ 5) (hg : 1 ≤ g.toInt ∧ g.toInt ≤ 9) (hw : 0 ≤ w.toInt ∧ w.toInt ≤ 99) (he : 1 ≤ e.toInt ∧ e.toInt ≤ 9) : RP (pk I k g w e) (pkm J k g w e) (m + 1) := by
  obtain ⟨a, b, c⟩ := h
  have na : (I 4 5 6).toNatClampNeg = m := by have := cl_t (x := I 4 5 6) (by omega); omega
  have nb : (J 31 0 21).toNatClampNeg = m := by have := cl_t (x := J 31 0 21) (by omega); omega
  have ia := i32_inc (x := I 4 5 6) (by omega)
  have ib := i32_inc (x := J 31 0 21) (by omega)
  unfold pk pkm
  rw [na, nb]
  have z18 : ∀ i, jup (jup (jup (jup (jup I 18 5 m k) 19 5 m g) 20 5 m w) 21 5 m e) 4 5 6 (I 4 5 6 + 1) 18 5 i = if i = m then k else I 18 5 i := fun i => by
    by_cases q : i = m
    · subst q; rw [if_pos rfl]; exact jup_at
    · rw [if_neg q]; exact jup_of (fun z => q z.2.2)
  have z19 : ∀ i, jup (jup (jup (jup (jup I 18 5 m k) 19 5 m g) 20 5 m w) 21 5 m e) 4 5 6 (I 4 5 6 + 1) 19 5 i = if i = m then g else I 19 5 i := fun i => by
    by_cases q : i = m
    · subst q; rw [if_pos rfl]; exact jup_at
    · rw [if_neg q]; exact jup_of (fun z => q z.2.2)
  have z20 : ∀ i, jup (jup (jup (jup (jup I 18 5 m k) 19 5 m g) 20 5 m w) 21 5 m e) 4 5 6 (I 4 5 6 + 1) 20 5 i = if i = m then w else I 20 5 i := fun i => by
    by_cases q : i = m
    · subst q; rw [if_pos rfl]; exact jup_at
    · rw [if_neg q]; exact jup_of (fun z => q z.2.2)
  have z21 : ∀ i, jup (jup (jup (jup (jup I 18 5 m k) 19 5 m g) 20 5 m w) 21 5 m e) 4 5 6 (I 4 5 6 + 1) 21 5 i = if i = m then e else I 21 5 i := fun i => by
    by_cases q : i = m
    · subst q; rw [if_pos rfl]; exact jup_at
    · rw [if_neg q]; exact jup_of (fun z => q z.2.2)
  have z40 : ∀ i, jup (jup (jup (jup (jup J 40 0 (4 * m) k) 40 0 (4 * m + 1) g) 40 0 (4 * m + 2) w) 40 0 (4 * m + 3) e) 31 0 21 (J 31 0 21 + 1) 40 0 i = if i = 4 * m + 3 then e else if i = 4 * m + 2 then w else if i = 4 * m + 1 then g else if i = 4 * m then k else J 40 0 i := fun i => by
    show jup (jup (jup (jup J 40 0 (4 * m) k) 40 0 (4 * m + 1) g) 40 0 (4 * m + 2) w) 40 0 (4 * m + 3) e 40 0 i = _
    simp [jup]
  refine ⟨?_, ?_, fun i hi => ?_⟩
  · show (I 4 5 6 + 1).toInt = _; omega
  · show (J 31 0 21 + 1).toInt = _; omega
  · rw [z18, z19, z20, z21, z40, z40, z40, z40]
    by_cases q : i = m
    · subst q
      rw [if_pos rfl, if_pos rfl, if_pos rfl, if_pos rfl]
      rw [if_neg (by omega : ¬ 4 * i = 4 * i + 3), if_neg (by omega : ¬ 4 * i = 4 * i + 2), if_neg (by omega : ¬ 4 * i = 4 * i + 1), if_pos rfl]
      rw [if_neg (by omega : ¬ 4 * i + 1 = 4 * i + 3), if_neg (by omega : ¬ 4 * i + 1 = 4 * i + 2), if_pos rfl]
      rw [if_neg (by omega : ¬ 4 * i + 2 = 4 * i + 3), if_pos rfl, if_pos rfl]
      exact ⟨⟨rfl, rfl, rfl, rfl⟩, hk, hg, hw, he⟩
    · rw [if_neg q, if_neg q, if_neg q, if_neg q]
      have : i < m := by omega
      have w0 : ∀ d' : Nat, d' ≤ 3 → ¬ 4 * i = 4 * m + d' := fun d' hd' => by omega
      have w1 : ∀ d' : Nat, d' ≤ 3 → ¬ 4 * i + 1 = 4 * m + d' := fun d' hd' => by omega
      have w2 : ∀ d' : Nat, d' ≤ 3 → ¬ 4 * i + 2 = 4 * m + d' := fun d' hd' => by omega
      have w3 : ∀ d' : Nat, d' ≤ 3 → ¬ 4 * i + 3 = 4 * m + d' := fun d' hd' => by omega
      rw [if_neg (w0 3 (by omega)), if_neg (w0 2 (by omega)), if_neg (w0 1 (by omega)), if_neg (by omega : ¬ 4 * i = 4 * m)]
      rw [if_neg (w1 3 (by omega)), if_neg (w1 2 (by omega)), if_neg (w1 1 (by omega)), if_neg (by omega : ¬ 4 * i + 1 = 4 * m)]
      rw [if_neg (w2 3 (by omega)), if_neg (w2 2 (by omega)), if_neg (w2 1 (by omega)), if_neg (by omega : ¬ 4 * i + 2 = 4 * m)]
      rw [if_neg (w3 3 (by omega)), if_neg (w3 2 (by omega)), if_neg (w3 1 (by omega)), if_neg (by omega : ¬ 4 * i + 3 = 4 * m)]
      exact c i this
theorem RN_add {I J : jI} {k g w e : Int32} (h : RN I J) : RN (pk I k g w e) (pkm J k g w e) := h
theorem d63_f {I : jI} {p q : Int32} (h : ¬ q = -9) {S : jI} {v : Int32} (e : d64 S = some (v, cs I p q)) : d63 S = some (cs I p q) := by
  unfold d63
  rw [e]
  dsimp only [Option.bind_some]
  rw [fg_f h]
  dsimp only [Option.bind_some]
  rw [two_f h]
  dsimp only [Option.bind_some]
  rw [fg_f h]
  dsimp only [Option.bind_some]
  exact if_neg (show ¬ (cs I p q) 3 0 4 = -9 from h)
/-- a PACKET -/
theorem packet_eq {I J : jI} {n : Int} (h : rdS I J n) {p : Int32} {m : Nat} (hm : m < 6) (hI : (I 4 5 6).toInt = (m : Int)) (hJ : (J 31 0 21).toInt = (m : Int)) (p0 : 0 ≤ p.toInt) (p1 : p.toInt < n) :
    (∃ k g w e z : Int32, (0 ≤ k.toInt ∧ k.toInt ≤ 5) ∧ (1 ≤ g.toInt ∧ g.toInt ≤ 9) ∧ (0 ≤ w.toInt ∧ w.toInt ≤ 99) ∧ (1 ≤ e.toInt ∧ e.toInt ≤ 9) ∧ (0 ≤ z.toInt ∧ z.toInt ≤ n) ∧ d63 (cs I p (-9)) = some (cs (pk I k g w e) z (-9)) ∧ ∃ z', d147 (ms J p) = some (1, ms (pkm J k g w e) z') ∧ d142 (ms (pkm J k g w e) z') = some (ms (pkm J k g w e) z)) ∨
    (∃ z : Int32, (0 ≤ z.toInt ∧ z.toInt ≤ n) ∧ d63 (cs I p (-9)) = some (cs I z z) ∧ d147 (ms J p) = some (0, ms J z)) := by
  have hn := h.1.2
  have ei := inc_rng p0 p1 hn
  have e21 : (ms J p) 31 0 21 = J 31 0 21 := rfl
  have e16 : (ms J p) 31 0 16 = p := rfl
  have c6 : (6 : Int32).toInt = 6 := rfl
  have n6 : ¬ J 31 0 21 = 6 := fun z => by rw [z, c6] at hJ; omega
  unfold d147
  rw [e21, e16, ms_p]
  rcases kind_eq h (ms J p) p0 p1 with ⟨κ, k0, k5, k1, k2⟩ | ⟨k1, k2⟩
  · rw [k2, if_neg (ne9 k0), if_neg n6]
    rcases fig_eq h (p := p + 1) (Or.inr rfl) (by omega) (by omega) with ⟨g, a1, a2, a3, a4, a5⟩ | ⟨a4, a5⟩
    · have a2 : 1 ≤ g.toInt := a2
      have ej := inc_rng (p := p + 1) (by omega) a1 hn
      rw [a5]
      dsimp only [Option.bind_some]
      rw [if_neg (ne9 (by omega))]
      rcases two_eq h (p := p + 1 + 1) (by omega) (by omega) with ⟨w, q, b1, b2, b3, b4, b5, b6⟩ | ⟨q, w, b1, b2, b5, b6⟩
      · rw [b6]
        dsimp only [Option.bind_some]
        rw [if_neg (ne9 b3)]
        rcases fig_eq h (p := q) (Or.inr rfl) (by omega) (by omega) with ⟨e, f1, f2, f3, f4, f5⟩ | ⟨f4, f5⟩
        · have f2 : 1 ≤ e.toInt := f2
          have ek := inc_rng (p := q) (by omega) f1 hn
          rw [f5]
          dsimp only [Option.bind_some]
          rw [if_neg (ne9 (by omega))]
          obtain ⟨z, z1, z2, z3, z4⟩ := skip_c (pk_rd (k := κ) (g := g) (w := w) (e := e) h) (-9) (q + 1) (by omega) (by omega)
          refine Or.inl ⟨κ, g, w, e, z, ⟨k0, k5⟩, ⟨a2, a3⟩, ⟨b3, b4⟩, ⟨f2, f3⟩, ⟨by omega, z2⟩, ?_, q + 1, ?_, z4⟩
          · unfold d63
            rw [k1]
            dsimp only [Option.bind_some]
            rw [a4]
            dsimp only [Option.bind_some]
            rw [b5]
            dsimp only [Option.bind_some]
            rw [f4]
            dsimp only [Option.bind_some]
            rw [if_pos (show (cs I (q + 1) (-9)) 3 0 4 = -9 from rfl), add_c (by omega)]
            dsimp only [Option.bind_some]
            rw [z3]
            rfl
          · have := add_m (J := J) (p := q + 1) (k := κ) (g := g) (w := w) (e := e) (by omega) (by omega)
            rw [← this]
            rfl
        · rw [f5]
          dsimp only [Option.bind_some]
          rw [if_pos rfl]
          refine Or.inr ⟨q, ⟨by omega, by omega⟩, ?_, rfl⟩
          unfold d63
          rw [k1]
          dsimp only [Option.bind_some]
          rw [a4]
          dsimp only [Option.bind_some]
          rw [b5]
          dsimp only [Option.bind_some]
          rw [f4]
          dsimp only [Option.bind_some]
          exact if_neg (show ¬ (cs I q q) 3 0 4 = -9 from ne9 (p := q) (by omega))
      · rw [b6]
        dsimp only [Option.bind_some]
        rw [if_pos rfl]
        refine Or.inr ⟨q, ⟨b1, b2⟩, ?_, rfl⟩
        unfold d63
        rw [k1]
        dsimp only [Option.bind_some]
        rw [a4]
        dsimp only [Option.bind_some]
        rw [b5]
        dsimp only [Option.bind_some]
        rw [fg_f (ne9 b1)]
        dsimp only [Option.bind_some]
        exact if_neg (show ¬ (cs I q q) 3 0 4 = -9 from ne9 b1)
    · rw [a5]
      dsimp only [Option.bind_some]
      rw [if_pos rfl]
      refine Or.inr ⟨p + 1, ⟨by omega, by omega⟩, ?_, rfl⟩
      have nq : ¬ p + 1 = -9 := ne9 (by omega)
      unfold d63
      rw [k1]
      dsimp only [Option.bind_some]
      rw [a4]
      dsimp only [Option.bind_some]
      rw [two_f nq]
      dsimp only [Option.bind_some]
      rw [fg_f nq]
      dsimp only [Option.bind_some]
      exact if_neg (show ¬ (cs I (p + 1) (p + 1)) 3 0 4 = -9 from nq)
  · rw [k2, if_pos rfl]
    exact Or.inr ⟨p, ⟨p0, by omega⟩, d63_f (ne9 p0) k1, rfl⟩
end
section
noncomputable def nx_ (I : jI) (a b : Int32) : jI := jup (jup I 4 5 7 a) 4 5 8 b
noncomputable def nxm (J : jI) (a b : Int32) : jI := jup (jup J 31 0 18 a) 31 0 19 b
theorem nx_rd {I J : jI} {n : Int} {a b c e : Int32} (h : rdS I J n) : rdS (nx_ I a b) (nxm J c e) n := rdS_up (rdS_up h (by decide) (by decide)) (by decide) (by decide)
theorem cs_nx {I : jI} {p q a : Int32} : jup (cs I p q) 4 5 7 a = cs (jup I 4 5 7 a) p q := cs_up I p q (by decide)
theorem cs_nx8 {I : jI} {p q a : Int32} : jup (cs I p q) 4 5 8 a = cs (jup I 4 5 8 a) p q := cs_up I p q (by decide)
theorem ms_nx {J : jI} {p a : Int32} : jup (ms J p) 31 0 18 a = ms (jup J 31 0 18 a) p := ms_up J p (by decide)
theorem ms_nx9 {J : jI} {p a : Int32} : jup (ms J p) 31 0 19 a = ms (jup J 31 0 19 a) p := ms_up J p (by decide)
/-- the NEED, the ROOM -/
theorem needs_eq {I J : jI} {n : Int} (h : rdS I J n) {p q : Int32} (q0 : 0 ≤ q.toInt) (q1 : q.toInt ≤ n) (hs : d142 (ms J p) = some (ms J q)) :
    (∃ a b z z' : Int32, (1 ≤ a.toInt ∧ a.toInt ≤ 9) ∧ (0 ≤ b.toInt ∧ b.toInt ≤ 99) ∧ (0 ≤ z.toInt ∧ z.toInt ≤ n) ∧ d62 (cs I q (-9)) = some (cs (nx_ I a b) z (-9)) ∧ d145 (ms J p) = some (1, ms (nxm J a b) z') ∧ d142 (ms (nxm J a b) z') = some (ms (nxm J a b) z)) ∨
    (∃ (z y : Int32) (I' J' : jI), (0 ≤ y.toInt ∧ y.toInt ≤ n) ∧ (0 ≤ z.toInt ∧ z.toInt ≤ n) ∧ d62 (cs I q (-9)) = some (cs I' z y) ∧ d145 (ms J p) = some (0, ms J' y)) := by
  have hn := h.1.2
  have hI := h.2.1
  have hJ := h.2.2.1
  unfold d145 d62
  rw [hs]
  dsimp only [Option.bind_some]
  have e16 : (ms J q) 31 0 16 = q := rfl
  have e17 : (ms J q) 31 0 17 = J 31 0 17 := rfl
  have e3 : (cs I q (-9)) 3 0 3 = q := rfl
  rw [go_c hI, e16, e17, e3, cs_q, cs_p, ms_p]
  by_cases hq : q.toInt < n
  · rw [if_pos hq, if_neg (by decide), if_neg (show ¬ q = J 31 0 17 from fun z => by rw [z, hJ] at hq; omega), ms_here h (q := -9) q0 hq, e3]
    have ei := inc_rng q0 hq hn
    by_cases hw : (cs I q (-9)) 17 0 q.toNatClampNeg = 110
    · rw [if_pos hw, if_pos hw]
      rcases fig_eq h (p := q + 1) (Or.inr rfl) (by omega) (by omega) with ⟨a, a1, a2, a3, a4, a5⟩ | ⟨a4, a5⟩
      · have a2 : 1 ≤ a.toInt := a2
        have ej := inc_rng (p := q + 1) (by omega) a1 hn
        rw [a4, a5]
        dsimp only [Option.bind_some]
        rw [ms_nx, cs_nx, if_neg (show ¬ (ms (jup J 31 0 18 a) (q + 1 + 1)) 31 0 18 = -9 from ne9 (p := a) (by omega))]
        have h1 : rdS (jup I 4 5 7 a) (jup J 31 0 18 a) n := rdS_up h (by decide) (by decide)
        rcases two_eq h1 (p := q + 1 + 1) (by omega) (by omega) with ⟨b, y, b1, b2, b3, b4, b5, b6⟩ | ⟨y, w, b1, b2, b5, b6⟩
        · rw [b5, b6]
          dsimp only [Option.bind_some]
          rw [ms_nx9, cs_nx8, if_neg (show ¬ (ms (jup (jup J 31 0 18 a) 31 0 19 b) y) 31 0 19 = -9 from ne9 (p := b) b3)]
          obtain ⟨z, z1, z2, z3, z4⟩ := skip_c (nx_rd (a := a) (b := b) (c := a) (e := b) h) (-9) y (by omega) (by omega)
          have z3 : d61 (cs (jup (jup I 4 5 7 a) 4 5 8 b) y (-9)) = some (cs (nx_ I a b) z (-9)) := z3
          rw [z3]
          exact Or.inl ⟨a, b, z, y, ⟨a2, a3⟩, ⟨b3, b4⟩, ⟨by omega, z2⟩, rfl, rfl, z4⟩
        · rw [b5, b6]
          dsimp only [Option.bind_some]
          rw [ms_nx9, cs_nx8, if_pos (show (ms (jup (jup J 31 0 18 a) 31 0 19 (-9)) y) 31 0 19 = -9 from rfl)]
          obtain ⟨z, z1, z2, z3, z4⟩ := skip_c (nx_rd (a := a) (b := w) (c := a) (e := w) h) y y b1 b2
          have z3 : d61 (cs (jup (jup I 4 5 7 a) 4 5 8 w) y y) = some (cs (nx_ I a w) z y) := z3
          rw [z3]
          exact Or.inr ⟨z, y, nx_ I a w, _, ⟨b1, b2⟩, ⟨by omega, z2⟩, rfl, rfl⟩
      · have nq : ¬ q + 1 = -9 := ne9 (by omega)
        rw [a4, a5]
        dsimp only [Option.bind_some]
        rw [ms_nx, cs_nx, if_pos (show (ms (jup J 31 0 18 (-9)) (q + 1)) 31 0 18 = -9 from rfl), ms_nx9, if_pos (show (ms (jup (jup J 31 0 18 (-9)) 31 0 19 (-9)) (q + 1)) 31 0 19 = -9 from rfl), two_f nq]
        dsimp only [Option.bind_some]
        rw [cs_nx8]
        obtain ⟨z, z1, z2, z3, z4⟩ := skip_c (nx_rd (a := 0) (b := 10 * 0 + 0) (c := 0) (e := 0) h) (q + 1) (q + 1) (by omega) (by omega)
        have z3 : d61 (cs (jup (jup I 4 5 7 0) 4 5 8 (10 * 0 + 0)) (q + 1) (q + 1)) = some (cs (nx_ I 0 (10 * 0 + 0)) z (q + 1)) := z3
        rw [z3]
        exact Or.inr ⟨z, q + 1, nx_ I 0 (10 * 0 + 0), _, ⟨by omega, by omega⟩, ⟨by omega, z2⟩, rfl, rfl⟩
    · rw [if_neg hw, if_neg hw]
      exact Or.inr ⟨q, q, I, J, ⟨q0, q1⟩, ⟨q0, q1⟩, rfl, rfl⟩
  · rw [if_neg hq, if_pos rfl, if_pos (show q = J 31 0 17 from eq_t.mpr (by rw [hJ]; omega))]
    exact Or.inr ⟨q, q, I, J, ⟨q0, q1⟩, ⟨q0, q1⟩, rfl, rfl⟩
noncomputable def ctail (F : Nat) (x : Int32) (S : jI) : Option (Int32 × jI) := (d58_16 F x S).bind fun r5 => if (d60 r5) = 0 then some ((r5 3 0 4), r5) else some (((jup r5 3 0 4 (r5 3 0 3)) 3 0 4), (jup r5 3 0 4 (r5 3 0 3)))
noncomputable def mtail (F : Nat) (y : Int32) (S : jI) : Option (Int32 × jI) := (d148_41 F y S).bind fun r4 => if r4.1 = 0 then some ((r4.2 31 0 16), r4.2) else if (r4.2 31 0 21) ≤ 0 then some ((r4.2 31 0 16), r4.2) else some ((-9), r4.2)
theorem ct_end {F : Nat} {x : Int32} {S : jI} (h : d60 S = 0 ∨ 6 ≤ x) : d58_16 (F + 1) x S = some S := by
  rw [d58_16]
  by_cases q : 6 ≤ x
  · rw [if_pos q]
  · rw [if_neg q]
    rcases h with h | h
    · rw [h, if_pos rfl]
    · exact absurd h q
theorem mt_end {F : Nat} {S : jI} : d148_41 (F + 1) 0 S = some (0, S) := by rw [d148_41, if_pos rfl]
/-- what the readers come to -/
noncomputable def rdR (I J : jI) (v : Int32) : Prop := (v = -9 ∧ ∃ m, 1 ≤ m ∧ m ≤ 6 ∧ RP I J m ∧ RN I J) ∨ 0 ≤ v.toInt
theorem loop_eq {n : Int} : ∀ (c m F F' : Nat) (x p : Int32) (I J : jI), c + m = 6 → 1 ≤ m → c < F → c + 1 < F' → x.toInt = (m : Int) → rdS I J n → RP I J m → RN I J → 0 ≤ p.toInt → p.toInt ≤ n → ∃ (v : Int32) (I' J' : jI), ctail F x (cs I p (-9)) = some (v, I') ∧ mtail F' 1 (ms J p) = some (v, J') ∧ rdR I' J' v := by
  intro c
  induction c with
  | zero =>
    intro m F F' x p I J hc hm hF hF' hx h hp hr p0 p1
    obtain ⟨F, rfl⟩ : ∃ k, F = k + 1 := ⟨F - 1, by omega⟩
    obtain ⟨F', rfl⟩ : ∃ k, F' = k + 2 := ⟨F' - 2, by omega⟩
    have c6 : (6 : Int32).toInt = 6 := rfl
    have hI := h.2.1
    have hJ := h.2.2.1
    unfold ctail mtail
    rw [ct_end (Or.inr (le_t.mpr (by rw [c6]; omega)))]
    dsimp only [Option.bind_some]
    rw [go_c hI]
    rw [d148_41, if_neg (show ¬ (1 : Int32) = 0 by decide)]
    have e16 : (ms J p) 31 0 16 = p := rfl
    have e17 : (ms J p) 31 0 17 = J 31 0 17 := rfl
    have e21 : (ms J p) 31 0 21 = J 31 0 21 := rfl
    rw [e16, e17]
    by_cases hq : p.toInt < n
    · rw [if_pos hq, if_neg (show ¬ (1 : Int32) = 0 by decide), if_neg (show ¬ J 31 0 17 ≤ p by rw [le_t, hJ]; omega), cs_q]
      have e7 : d147 (ms J p) = some (0, ms J p) := by
        unfold d147
        by_cases k : d146 (d141 (ms J p)) (ms J p) = -9
        · rw [if_pos k]
        · rw [if_neg k, e21, if_pos (eq_t.mpr (by rw [hp.2.1, c6]; omega))]
      rw [e7]
      dsimp only [Option.bind_some]
      rw [if_pos rfl, mt_end]
      dsimp only [Option.bind_some]
      rw [if_pos rfl]
      exact ⟨p, _, _, rfl, rfl, Or.inr p0⟩
    · rw [if_neg hq, if_pos rfl, if_pos (show J 31 0 17 ≤ p by rw [le_t, hJ]; omega)]
      dsimp only [Option.bind_some]
      have nm : ¬ J 31 0 21 ≤ 0 := by rw [le_t, hp.2.1]; show ¬ (m : Int) ≤ 0; omega
      rw [if_neg (show ¬ (1 : Int32) = 0 by decide), if_neg (show ¬ (ms J p) 31 0 21 ≤ 0 from nm)]
      exact ⟨-9, _, _, rfl, rfl, Or.inl ⟨rfl, m, hm, by omega, hp, hr⟩⟩
  | succ c ih =>
    intro m F F' x p I J hc hm hF hF' hx h hp hr p0 p1
    obtain ⟨F, rfl⟩ : ∃ k, F = k + 2 := ⟨F - 2, by omega⟩
    obtain ⟨F', rfl⟩ : ∃ k, F' = k + 2 := ⟨F' - 2, by omega⟩
    have c6 : (6 : Int32).toInt = 6 := rfl
    have hI := h.2.1
    have hJ := h.2.2.1
    have e16 : (ms J p) 31 0 16 = p := rfl
    have e17 : (ms J p) 31 0 17 = J 31 0 17 := rfl
    have e21 : (ms J p) 31 0 21 = J 31 0 21 := rfl
    by_cases hq : p.toInt < n
    · have f1 : ctail (F + 2) x (cs I p (-9)) = (d63 (cs I p (-9))).bind fun r4 => ctail (F + 1) (x + 1) r4 := by
        unfold ctail
        rw [d58_16, if_neg (by rw [le_t, c6]; omega), go_c hI, if_pos hq, if_neg (by decide)]
        cases d63 (cs I p (-9)) <;> rfl
      have f2 : mtail (F' + 2) 1 (ms J p) = (d147 (ms J p)).bind fun r2 => if r2.1 = 0 then mtail (F' + 1) r2.1 r2.2 else (d142 r2.2).bind fun r3 => mtail (F' + 1) r2.1 r3 := by
        unfold mtail
        rw [d148_41, if_neg (by decide), e16, e17, if_neg (by rw [le_t, hJ]; omega)]
        cases d147 (ms J p) with
        | none => rfl
        | some r =>
          dsimp only [Option.bind_some]
          by_cases q : r.1 = 0
          · rw [if_pos q, if_pos q]
          · rw [if_neg q, if_neg q]
            cases d142 r.2 <;> rfl
      rw [f1, f2]
      rcases packet_eq h (m := m) (by omega) hp.1 hp.2.1 p0 hq with ⟨k, g, w, e, z, k1, k2, k3, k4, k5, k6, z', k7, k8⟩ | ⟨z, k5, k6, k7⟩
      · rw [k6, k7]
        dsimp only [Option.bind_some]
        rw [if_neg (by decide), k8]
        dsimp only [Option.bind_some]
        exact ih (m + 1) (F + 1) (F' + 1) (x + 1) z (pk I k g w e) (pkm J k g w e) (by omega) (by omega) (by omega) (by omega) (by rw [i32_inc (by omega)]; omega) (pk_rd h) (RP_add hp (by omega) k1 k2 k3 k4) (RN_add hr) k5.1 k5.2
      · rw [k6, k7]
        dsimp only [Option.bind_some]
        rw [if_pos rfl]
        unfold ctail mtail
        rw [ct_end (Or.inl (go_f (ne9 k5.1))), mt_end]
        dsimp only [Option.bind_some]
        rw [go_f (ne9 k5.1), if_pos rfl, if_pos rfl]
        exact ⟨z, _, _, rfl, rfl, Or.inr k5.1⟩
    · unfold ctail mtail
      rw [ct_end (Or.inl (by rw [go_c hI, if_neg hq]))]
      dsimp only [Option.bind_some]
      rw [go_c hI, if_neg hq, if_pos rfl, d148_41, if_neg (show ¬ (1 : Int32) = 0 by decide), e16, e17, if_pos (show J 31 0 17 ≤ p by rw [le_t, hJ]; omega)]
      dsimp only [Option.bind_some]
      have nm : ¬ J 31 0 21 ≤ 0 := by rw [le_t, hp.2.1]; show ¬ (m : Int) ≤ 0; omega
      rw [if_neg (show ¬ (1 : Int32) = 0 by decide), if_neg (show ¬ (ms J p) 31 0 21 ≤ 0 from nm)]
      exact ⟨-9, _, _, rfl, rfl, Or.inl ⟨rfl, m, hm, by omega, hp, hr⟩⟩
end
section
/-! the whole reading, fault -/
theorem sign_c {t : Int32} {n : Int} : ∀ (F : Nat) (x : Int32) (S : jI), (S 3 0 2).toInt = n → n ≤ 60 → 0 ≤ x.toInt → x.toInt ≤ n → n - x.toInt < (F : Int) → ∃ S', d59_19 t F x S = some S' ∧ (∀ g, ¬ g = 17 → S' g = S g) ∧ ∀ j : Nat, S' 17 0 j = if x.toInt ≤ (j : Int) ∧ (j : Int) < n then S 30 t.toNatClampNeg j else S 17 0 j
  | 0, x, S, _, _, _, h1, h2 => by exfalso; simp at h2; omega
  | F + 1, x, S, hn, h60, h0, h1, h2 => by
    have nx := cl_t h0
    rw [d59_19]
    by_cases q : S 3 0 2 ≤ x
    · rw [if_pos q]
      rw [le_t, hn] at q
      exact ⟨S, rfl, fun _ _ => rfl, fun j => by rw [if_neg (fun z => by omega)]⟩
    · rw [if_neg q]
      rw [le_t, hn] at q
      have e := i32_inc (x := x) (by omega)
      obtain ⟨S', e1, e2, e3⟩ := sign_c (t := t) (n := n) F (x + 1) (jup S 17 0 x.toNatClampNeg (d18g2 t x S)) hn h60 (by omega) (by omega) (by omega)
      refine ⟨S', e1, fun g hg => (e2 g hg).trans (jup_g hg), fun j => ?_⟩
      rw [e3, e]
      have e4 : jup S 17 0 x.toNatClampNeg (d18g2 t x S) 30 t.toNatClampNeg j = S 30 t.toNatClampNeg j := jup_of (fun z => absurd z.1 (by decide))
      rw [e4]
      by_cases c : x.toInt ≤ (j : Int) ∧ (j : Int) < n
      · rw [if_pos c]
        by_cases c2 : x.toInt + 1 ≤ (j : Int) ∧ (j : Int) < n
        · rw [if_pos c2]
        · rw [if_neg c2]
          have ej : j = x.toNatClampNeg := by omega
          subst ej
          exact jup_at
      · rw [if_neg c, if_neg (fun z => c ⟨by omega, z.2⟩)]
        exact jup_of (fun z => c ⟨by omega, by omega⟩)
theorem ms_0 {X : jI} {v w : Int32} : jup (jup (jup X 31 0 16 0) 31 0 17 v) 31 0 21 w = ms (jup (jup X 31 0 17 v) 31 0 21 w) 0 := by
  show jup (jup (ms X 0) 31 0 17 v) 31 0 21 w = _
  rw [ms_up _ _ (by decide), ms_up _ _ (by decide)]
theorem packet_f {I : jI} {p q : Int32} (h : ¬ q = -9) : d63 (cs I p q) = some (cs I p q) := by
  refine d63_f h (v := 0) ?_
  unfold d64
  rw [go_f h, if_pos rfl, fh_f h]
  rfl
theorem ct_f {I : jI} {p q : Int32} (h : ¬ q = -9) {F : Nat} {x : Int32} : ctail (F + 1) x (cs I p q) = some (q, cs I p q) := by
  unfold ctail
  rw [ct_end (Or.inl (go_f h))]
  dsimp only [Option.bind_some]
  rw [go_f h, if_pos rfl]
  rfl
theorem mt_f {J : jI} {q : Int32} {F : Nat} : mtail (F + 1) 0 (ms J q) = some (q, ms J q) := by
  unfold mtail
  rw [mt_end]
  dsimp only [Option.bind_some]
  rw [if_pos rfl]
  rfl
theorem read_eq {I J : jI} {t : Int32} (ht : 0 ≤ t.toInt ∧ t.toInt ≤ 3) (hl : J 37 0 t.toNatClampNeg = I 16 0 t.toNatClampNeg) (hb : ∀ j, j < 60 → J 38 0 (60 * t.toNatClampNeg + j) = I 30 t.toNatClampNeg j) (hn : 0 ≤ (I 16 0 t.toNatClampNeg).toInt ∧ (I 16 0 t.toNatClampNeg).toInt ≤ 60) : ∃ (v : Int32) (I' J' : jI), d58 t I = some (v, I') ∧ d148 t J = some (v, J') ∧ rdR I' J' v := by
  generalize hN : (I 16 0 t.toNatClampNeg).toInt = n at hn
  have s2 : (jup (jup I 4 5 6 0) 3 0 2 (I 16 0 t.toNatClampNeg)) 3 0 2 = I 16 0 t.toNatClampNeg := jup_at
  obtain ⟨S, e1, e2, e3⟩ := sign_c (t := t) (n := n) 70 0 (jup (jup I 4 5 6 0) 3 0 2 (I 16 0 t.toNatClampNeg)) (by rw [s2]; exact hN) hn.2 (by decide) hn.1 (by show n - 0 < 70; omega)
  have S3 : S 3 0 2 = I 16 0 t.toNatClampNeg := by rw [e2 3 (by decide)]; exact s2
  have S4 : S 4 5 6 = 0 := by rw [e2 4 (by decide)]; exact (congrFun (congrFun (jup_g (by decide)) 5) 6).trans jup_at
  generalize hJ' : jup (jup (jup J 31 0 15 (60 * t)) 31 0 17 (J 37 0 t.toNatClampNeg)) 31 0 21 0 = J'
  have j15 : J' 31 0 15 = 60 * t := by rw [← hJ']; rfl
  have j17 : J' 31 0 17 = J 37 0 t.toNatClampNeg := by rw [← hJ']; rfl
  have j21 : J' 31 0 21 = 0 := by rw [← hJ']; rfl
  have j38 : J' 38 = J 38 := by rw [← hJ']; exact ((jup_g (by decide)).trans (jup_g (by decide))).trans (jup_g (by decide))
  have nt := cl_t ht.1
  have rd : rdS S J' n := by
    refine ⟨hn, by rw [S3]; exact hN, by rw [j17, hl]; exact hN, t, ht, j15, fun p p0 p1 => ?_⟩
    have np := cl_t p0
    rw [j38, hb _ (by omega), e3, if_pos (by show (0 : Int) ≤ _ ∧ _; omega)]
    exact ((jup_of (fun z => absurd z.1 (by decide))).trans (jup_of (fun z => absurd z.1 (by decide)))).symm
  have hc : d58 t I = (d61 (cs S 0 (-9))).bind fun r1 => (d62 r1).bind fun r2 => (d63 r2).bind fun r3 => ctail 70 1 r3 := by
    unfold d58 d59 d17g2
    have : (jup I 4 5 6 0) 16 0 t.toNatClampNeg = I 16 0 t.toNatClampNeg := rfl
    rw [this, e1]
    dsimp only [Option.bind_some]
    show ((d61 (cs S 0 (-9))).bind fun r2 => some r2).bind _ = _
    cases d61 (cs S 0 (-9)) <;> rfl
  have hm : d148 t J = (d145 (ms J' 0)).bind fun r1 => if r1.1 = 0 then mtail 70 r1.1 r1.2 else (d142 r1.2).bind fun r5 => mtail 70 r1.1 r5 := by
    unfold d148
    rw [ms_0]
    have : (jup (jup J 31 0 15 (60 * t)) 31 0 16 0) 37 0 t.toNatClampNeg = J 37 0 t.toNatClampNeg := rfl
    rw [this, hJ']
    rfl
  obtain ⟨q, q1, q2, q3, q4⟩ := skip_c rd (-9) 0 (by decide) hn.1
  have q1 : 0 ≤ q.toInt := q1
  rw [hc, hm, q3]
  dsimp only [Option.bind_some]
  rcases needs_eq rd q1 q2 q4 with ⟨a, b, z, z', a1, b1, z1, c1, c2, c3⟩ | ⟨z, y, I', J2, y1, z1, c1, c2⟩
  · rw [c1, c2]
    dsimp only [Option.bind_some]
    rw [if_neg (by decide), c3]
    dsimp only [Option.bind_some]
    have rd2 := nx_rd (a := a) (b := b) (c := a) (e := b) rd
    have rp : RP (nx_ S a b) (nxm J' a b) 0 := by
      refine ⟨?_, ?_, fun i hi => absurd hi (Nat.not_lt_zero i)⟩
      · show (S 4 5 6).toInt = _; rw [S4]; rfl
      · show (J' 31 0 21).toInt = _; rw [j21]; rfl
    have rn : RN (nx_ S a b) (nxm J' a b) := ⟨rfl, rfl, a1, b1⟩
    have e16 : (ms (nxm J' a b) z) 31 0 16 = z := rfl
    have e17 : (ms (nxm J' a b) z) 31 0 17 = (nxm J' a b) 31 0 17 := rfl
    have e21 : (ms (nxm J' a b) z) 31 0 21 = 0 := j21
    have hI := rd2.2.1
    have hJ := rd2.2.2.1
    by_cases hz : z.toInt < n
    · have f2 : mtail 70 1 (ms (nxm J' a b) z) = (d147 (ms (nxm J' a b) z)).bind fun r2 => if r2.1 = 0 then mtail 69 r2.1 r2.2 else (d142 r2.2).bind fun r3 => mtail 69 r2.1 r3 := by
        unfold mtail
        rw [d148_41, if_neg (show ¬ (1 : Int32) = 0 by decide), e16, e17, if_neg (show ¬ (nxm J' a b) 31 0 17 ≤ z by rw [le_t, hJ]; omega)]
        cases d147 (ms (nxm J' a b) z) with
        | none => rfl
        | some r =>
          dsimp only [Option.bind_some]
          by_cases w : r.1 = 0
          · rw [if_pos w, if_pos w]
          · rw [if_neg w, if_neg w]
            cases d142 r.2 <;> rfl
      rw [f2]
      rcases packet_eq rd2 (m := 0) (by decide) rp.1 rp.2.1 z1.1 hz with ⟨k, g, w, e, y, k1, k2, k3, k4, k5, k6, y', k7, k8⟩ | ⟨y, k5, k6, k7⟩
      · rw [k6, k7]
        dsimp only [Option.bind_some]
        rw [if_neg (by decide), k8]
        dsimp only [Option.bind_some]
        exact loop_eq 5 1 70 69 1 y _ _ (by decide) (by decide) (by decide) (by decide) (by decide) (pk_rd rd2) (RP_add rp (by decide) k1 k2 k3 k4) (RN_add rn) k5.1 k5.2
      · rw [k6, k7]
        dsimp only [Option.bind_some]
        rw [if_pos rfl, ct_f (ne9 k5.1), mt_f]
        exact ⟨y, _, _, rfl, rfl, Or.inr k5.1⟩
    · have k1 := d63_f (ne9 z1.1) (kind_n rd2 hz)
      rw [k1]
      dsimp only [Option.bind_some]
      rw [ct_f (ne9 z1.1)]
      unfold mtail
      rw [d148_41, if_neg (show ¬ (1 : Int32) = 0 by decide), e16, e17, if_pos (show (nxm J' a b) 31 0 17 ≤ z by rw [le_t, hJ]; omega)]
      dsimp only [Option.bind_some]
      rw [if_neg (show ¬ (1 : Int32) = 0 by decide), if_pos (show (ms (nxm J' a b) z) 31 0 21 ≤ 0 by rw [e21]; decide)]
      exact ⟨z, _, _, rfl, rfl, Or.inr z1.1⟩
  · have ny := ne9 y1.1
    rw [c1, c2]
    dsimp only [Option.bind_some]
    rw [packet_f ny]
    dsimp only [Option.bind_some]
    rw [if_pos rfl, ct_f ny, mt_f]
    exact ⟨y, _, _, rfl, rfl, Or.inr y1.1⟩
theorem gi_tsz {I : jI} (h : gG aGI I) {t : Nat} (ht : t ≤ 3) : -1 ≤ (I 16 0 t).toInt ∧ (I 16 0 t).toInt ≤ 60 := h (16, (0, 0), (0, 3), (-1, 60)) (by decide) 0 t (by simp) (by simp) (by simp) (by simp; omega)
end
section
/-! house: what both sides lay down -/
/-- the class: nothing kept -/
theorem unk_c : ∀ (F : Nat) (x : Int32) (S : jI), 0 ≤ x.toInt → x.toInt ≤ 3 → 3 - x.toInt < (F : Int) → ∃ S', d77_77 F x S = some S' ∧ (∀ g, ¬ g = 6 → S' g = S g) ∧ ∀ j : Nat, S' 6 0 j = if x.toInt ≤ (j : Int) ∧ (j : Int) < 3 then 0 else S 6 0 j
  | 0, x, S, _, h1, h2 => by exfalso; simp at h2; omega
  | F + 1, x, S, h0, h1, h2 => by
    have c3 : (3 : Int32).toInt = 3 := rfl
    have nx := cl_t h0
    rw [d77_77]
    by_cases q : 3 ≤ x
    · rw [if_pos q]
      rw [le_t, c3] at q
      exact ⟨S, rfl, fun _ _ => rfl, fun j => by rw [if_neg (fun z => by omega)]⟩
    · rw [if_neg q]
      rw [le_t, c3] at q
      have e := i32_inc (x := x) (by omega)
      obtain ⟨S', e1, e2, e3⟩ := unk_c F (x + 1) (jup S 6 0 x.toNatClampNeg (vp_nar .boolean 0)) (by omega) (by omega) (by omega)
      refine ⟨S', e1, fun g hg => (e2 g hg).trans (jup_g hg), fun j => ?_⟩
      rw [e3, e]
      by_cases c : x.toInt ≤ (j : Int) ∧ (j : Int) < 3
      · rw [if_pos c]
        by_cases c2 : x.toInt + 1 ≤ (j : Int) ∧ (j : Int) < 3
        · rw [if_pos c2]
        · rw [if_neg c2]
          have ej : j = x.toNatClampNeg := by omega
          subst ej
          exact jup_at
      · rw [if_neg c, if_neg (fun z => c ⟨by omega, z.2⟩)]
        exact jup_of (fun z => c ⟨by omega, by omega⟩)
/-- the reference: its row empty -/
theorem z39_m : ∀ (F : Nat) (x : Int32) (S : jI), 0 ≤ x.toInt → x.toInt ≤ 1149 → 1149 - x.toInt < (F : Int) → ∃ S', d150_39 F x S = some S' ∧ (∀ g, ¬ g = 32 → S' g = S g) ∧ ∀ j : Nat, S' 32 0 j = if x.toInt ≤ (j : Int) ∧ (j : Int) < 1149 then 0 else S 32 0 j
  | 0, x, S, _, h1, h2 => by exfalso; simp at h2; omega
  | F + 1, x, S, h0, h1, h2 => by
    have c3 : (1149 : Int32).toInt = 1149 := rfl
    have nx := cl_t h0
    rw [d150_39]
    by_cases q : 1149 ≤ x
    · rw [if_pos q]
      rw [le_t, c3] at q
      exact ⟨S, rfl, fun _ _ => rfl, fun j => by rw [if_neg (fun z => by omega)]⟩
    · rw [if_neg q]
      rw [le_t, c3] at q
      have e := i32_inc (x := x) (by omega)
      obtain ⟨S', e1, e2, e3⟩ := z39_m F (x + 1) (jup S 32 0 x.toNatClampNeg 0) (by omega) (by omega) (by omega)
      refine ⟨S', e1, fun g hg => (e2 g hg).trans (jup_g hg), fun j => ?_⟩
      rw [e3, e]
      by_cases c : x.toInt ≤ (j : Int) ∧ (j : Int) < 1149
      · rw [if_pos c]
        by_cases c2 : x.toInt + 1 ≤ (j : Int) ∧ (j : Int) < 1149
        · rw [if_pos c2]
        · rw [if_neg c2]
          have ej : j = x.toNatClampNeg := by omega
          subst ej
          exact jup_at
      · rw [if_neg c, if_neg (fun z => c ⟨by omega, z.2⟩)]
        exact jup_of (fun z => c ⟨by omega, by omega⟩)
theorem ixc {c x : Int32} {n : Nat} (hc : c.toInt = (n : Int)) (hn : n ≤ 5000) (g0 : 0 ≤ x.toInt) (g : x.toInt ≤ 5000) : Int32.toNatClampNeg (c + x) = n + x.toNatClampNeg := by
  have e2 : (c + x).toInt = n + x.toInt := by rw [i32_add (by omega), hc]
  have n1 := cl_t g0
  have n2 := cl_t (x := c + x) (by omega)
  omega
/-- its PACKETS -/
noncomputable def pk85 (S : jI) (i : Nat) : jI := jup (jup (jup (jup S 33 0 i (S 40 0 (4 * i))) 32 0 (17 + i) (S 40 0 (4 * i + 1))) 32 0 (23 + i) (S 40 0 (4 * i + 2))) 34 0 i (S 40 0 (4 * i + 3))
theorem st85 {F : Nat} {x : Int32} {S : jI} (h0 : 0 ≤ x.toInt) (h6 : x.toInt < 6) (hq : ¬ S 31 0 3 ≤ x) : d150_85 (F + 1) x S = d150_85 F (x + 1) (pk85 S x.toNatClampNeg) := by
  rw [d150_85, if_neg hq]
  have a0 := ix4z (m := x) h0 (by omega)
  have a1 := ix4 (m := x) (c := 1) h0 (by omega) (by decide) (by decide)
  have a2 := ix4 (m := x) (c := 2) h0 (by omega) (by decide) (by decide)
  have a3 := ix4 (m := x) (c := 3) h0 (by omega) (by decide) (by decide)
  have b1 := ixc (c := 17) (x := x) (n := 17) rfl (by decide) h0 (by omega)
  have b2 := ixc (c := 23) (x := x) (n := 23) rfl (by decide) h0 (by omega)
  rw [a0, a1, a2, a3, b1, b2]
  rfl
theorem h85_m {m : Nat} (hm : m ≤ 6) : ∀ (F : Nat) (x : Int32) (S : jI), (S 31 0 3).toInt = (m : Int) → 0 ≤ x.toInt → x.toInt ≤ (m : Int) → (m : Int) - x.toInt < (F : Int) → ∃ S', d150_85 F x S = some S' ∧ (∀ g, ¬ g = 32 → ¬ g = 33 → ¬ g = 34 → S' g = S g) ∧ (∀ i : Nat, S' 33 0 i = if x.toInt ≤ (i : Int) ∧ i < m then S 40 0 (4 * i) else S 33 0 i) ∧ (∀ i : Nat, S' 34 0 i = if x.toInt ≤ (i : Int) ∧ i < m then S 40 0 (4 * i + 3) else S 34 0 i) ∧ (∀ i : Nat, i < m → x.toInt ≤ (i : Int) → S' 32 0 (17 + i) = S 40 0 (4 * i + 1) ∧ S' 32 0 (23 + i) = S 40 0 (4 * i + 2)) ∧ ∀ j : Nat, (∀ i, i < m → x.toInt ≤ (i : Int) → ¬ j = 17 + i ∧ ¬ j = 23 + i) → S' 32 0 j = S 32 0 j
  | 0, x, S, _, _, h1, h2 => by exfalso; simp at h2; omega
  | F + 1, x, S, hs, h0, h1, h2 => by
    have nx := cl_t h0
    by_cases q : S 31 0 3 ≤ x
    · rw [d150_85, if_pos q]
      rw [le_t, hs] at q
      exact ⟨S, rfl, fun _ _ _ _ => rfl, fun i => by rw [if_neg (fun z => by omega)], fun i => by rw [if_neg (fun z => by omega)], fun i hi hx => by omega, fun _ _ => rfl⟩
    · have q' := q
      rw [le_t, hs] at q'
      have e := i32_inc (x := x) (by omega)
      rw [st85 h0 (by omega) q]
      obtain ⟨S', e1, e2, e3, e4, e5, e6⟩ := h85_m hm F (x + 1) (pk85 S x.toNatClampNeg) hs (by omega) (by omega) (by omega)
      have p40 : ∀ j, pk85 S x.toNatClampNeg 40 0 j = S 40 0 j := fun _ => rfl
      refine ⟨S', e1, fun g g1 g2 g3 => (e2 g g1 g2 g3).trans ?_, fun i => ?_, fun i => ?_, fun i hi hx => ?_, fun j hj => ?_⟩
      · unfold pk85
        exact (jup_g g3).trans ((jup_g g1).trans ((jup_g g1).trans (jup_g g2)))
      · rw [e3, e, p40]
        have : pk85 S x.toNatClampNeg 33 0 i = if i = x.toNatClampNeg then S 40 0 (4 * i) else S 33 0 i := by
          by_cases c : i = x.toNatClampNeg
          · subst c; rw [if_pos rfl]; exact jup_at
          · rw [if_neg c]
            show jup S 33 0 x.toNatClampNeg (S 40 0 (4 * x.toNatClampNeg)) 33 0 i = _
            exact jup_of (fun z => c z.2.2)
        rw [this]
        by_cases c : x.toInt ≤ (i : Int) ∧ i < m
        · rw [if_pos c]
          by_cases c2 : x.toInt + 1 ≤ (i : Int) ∧ i < m
          · rw [if_pos c2]
          · rw [if_neg c2, if_pos (by omega)]
        · rw [if_neg c, if_neg (fun z => c ⟨by omega, z.2⟩), if_neg (fun z => c ⟨by omega, by omega⟩)]
      · rw [e4, e, p40]
        have : pk85 S x.toNatClampNeg 34 0 i = if i = x.toNatClampNeg then S 40 0 (4 * i + 3) else S 34 0 i := by
          by_cases c : i = x.toNatClampNeg
          · subst c; rw [if_pos rfl]; exact jup_at
          · rw [if_neg c]; exact jup_of (fun z => c z.2.2)
        rw [this]
        by_cases c : x.toInt ≤ (i : Int) ∧ i < m
        · rw [if_pos c]
          by_cases c2 : x.toInt + 1 ≤ (i : Int) ∧ i < m
          · rw [if_pos c2]
          · rw [if_neg c2, if_pos (by omega)]
        · rw [if_neg c, if_neg (fun z => c ⟨by omega, z.2⟩), if_neg (fun z => c ⟨by omega, by omega⟩)]
      · by_cases c : x.toInt + 1 ≤ (i : Int)
        · have := e5 i hi (by omega)
          rw [p40, p40] at this
          exact this
        · have ei : i = x.toNatClampNeg := by omega
          subst ei
          rw [e6 (17 + x.toNatClampNeg) (fun i' _ _ => ⟨by omega, by omega⟩), e6 (23 + x.toNatClampNeg) (fun i' _ _ => ⟨by omega, by omega⟩)]
          refine ⟨?_, ?_⟩
          · show jup (jup (jup S 33 0 x.toNatClampNeg _) 32 0 (17 + x.toNatClampNeg) (S 40 0 (4 * x.toNatClampNeg + 1))) 32 0 (23 + x.toNatClampNeg) _ 32 0 (17 + x.toNatClampNeg) = _
            rw [jup_of (fun z => by have := z.2.2; omega)]
            exact jup_at
          · show jup (jup (jup S 33 0 x.toNatClampNeg _) 32 0 (17 + x.toNatClampNeg) _) 32 0 (23 + x.toNatClampNeg) (S 40 0 (4 * x.toNatClampNeg + 2)) 32 0 (23 + x.toNatClampNeg) = _
            exact jup_at
      · rw [e6 j (fun i hi hx => hj i hi (by omega))]
        have hj' := hj x.toNatClampNeg (by omega) (by omega)
        show jup (jup (jup S 33 0 x.toNatClampNeg _) 32 0 (17 + x.toNatClampNeg) _) 32 0 (23 + x.toNatClampNeg) _ 32 0 j = _
        rw [jup_of (fun z => hj'.2 z.2.2), jup_of (fun z => hj'.1 z.2.2)]
        rfl
theorem h169_m : ∀ (F : Nat) (x : Int32) (S : jI), 1 ≤ x.toInt → x.toInt ≤ 4 → 4 - x.toInt < (F : Int) → ∃ S', d150_169 F x S = some S' ∧ (∀ g, ¬ g = 32 → S' g = S g) ∧ ∀ j : Nat, S' 32 0 j = if (j = 1149 ∧ x.toInt ≤ 1) ∨ (j = 2298 ∧ x.toInt ≤ 2) ∨ (j = 3447 ∧ x.toInt ≤ 3) then -1 else S 32 0 j
  | 0, x, S, _, h1, h2 => by exfalso; simp at h2; omega
  | F + 1, x, S, h0, h1, h2 => by
    have c3 : (4 : Int32).toInt = 4 := rfl
    have c9 : (1149 : Int32).toInt = 1149 := rfl
    have c0 : (0 : Int32).toInt = 0 := rfl
    rw [d150_169]
    by_cases q : 4 ≤ x
    · rw [if_pos q]
      rw [le_t, c3] at q
      exact ⟨S, rfl, fun _ _ => rfl, fun j => by rw [if_neg (fun z => by omega)]⟩
    · rw [if_neg q]
      rw [le_t, c3] at q
      have e := i32_inc (x := x) (by omega)
      have f1 : (1149 * x).toInt = 1149 * x.toInt := by rw [i32_mul (by rw [c9]; omega), c9]
      have f2 : (1149 * x + 0).toInt = 1149 * x.toInt := by rw [i32_add (by rw [f1, c0]; omega), f1, c0]; omega
      have f3 := cl_t (x := 1149 * x + 0) (by omega)
      obtain ⟨S', e1, e2, e3⟩ := h169_m F (x + 1) (jup S 32 0 (Int32.toNatClampNeg (1149 * x + 0)) (-1)) (by omega) (by omega) (by omega)
      refine ⟨S', e1, fun g hg => (e2 g hg).trans (jup_g hg), fun j => ?_⟩
      rw [e3, e]
      by_cases c : (j = 1149 ∧ x.toInt ≤ 1) ∨ (j = 2298 ∧ x.toInt ≤ 2) ∨ (j = 3447 ∧ x.toInt ≤ 3)
      · rw [if_pos c]
        by_cases c2 : (j = 1149 ∧ x.toInt + 1 ≤ 1) ∨ (j = 2298 ∧ x.toInt + 1 ≤ 2) ∨ (j = 3447 ∧ x.toInt + 1 ≤ 3)
        · rw [if_pos c2]
        · rw [if_neg c2]
          have ej : j = Int32.toNatClampNeg (1149 * x + 0) := by omega
          subst ej
          exact jup_at
      · rw [if_neg c, if_neg (fun z => c (by omega))]
        exact jup_of (fun z => c (by omega))
end
section
theorem ta_c {a0 a1 : Nat} {I : jI} {g i j : Nat} (h : ¬ g = 22) : jcpy (d29 a0 a1 I) 22 a1 22 a0 (Int32.toNatClampNeg 0) (Int32.toNatClampNeg 0) (Int32.toNatClampNeg 40) g i j = if i = a0 ∧ ((g = 4 ∧ 6 ≤ j ∧ j < 16) ∨ (18 ≤ g ∧ g < 22 ∧ j < 6) ∨ (g = 23 ∧ j < 10)) then I g a1 j else I g i j := by
  unfold jcpy
  rw [if_neg (fun z => h z.1)]
  rfl
theorem ta_l {a0 a1 : Nat} {I : jI} {i j : Nat} : jcpy (d29 a0 a1 I) 22 a1 22 a0 (Int32.toNatClampNeg 0) (Int32.toNatClampNeg 0) (Int32.toNatClampNeg 40) 22 i j = if i = a0 ∧ j < 40 then I 22 a1 j else I 22 i j := by
  have c0 : Int32.toNatClampNeg 0 = 0 := rfl
  have c40 : Int32.toNatClampNeg 40 = 40 := rfl
  have d22 : ∀ x y, d29 a0 a1 I 22 x y = I 22 x y := fun x y => if_neg (fun z => by have := z.2; omega)
  unfold jcpy
  rw [c0, c40, d22, d22]
  by_cases h : i = a0 ∧ j < 40
  · rw [if_pos h, if_pos ⟨rfl, h.1, by omega, by omega⟩, show 0 + (j - 0) = j by omega]
  · rw [if_neg h, if_neg (fun z => h ⟨z.2.1, by omega⟩)]
/-- house of a good TEXT: the class's cells -/
noncomputable def hoC (I' T : jI) : Prop := (∀ x, x ≤ 1 → (∀ j, 6 ≤ j → j < 16 → T 4 x j = I' 4 5 j) ∧ (∀ g j, 18 ≤ g → g < 22 → j < 6 → T g x j = I' g 5 j) ∧ (∀ j, j < 10 → T 23 x j = I' 23 5 j) ∧ (∀ j, j < 40 → T 22 x j = I' 22 5 j)) ∧ (∀ k, k < 3 → T 6 0 k = 0) ∧ (∀ g x j, 2 ≤ x → ¬ g = 6 → T g x j = I' g x j) ∧ ∀ g, ¬ g = 4 → ¬ g = 6 → ¬ (18 ≤ g ∧ g ≤ 23) → T g = I' g
theorem hoC_of {I' : jI} : ∃ T, ((d28 0 5 I').bind fun r2 => (d28 1 0 r2).bind fun r3 => d77_77 70 0 r3) = some T ∧ hoC I' T := by
  unfold d28
  dsimp only [Option.bind_some]
  obtain ⟨T, t1, t2, t3⟩ := unk_c 70 0 (jcpy (d29 1 0 (jcpy (d29 0 5 I') 22 5 22 0 (Int32.toNatClampNeg 0) (Int32.toNatClampNeg 0) (Int32.toNatClampNeg 40))) 22 0 22 1 (Int32.toNatClampNeg 0) (Int32.toNatClampNeg 0) (Int32.toNatClampNeg 40)) (by decide) (by decide) (by decide)
  refine ⟨T, t1, fun x hx => ⟨fun j a b => ?_, fun g j a b c => ?_, fun j a => ?_, fun j a => ?_⟩, fun k hk => ?_, fun g x j hx h6 => ?_, fun g h4 h6 h18 => ?_⟩
  · rw [t2 4 (by decide), ta_c (by decide)]
    have : x = 0 ∨ x = 1 := by omega
    rcases this with e | e <;> subst e
    · rw [if_neg (fun z => absurd z.1 (by decide)), ta_c (by decide), if_pos ⟨rfl, Or.inl ⟨rfl, a, b⟩⟩]
    · rw [if_pos ⟨rfl, Or.inl ⟨rfl, a, b⟩⟩, ta_c (by decide), if_pos ⟨rfl, Or.inl ⟨rfl, a, b⟩⟩]
  · rw [t2 g (by omega), ta_c (by omega)]
    have : x = 0 ∨ x = 1 := by omega
    rcases this with e | e <;> subst e
    · rw [if_neg (fun z => absurd z.1 (by decide)), ta_c (by omega), if_pos ⟨rfl, Or.inr (Or.inl ⟨a, b, c⟩)⟩]
    · rw [if_pos ⟨rfl, Or.inr (Or.inl ⟨a, b, c⟩)⟩, ta_c (by omega), if_pos ⟨rfl, Or.inr (Or.inl ⟨a, b, c⟩)⟩]
  · rw [t2 23 (by decide), ta_c (by decide)]
    have : x = 0 ∨ x = 1 := by omega
    rcases this with e | e <;> subst e
    · rw [if_neg (fun z => absurd z.1 (by decide)), ta_c (by decide), if_pos ⟨rfl, Or.inr (Or.inr ⟨rfl, a⟩)⟩]
    · rw [if_pos ⟨rfl, Or.inr (Or.inr ⟨rfl, a⟩)⟩, ta_c (by decide), if_pos ⟨rfl, Or.inr (Or.inr ⟨rfl, a⟩)⟩]
  · rw [t2 22 (by decide), ta_l]
    have : x = 0 ∨ x = 1 := by omega
    rcases this with e | e <;> subst e
    · rw [if_neg (fun z => absurd z.1 (by decide)), ta_l, if_pos ⟨rfl, a⟩]
    · rw [if_pos ⟨rfl, a⟩, ta_l, if_pos ⟨rfl, a⟩]
  · rw [t3, if_pos (by show (0 : Int) ≤ _ ∧ _; omega)]
  · rw [t2 g h6]
    by_cases h22 : g = 22
    · subst h22
      rw [ta_l, if_neg (fun z => by have := z.1; omega), ta_l, if_neg (fun z => by have := z.1; omega)]
    · rw [ta_c h22, if_neg (fun z => by have := z.1; omega), ta_c h22, if_neg (fun z => by have := z.1; omega)]
  · rw [t2 g h6]
    funext i j
    rw [ta_c (by omega), if_neg (fun z => by have := z.2; omega), ta_c (by omega), if_neg (fun z => by have := z.2; omega)]
end
section
/-- house of a good TEXT: the reference's cells -/
noncomputable def hoM (J' X : jI) (m : Nat) : Prop := (X 31 0 1 = J' 31 0 18 ∧ X 31 0 2 = J' 31 0 19 ∧ X 31 0 3 = J' 31 0 21) ∧ (∀ i, i < m → (X 33 0 i = J' 40 0 (4 * i) ∧ X 34 0 i = J' 40 0 (4 * i + 3)) ∧ X 32 0 (17 + i) = J' 40 0 (4 * i + 1) ∧ X 32 0 (23 + i) = J' 40 0 (4 * i + 2)) ∧ (∀ j, j < 17 → X 32 0 j = 0) ∧ (X 32 0 1149 = -1 ∧ X 32 0 2298 = -1 ∧ X 32 0 3447 = -1) ∧ ∀ g, ¬ g = 31 → ¬ g = 32 → ¬ g = 33 → ¬ g = 34 → X g = J' g
noncomputable def hoN (r2 : jI) : jI := jup (jup (jup r2 31 0 1 (r2 31 0 18)) 31 0 2 ((jup r2 31 0 1 (r2 31 0 18)) 31 0 19)) 31 0 3 ((jup (jup r2 31 0 1 (r2 31 0 18)) 31 0 2 ((jup r2 31 0 1 (r2 31 0 18)) 31 0 19)) 31 0 21)
theorem hoM_of {J' : jI} {m : Nat} (hm : m ≤ 6) (hj : (J' 31 0 21).toInt = (m : Int)) : ∃ X, ((d150_39 1200 0 J').bind fun r2 => (d150_85 1200 0 (hoN r2)).bind fun r3 => d150_169 1200 1 r3) = some X ∧ hoM J' X m := by
  obtain ⟨U, u1, u2, u3⟩ := z39_m 1200 0 J' (by decide) (by decide) (by decide)
  have z0 : (0 : Int32).toInt = 0 := rfl
  have z1 : (1 : Int32).toInt = 1 := rfl
  rw [z0] at u3
  have u31 : U 31 = J' 31 := u2 31 (by decide)
  have s1 : hoN U 31 0 1 = J' 31 0 18 := by rw [← u31]; rfl
  have s2 : hoN U 31 0 2 = J' 31 0 19 := by rw [← u31]; rfl
  have s3 : hoN U 31 0 3 = J' 31 0 21 := by rw [← u31]; rfl
  have sg : ∀ g, ¬ g = 31 → hoN U g = U g := fun g hg => ((jup_g hg).trans (jup_g hg)).trans (jup_g hg)
  obtain ⟨V, v1, v2, v3, v4, v5, v6⟩ := h85_m hm 1200 0 (hoN U) (by rw [s3]; exact hj) (by decide) (by rw [z0]; omega) (by rw [z0]; show (m : Int) - 0 < 1200; omega)
  rw [z0] at v3 v4 v5 v6
  obtain ⟨X, x1, x2, x3⟩ := h169_m 1200 1 V (by decide) (by decide) (by decide)
  rw [z1] at x3
  have v31 : V 31 = hoN U 31 := v2 31 (by decide) (by decide) (by decide)
  have x31 : X 31 = V 31 := x2 31 (by decide)
  have w40 : hoN U 40 = J' 40 := (sg 40 (by decide)).trans (u2 40 (by decide))
  have lo : ∀ j, j < 1149 → X 32 0 j = V 32 0 j := fun j h => by rw [x3, if_neg (fun z => by omega)]
  refine ⟨X, ?_, ⟨?_, ?_, ?_⟩, fun i hi => ⟨⟨?_, ?_⟩, ?_, ?_⟩, fun j h => ?_, ⟨?_, ?_, ?_⟩, fun g g1 g2 g3 g4 => ?_⟩
  · rw [u1]; dsimp only [Option.bind_some]; rw [v1]; exact x1
  · rw [x31, v31, s1]
  · rw [x31, v31, s2]
  · rw [x31, v31, s3]
  · rw [x2 33 (by decide), v3, if_pos ⟨by omega, hi⟩, w40]
  · rw [x2 34 (by decide), v4, if_pos ⟨by omega, hi⟩, w40]
  · rw [lo _ (by omega), (v5 i hi (by omega)).1, w40]
  · rw [lo _ (by omega), (v5 i hi (by omega)).2, w40]
  · rw [lo j (by omega), v6 j (fun i _ _ => ⟨by omega, by omega⟩), sg 32 (by decide), u3, if_pos (by omega)]
  · rw [x3, if_pos (Or.inl ⟨rfl, by decide⟩)]
  · rw [x3, if_pos (Or.inr (Or.inl ⟨rfl, by decide⟩))]
  · rw [x3, if_pos (Or.inr (Or.inr ⟨rfl, by decide⟩))]
  · rw [x2 g g2, v2 g g2 g3 g4, sg g g1, u2 g g2]
end
