/-! no miracles: what comes to k has an end of which k holds -/
noncomputable def mW (T : jQ → jK → (jX → Prop) → Prop) : Prop := ∀ call : jQ, (∀ m as σ, ¬ call m as σ (fun _ _ => False)) → ¬ T call (fun _ _ => False) (fun _ => False)
theorem m_stuck : mW (fun _ _ _ => False) := fun _ _ h => h
theorem m_go (z : jX) : mW (fun _ _ K => K z) := fun _ _ h => h
theorem m_goS (A : Prop) (z : jX) : mW (fun _ _ K => A ∧ K z) := fun _ _ h => h.2
theorem m_br (c : Prop) (z z' : jX) : mW (fun _ _ K => (c → K z) ∧ (¬ c → K z')) := fun _ _ h => (Classical.em c).elim h.1 h.2
theorem m_brn (c : Prop) (z z' : jX) : mW (fun _ _ K => (¬ c → K z) ∧ (c → K z')) := fun _ _ h => (Classical.em c).elim h.2 h.1
theorem m_ret (v : Option jV) (σ : jS) : mW (fun _ k _ => k v σ) := fun _ _ h => h
theorem m_retS (A : Prop) (v : Option jV) (σ : jS) : mW (fun _ k _ => A ∧ k v σ) := fun _ _ h => h.2
theorem m_call (m : Nat) (as : List jV) (σ : jS) (f : Option jV → jS → jX) : mW (fun call _ K => call m as σ (fun v σ' => K (f v σ'))) := fun _ Hc h => Hc m as σ h
theorem sw_no (x : Int32) (d : Nat) : ∀ l : List (Int32 × Nat), ¬ jsw x (fun _ => False) d l
  | [], h => h
  | c :: t, h => (Classical.em (x = c.1)).elim h.1 (fun q => sw_no x d t (h.2 q))
theorem m_sw (x : Int32) (d : Nat) (l : List (Int32 × Nat)) (f : Nat → jX) : mW (fun _ _ K => jsw x (fun q => K (f q)) d l) := fun _ _ h => sw_no x d l h
set_option maxHeartbeats 4000000 in
theorem jmir (scr : Option (Nat × (Nat → Int32))) (i : Instr) (np rA rB : Nat) (rC : Int32) (rL : Int64) (rS : List (Int32 × Nat)) (ls : List (Option jV)) (st : List jV) (I : Nat → Nat → Nat → Int32) (L : Nat → Nat → Nat → Int64) : mW (fun call k K => jstep call k scr i np rA rB rC rL rS ls st I L K) := by
  cases i
  all_goals first | exact m_stuck | exact m_go _ | skip
  case iload z =>
    dsimp only [jstep]
    generalize jget ls rA = q
    rcases q with _ | ((x | x) | x) <;> first | exact m_stuck | exact m_go _ | exact m_goS _ _ | exact m_br _ _ _ | exact m_brn _ _ _ | exact m_ret _ _ | exact m_retS _ _ _ | exact m_call _ _ _ _ | exact m_sw _ _ _ _
  case iload_n z =>
    dsimp only [jstep]
    generalize jget ls rA = q
    rcases q with _ | ((x | x) | x) <;> first | exact m_stuck | exact m_go _ | exact m_goS _ _ | exact m_br _ _ _ | exact m_brn _ _ _ | exact m_ret _ _ | exact m_retS _ _ _ | exact m_call _ _ _ _ | exact m_sw _ _ _ _
  case lload z =>
    dsimp only [jstep]
    generalize jget ls rA = q
    rcases q with _ | ((x | x) | x) <;> first | exact m_stuck | exact m_go _ | exact m_goS _ _ | exact m_br _ _ _ | exact m_brn _ _ _ | exact m_ret _ _ | exact m_retS _ _ _ | exact m_call _ _ _ _ | exact m_sw _ _ _ _
  case lload_n z =>
    dsimp only [jstep]
    generalize jget ls rA = q
    rcases q with _ | ((x | x) | x) <;> first | exact m_stuck | exact m_go _ | exact m_goS _ _ | exact m_br _ _ _ | exact m_brn _ _ _ | exact m_ret _ _ | exact m_retS _ _ _ | exact m_call _ _ _ _ | exact m_sw _ _ _ _
  case aload z =>
    dsimp only [jstep]
    generalize jget ls rA = q
    rcases q with _ | ((x | x) | x) <;> first | exact m_stuck | exact m_go _ | exact m_goS _ _ | exact m_br _ _ _ | exact m_brn _ _ _ | exact m_ret _ _ | exact m_retS _ _ _ | exact m_call _ _ _ _ | exact m_sw _ _ _ _
  case aload_n z =>
    dsimp only [jstep]
    generalize jget ls rA = q
    rcases q with _ | ((x | x) | x) <;> first | exact m_stuck | exact m_go _ | exact m_goS _ _ | exact m_br _ _ _ | exact m_brn _ _ _ | exact m_ret _ _ | exact m_retS _ _ _ | exact m_call _ _ _ _ | exact m_sw _ _ _ _
  case istore z =>
    dsimp only [jstep]
    generalize Nat.blt rA (jlen ls) = b
    rcases b with _ | _ <;> rcases st with _ | ⟨((x | x) | x), t⟩ <;> first | exact m_stuck | exact m_go _ | exact m_goS _ _ | exact m_br _ _ _ | exact m_brn _ _ _ | exact m_ret _ _ | exact m_retS _ _ _ | exact m_call _ _ _ _ | exact m_sw _ _ _ _
  case istore_n z =>
    dsimp only [jstep]
    generalize Nat.blt rA (jlen ls) = b
    rcases b with _ | _ <;> rcases st with _ | ⟨((x | x) | x), t⟩ <;> first | exact m_stuck | exact m_go _ | exact m_goS _ _ | exact m_br _ _ _ | exact m_brn _ _ _ | exact m_ret _ _ | exact m_retS _ _ _ | exact m_call _ _ _ _ | exact m_sw _ _ _ _
  case astore z =>
    dsimp only [jstep]
    generalize Nat.blt rA (jlen ls) = b
    rcases b with _ | _ <;> rcases st with _ | ⟨((x | x) | x), t⟩ <;> first | exact m_stuck | exact m_go _ | exact m_goS _ _ | exact m_br _ _ _ | exact m_brn _ _ _ | exact m_ret _ _ | exact m_retS _ _ _ | exact m_call _ _ _ _ | exact m_sw _ _ _ _
  case astore_n z =>
    dsimp only [jstep]
    generalize Nat.blt rA (jlen ls) = b
    rcases b with _ | _ <;> rcases st with _ | ⟨((x | x) | x), t⟩ <;> first | exact m_stuck | exact m_go _ | exact m_goS _ _ | exact m_br _ _ _ | exact m_brn _ _ _ | exact m_ret _ _ | exact m_retS _ _ _ | exact m_call _ _ _ _ | exact m_sw _ _ _ _
  case lstore z =>
    dsimp only [jstep]
    generalize Nat.blt (rA + 1) (jlen ls) = b
    rcases b with _ | _ <;> rcases st with _ | ⟨((x | x) | x), t⟩ <;> first | exact m_stuck | exact m_go _ | exact m_goS _ _ | exact m_br _ _ _ | exact m_brn _ _ _ | exact m_ret _ _ | exact m_retS _ _ _ | exact m_call _ _ _ _ | exact m_sw _ _ _ _
  case lstore_n z =>
    dsimp only [jstep]
    generalize Nat.blt (rA + 1) (jlen ls) = b
    rcases b with _ | _ <;> rcases st with _ | ⟨((x | x) | x), t⟩ <;> first | exact m_stuck | exact m_go _ | exact m_goS _ _ | exact m_br _ _ _ | exact m_brn _ _ _ | exact m_ret _ _ | exact m_retS _ _ _ | exact m_call _ _ _ _ | exact m_sw _ _ _ _
  case iinc z w =>
    dsimp only [jstep]
    generalize Nat.blt rA (jlen ls) = b
    generalize jget ls rA = q
    rcases b with _ | _ <;> rcases q with _ | ((x | x) | x) <;> first | exact m_stuck | exact m_go _ | exact m_goS _ _ | exact m_br _ _ _ | exact m_brn _ _ _ | exact m_ret _ _ | exact m_retS _ _ _ | exact m_call _ _ _ _ | exact m_sw _ _ _ _
  case iadd =>
    rcases st with _ | ⟨((y | y) | y), _ | ⟨((x | x) | x), t⟩⟩ <;> first | exact m_stuck | exact m_go _ | exact m_goS _ _ | exact m_br _ _ _ | exact m_brn _ _ _ | exact m_ret _ _ | exact m_retS _ _ _ | exact m_call _ _ _ _ | exact m_sw _ _ _ _
  case isub =>
    rcases st with _ | ⟨((y | y) | y), _ | ⟨((x | x) | x), t⟩⟩ <;> first | exact m_stuck | exact m_go _ | exact m_goS _ _ | exact m_br _ _ _ | exact m_brn _ _ _ | exact m_ret _ _ | exact m_retS _ _ _ | exact m_call _ _ _ _ | exact m_sw _ _ _ _
  case imul =>
    rcases st with _ | ⟨((y | y) | y), _ | ⟨((x | x) | x), t⟩⟩ <;> first | exact m_stuck | exact m_go _ | exact m_goS _ _ | exact m_br _ _ _ | exact m_brn _ _ _ | exact m_ret _ _ | exact m_retS _ _ _ | exact m_call _ _ _ _ | exact m_sw _ _ _ _
  case iand =>
    rcases st with _ | ⟨((y | y) | y), _ | ⟨((x | x) | x), t⟩⟩ <;> first | exact m_stuck | exact m_go _ | exact m_goS _ _ | exact m_br _ _ _ | exact m_brn _ _ _ | exact m_ret _ _ | exact m_retS _ _ _ | exact m_call _ _ _ _ | exact m_sw _ _ _ _
  case ior =>
    rcases st with _ | ⟨((y | y) | y), _ | ⟨((x | x) | x), t⟩⟩ <;> first | exact m_stuck | exact m_go _ | exact m_goS _ _ | exact m_br _ _ _ | exact m_brn _ _ _ | exact m_ret _ _ | exact m_retS _ _ _ | exact m_call _ _ _ _ | exact m_sw _ _ _ _
  case ishl =>
    rcases st with _ | ⟨((y | y) | y), _ | ⟨((x | x) | x), t⟩⟩ <;> first | exact m_stuck | exact m_go _ | exact m_goS _ _ | exact m_br _ _ _ | exact m_brn _ _ _ | exact m_ret _ _ | exact m_retS _ _ _ | exact m_call _ _ _ _ | exact m_sw _ _ _ _
  case ishr =>
    rcases st with _ | ⟨((y | y) | y), _ | ⟨((x | x) | x), t⟩⟩ <;> first | exact m_stuck | exact m_go _ | exact m_goS _ _ | exact m_br _ _ _ | exact m_brn _ _ _ | exact m_ret _ _ | exact m_retS _ _ _ | exact m_call _ _ _ _ | exact m_sw _ _ _ _
  case idiv =>
    rcases st with _ | ⟨((y | y) | y), _ | ⟨((x | x) | x), t⟩⟩ <;> first | exact m_stuck | exact m_go _ | exact m_goS _ _ | exact m_br _ _ _ | exact m_brn _ _ _ | exact m_ret _ _ | exact m_retS _ _ _ | exact m_call _ _ _ _ | exact m_sw _ _ _ _
  case irem =>
    rcases st with _ | ⟨((y | y) | y), _ | ⟨((x | x) | x), t⟩⟩ <;> first | exact m_stuck | exact m_go _ | exact m_goS _ _ | exact m_br _ _ _ | exact m_brn _ _ _ | exact m_ret _ _ | exact m_retS _ _ _ | exact m_call _ _ _ _ | exact m_sw _ _ _ _
  case ladd =>
    rcases st with _ | ⟨((y | y) | y), _ | ⟨((x | x) | x), t⟩⟩ <;> first | exact m_stuck | exact m_go _ | exact m_goS _ _ | exact m_br _ _ _ | exact m_brn _ _ _ | exact m_ret _ _ | exact m_retS _ _ _ | exact m_call _ _ _ _ | exact m_sw _ _ _ _
  case lmul =>
    rcases st with _ | ⟨((y | y) | y), _ | ⟨((x | x) | x), t⟩⟩ <;> first | exact m_stuck | exact m_go _ | exact m_goS _ _ | exact m_br _ _ _ | exact m_brn _ _ _ | exact m_ret _ _ | exact m_retS _ _ _ | exact m_call _ _ _ _ | exact m_sw _ _ _ _
  case ldiv =>
    rcases st with _ | ⟨((y | y) | y), _ | ⟨((x | x) | x), t⟩⟩ <;> first | exact m_stuck | exact m_go _ | exact m_goS _ _ | exact m_br _ _ _ | exact m_brn _ _ _ | exact m_ret _ _ | exact m_retS _ _ _ | exact m_call _ _ _ _ | exact m_sw _ _ _ _
  case lrem =>
    rcases st with _ | ⟨((y | y) | y), _ | ⟨((x | x) | x), t⟩⟩ <;> first | exact m_stuck | exact m_go _ | exact m_goS _ _ | exact m_br _ _ _ | exact m_brn _ _ _ | exact m_ret _ _ | exact m_retS _ _ _ | exact m_call _ _ _ _ | exact m_sw _ _ _ _
  case lcmp =>
    rcases st with _ | ⟨((y | y) | y), _ | ⟨((x | x) | x), t⟩⟩ <;> first | exact m_stuck | exact m_go _ | exact m_goS _ _ | exact m_br _ _ _ | exact m_brn _ _ _ | exact m_ret _ _ | exact m_retS _ _ _ | exact m_call _ _ _ _ | exact m_sw _ _ _ _
  case dup2 =>
    rcases st with _ | ⟨((y | y) | y), _ | ⟨((x | x) | x), t⟩⟩ <;> first | exact m_stuck | exact m_go _ | exact m_goS _ _ | exact m_br _ _ _ | exact m_brn _ _ _ | exact m_ret _ _ | exact m_retS _ _ _ | exact m_call _ _ _ _ | exact m_sw _ _ _ _
  case i2l =>
    rcases st with _ | ⟨((x | x) | x), t⟩ <;> first | exact m_stuck | exact m_go _ | exact m_goS _ _ | exact m_br _ _ _ | exact m_brn _ _ _ | exact m_ret _ _ | exact m_retS _ _ _ | exact m_call _ _ _ _ | exact m_sw _ _ _ _
  case l2i =>
    rcases st with _ | ⟨((x | x) | x), t⟩ <;> first | exact m_stuck | exact m_go _ | exact m_goS _ _ | exact m_br _ _ _ | exact m_brn _ _ _ | exact m_ret _ _ | exact m_retS _ _ _ | exact m_call _ _ _ _ | exact m_sw _ _ _ _
  case i2b =>
    rcases st with _ | ⟨((x | x) | x), t⟩ <;> first | exact m_stuck | exact m_go _ | exact m_goS _ _ | exact m_br _ _ _ | exact m_brn _ _ _ | exact m_ret _ _ | exact m_retS _ _ _ | exact m_call _ _ _ _ | exact m_sw _ _ _ _
  case dup =>
    rcases st with _ | ⟨((x | x) | x), t⟩ <;> first | exact m_stuck | exact m_go _ | exact m_goS _ _ | exact m_br _ _ _ | exact m_brn _ _ _ | exact m_ret _ _ | exact m_retS _ _ _ | exact m_call _ _ _ _ | exact m_sw _ _ _ _
  case pop =>
    rcases st with _ | ⟨((x | x) | x), t⟩ <;> first | exact m_stuck | exact m_go _ | exact m_goS _ _ | exact m_br _ _ _ | exact m_brn _ _ _ | exact m_ret _ _ | exact m_retS _ _ _ | exact m_call _ _ _ _ | exact m_sw _ _ _ _
  case pop2 =>
    rcases st with _ | ⟨((x | x) | x), t⟩ <;> first | exact m_stuck | exact m_go _ | exact m_goS _ _ | exact m_br _ _ _ | exact m_brn _ _ _ | exact m_ret _ _ | exact m_retS _ _ _ | exact m_call _ _ _ _ | exact m_sw _ _ _ _
  case ifCond c z =>
    cases c <;> rcases st with _ | ⟨((x | x) | x), t⟩ <;> first | exact m_stuck | exact m_go _ | exact m_goS _ _ | exact m_br _ _ _ | exact m_brn _ _ _ | exact m_ret _ _ | exact m_retS _ _ _ | exact m_call _ _ _ _ | exact m_sw _ _ _ _
  case if_icmp c z =>
    cases c <;> rcases st with _ | ⟨((y | y) | y), _ | ⟨((x | x) | x), t⟩⟩ <;> first | exact m_stuck | exact m_go _ | exact m_goS _ _ | exact m_br _ _ _ | exact m_brn _ _ _ | exact m_ret _ _ | exact m_retS _ _ _ | exact m_call _ _ _ _ | exact m_sw _ _ _ _
  case tableswitch a b c e =>
    rcases st with _ | ⟨((x | x) | x), t⟩ <;> first | exact m_stuck | exact m_go _ | exact m_goS _ _ | exact m_br _ _ _ | exact m_brn _ _ _ | exact m_ret _ _ | exact m_retS _ _ _ | exact m_call _ _ _ _ | exact m_sw _ _ _ _
  case lookupswitch a b =>
    rcases st with _ | ⟨((x | x) | x), t⟩ <;> first | exact m_stuck | exact m_go _ | exact m_goS _ _ | exact m_br _ _ _ | exact m_brn _ _ _ | exact m_ret _ _ | exact m_retS _ _ _ | exact m_call _ _ _ _ | exact m_sw _ _ _ _
  case getfield z =>
    rcases st with _ | ⟨((x | x) | ⟨g, n⟩), t⟩
    · exact m_stuck
    · exact m_stuck
    · exact m_stuck
    · dsimp only [jstep]
      generalize (jSh g).2 = sh
      rcases sh with ⟨ci, fs⟩ | sh
      · dsimp only
        generalize Nat.beq ci rB = b
        generalize fs[rA]? = o
        rcases b with _ | _ <;> rcases o with _ | (f | (_ | _ | z)) <;> first | exact m_stuck | exact m_go _ | exact m_goS _ _ | exact m_br _ _ _ | exact m_brn _ _ _ | exact m_ret _ _ | exact m_retS _ _ _ | exact m_call _ _ _ _ | exact m_sw _ _ _ _
      · exact m_stuck
  case putfield z =>
    rcases st with _ | ⟨((x | x) | ⟨g, n⟩), _ | ⟨((y | y) | ⟨g, n⟩), t⟩⟩
    all_goals first | exact m_stuck | skip
    · dsimp only [jstep]
      generalize (jSh g).2 = sh
      rcases sh with ⟨ci, fs⟩ | sh
      · dsimp only
        generalize Nat.beq ci rB = b
        generalize fs[rA]? = o
        rcases b with _ | _ <;> rcases o with _ | (f | (_ | _ | _ | z)) <;> first | exact m_stuck | exact m_go _ | exact m_goS _ _ | exact m_br _ _ _ | exact m_brn _ _ _ | exact m_ret _ _ | exact m_retS _ _ _ | exact m_call _ _ _ _ | exact m_sw _ _ _ _
      · exact m_stuck
    · dsimp only [jstep]
      generalize (jSh g).2 = sh
      rcases sh with ⟨ci, fs⟩ | sh
      · dsimp only
        generalize Nat.beq ci rB = b
        generalize fs[rA]? = o
        rcases b with _ | _ <;> rcases o with _ | (f | (_ | _ | _ | z)) <;> first | exact m_stuck | exact m_go _ | exact m_goS _ _ | exact m_br _ _ _ | exact m_brn _ _ _ | exact m_ret _ _ | exact m_retS _ _ _ | exact m_call _ _ _ _ | exact m_sw _ _ _ _
      · exact m_stuck
  case iaload =>
    rcases st with _ | ⟨((j | x) | ⟨g, n⟩), _ | ⟨((y | y) | ⟨g, n⟩), t⟩⟩
    all_goals first | exact m_stuck | skip
    dsimp only [jstep]
    generalize jro scr g = q
    generalize (jSh g).2 = sh
    rcases q with _ | q
    · rcases sh with sh | ⟨a, N, (f | (_ | z))⟩ <;> first | exact m_stuck | exact m_go _ | exact m_goS _ _ | exact m_br _ _ _ | exact m_brn _ _ _ | exact m_ret _ _ | exact m_retS _ _ _ | exact m_call _ _ _ _ | exact m_sw _ _ _ _
    · exact m_goS _ _
  case baload =>
    rcases st with _ | ⟨((j | x) | ⟨g, n⟩), _ | ⟨((y | y) | ⟨g, n⟩), t⟩⟩
    all_goals first | exact m_stuck | skip
    dsimp only [jstep]
    generalize (jSh g).2 = sh
    rcases sh with sh | ⟨a, N, (f | (_ | _ | _ | z))⟩ <;> first | exact m_stuck | exact m_go _ | exact m_goS _ _ | exact m_br _ _ _ | exact m_brn _ _ _ | exact m_ret _ _ | exact m_retS _ _ _ | exact m_call _ _ _ _ | exact m_sw _ _ _ _
  case laload =>
    rcases st with _ | ⟨((j | x) | ⟨g, n⟩), _ | ⟨((y | y) | ⟨g, n⟩), t⟩⟩
    all_goals first | exact m_stuck | skip
    dsimp only [jstep]
    generalize (jSh g).2 = sh
    rcases sh with sh | ⟨a, N, (f | (_ | _ | z))⟩ <;> first | exact m_stuck | exact m_go _ | exact m_goS _ _ | exact m_br _ _ _ | exact m_brn _ _ _ | exact m_ret _ _ | exact m_retS _ _ _ | exact m_call _ _ _ _ | exact m_sw _ _ _ _
  case aaload =>
    rcases st with _ | ⟨((j | x) | ⟨g, n⟩), _ | ⟨((y | y) | ⟨g, n⟩), t⟩⟩
    all_goals first | exact m_stuck | skip
    dsimp only [jstep]
    generalize (jSh g).2 = sh
    rcases sh with sh | ⟨a, N, (f | z)⟩ <;> first | exact m_stuck | exact m_go _ | exact m_goS _ _ | exact m_br _ _ _ | exact m_brn _ _ _ | exact m_ret _ _ | exact m_retS _ _ _ | exact m_call _ _ _ _ | exact m_sw _ _ _ _
  case iastore =>
    rcases st with _ | ⟨((x | x) | x), _ | ⟨((j | j) | j), _ | ⟨((y | y) | ⟨g, n⟩), t⟩⟩⟩
    all_goals first | exact m_stuck | skip
    dsimp only [jstep]
    generalize (jSh g).2 = sh
    rcases sh with sh | ⟨a, N, (f | (_ | z))⟩ <;> first | exact m_stuck | exact m_go _ | exact m_goS _ _ | exact m_br _ _ _ | exact m_brn _ _ _ | exact m_ret _ _ | exact m_retS _ _ _ | exact m_call _ _ _ _ | exact m_sw _ _ _ _
  case bastore =>
    rcases st with _ | ⟨((x | x) | x), _ | ⟨((j | j) | j), _ | ⟨((y | y) | ⟨g, n⟩), t⟩⟩⟩
    all_goals first | exact m_stuck | skip
    dsimp only [jstep]
    generalize (jSh g).2 = sh
    rcases sh with sh | ⟨a, N, (f | (_ | _ | _ | z))⟩ <;> first | exact m_stuck | exact m_go _ | exact m_goS _ _ | exact m_br _ _ _ | exact m_brn _ _ _ | exact m_ret _ _ | exact m_retS _ _ _ | exact m_call _ _ _ _ | exact m_sw _ _ _ _
  case lastore =>
    rcases st with _ | ⟨((x | x) | x), _ | ⟨((j | j) | j), _ | ⟨((y | y) | ⟨g, n⟩), t⟩⟩⟩
    all_goals first | exact m_stuck | skip
    dsimp only [jstep]
    generalize (jSh g).2 = sh
    rcases sh with sh | ⟨a, N, (f | (_ | _ | z))⟩ <;> first | exact m_stuck | exact m_go _ | exact m_goS _ _ | exact m_br _ _ _ | exact m_brn _ _ _ | exact m_ret _ _ | exact m_retS _ _ _ | exact m_call _ _ _ _ | exact m_sw _ _ _ _
  case arraylength =>
    rcases st with _ | ⟨((x | x) | ⟨g, n⟩), t⟩
    all_goals first | exact m_stuck | skip
    dsimp only [jstep]
    generalize jro scr g = q
    generalize (jSh g).2 = sh
    rcases q with _ | q
    · rcases sh with sh | ⟨a, N, f⟩ <;> first | exact m_stuck | exact m_go _ | exact m_goS _ _ | exact m_br _ _ _ | exact m_brn _ _ _ | exact m_ret _ _ | exact m_retS _ _ _ | exact m_call _ _ _ _ | exact m_sw _ _ _ _
    · exact m_go _
  case invokevirtual z =>
    dsimp only [jstep]
    generalize jtake rB st [] = q
    rcases q with _ | ⟨(_ | ⟨((x | x) | q), as⟩), t⟩
    all_goals first | exact m_stuck | skip
    dsimp only
    generalize jcls q.1 rS = b
    generalize Nat.ble (jcat t) 8 = c
    rcases b with _ | _ <;> rcases c with _ | _ <;> first | exact m_stuck | exact m_go _ | exact m_goS _ _ | exact m_br _ _ _ | exact m_brn _ _ _ | exact m_ret _ _ | exact m_retS _ _ _ | exact m_call _ _ _ _ | exact m_sw _ _ _ _
  case invokestatic z =>
    dsimp only [jstep]
    generalize Nat.beq rA 999 = b9
    rcases b9 with _ | _
    · dsimp only
      generalize Nat.beq rA 998 = b8
      rcases b8 with _ | _
      · dsimp only
        generalize Nat.beq rA 997 = b7
        rcases b7 with _ | _
        · dsimp only
          generalize jtake rB st [] = q
          rcases q with _ | ⟨as, t⟩
          · exact m_stuck
          · dsimp only
            generalize Nat.ble (jcat t) 8 = c
            rcases c with _ | _ <;> first | exact m_stuck | exact m_go _ | exact m_goS _ _ | exact m_br _ _ _ | exact m_brn _ _ _ | exact m_ret _ _ | exact m_retS _ _ _ | exact m_call _ _ _ _ | exact m_sw _ _ _ _
        · rcases st with _ | ⟨((y | y) | y), _ | ⟨((x | x) | x), t⟩⟩
          all_goals first | exact m_stuck | skip
          dsimp only
          generalize Nat.ble (jcat t) 8 = c
          rcases c with _ | _ <;> first | exact m_stuck | exact m_go _ | exact m_goS _ _ | exact m_br _ _ _ | exact m_brn _ _ _ | exact m_ret _ _ | exact m_retS _ _ _ | exact m_call _ _ _ _ | exact m_sw _ _ _ _
      · rcases st with _ | ⟨((y | y) | y), _ | ⟨((x | x) | x), t⟩⟩
        all_goals first | exact m_stuck | skip
        dsimp only
        generalize Nat.ble (jcat t) 8 = c
        rcases c with _ | _ <;> first | exact m_stuck | exact m_go _ | exact m_goS _ _ | exact m_br _ _ _ | exact m_brn _ _ _ | exact m_ret _ _ | exact m_retS _ _ _ | exact m_call _ _ _ _ | exact m_sw _ _ _ _
    · rcases st with _ | ⟨((a | a) | a), _ | ⟨((b | b) | b), _ | ⟨((c | c) | ⟨g', n'⟩), _ | ⟨((e | e) | e), _ | ⟨((h | h) | ⟨g, m⟩), t⟩⟩⟩⟩⟩
      all_goals first | exact m_stuck | skip
      dsimp only
      generalize (jSh g).2 = sh
      generalize (jSh g').2 = sh'
      generalize Nat.ble (jcat t) 8 = c
      rcases sh with sh | ⟨u, N, (f | (_ | z))⟩ <;> rcases sh' with sh' | ⟨u', N', (f' | (_ | z'))⟩ <;> rcases c with _ | _ <;> first | exact m_stuck | exact m_go _ | exact m_goS _ _ | exact m_br _ _ _ | exact m_brn _ _ _ | exact m_ret _ _ | exact m_retS _ _ _ | exact m_call _ _ _ _ | exact m_sw _ _ _ _
  case ireturn =>
    rcases st with _ | ⟨((x | x) | x), _ | ⟨y, t⟩⟩
    all_goals first | exact m_stuck | skip
    rcases rA with _ | rA <;> first | exact m_stuck | exact m_go _ | exact m_goS _ _ | exact m_br _ _ _ | exact m_brn _ _ _ | exact m_ret _ _ | exact m_retS _ _ _ | exact m_call _ _ _ _ | exact m_sw _ _ _ _
  case lreturn =>
    rcases st with _ | ⟨((x | x) | x), _ | ⟨y, t⟩⟩ <;> first | exact m_stuck | exact m_go _ | exact m_goS _ _ | exact m_br _ _ _ | exact m_brn _ _ _ | exact m_ret _ _ | exact m_retS _ _ _ | exact m_call _ _ _ _ | exact m_sw _ _ _ _
  case return_ =>
    rcases st with _ | ⟨y, t⟩ <;> first | exact m_stuck | exact m_go _ | exact m_goS _ _ | exact m_br _ _ _ | exact m_brn _ _ _ | exact m_ret _ _ | exact m_retS _ _ _ | exact m_call _ _ _ _ | exact m_sw _ _ _ _
theorem st_no {call : jQ} {scr : Option (Nat × (Nat → Int32))} {code : List jN} {x : jX} (Hc : ∀ m as σ, ¬ call m as σ (fun _ _ => False)) : ¬ jst call (fun _ _ => False) scr code x (fun _ => False) := by
  obtain ⟨pc, ls, st, I, L⟩ := x
  dsimp only [jst]
  generalize jat code pc = q
  rcases q with _ | ⟨i, a, np, rA, rB, rC, rL, rS⟩
  · exact fun h => h
  · exact jmir scr i np rA rB rC rL rS ls st I L call Hc
theorem jWPM_no : ∀ (d m : Nat) (as : List jV) (σ : jS), ¬ jWPM d m as σ (fun _ _ => False)
  | 0, _, _, _, h => h
  | d + 1, m, as, σ, h => by
    unfold jWPM at h
    split at h
    · exact h (fun _ => False) (fun y K hy hK => st_no (jWPM_no d) (st_mono (jWPM_mono d) (fun _ _ q => q) hK hy))
    · exact h
/-- what a contract says holds of what the partial machine comes to -/
theorem use_tr {m : Nat} {c : aK} (h : aKP aGI m c) {as : List jV} {I I' : jI} {L L' : jL} {v : Option jV} (has : aAs c.1 as) (hG : gG aGI I) (hp : ∀ (d : Nat) (k : jK), k v (I', L') → jPM d m as (I, L) k) : gG aGI I' ∧ gR c.2.2.1 I L I' L' ∧ aRv c.2.1 v := by
  have t := jWPM_comb c.2.2.2 m as (I, L) (fun v σ => gG aGI σ.1 ∧ gR c.2.2.1 I L σ.1 σ.2 ∧ aRv c.2.1 v) (fun w σ => w = v ∧ σ = (I', L')) (h c.2.2.2 (Nat.le_refl _) as I L has hG _ (fun v I' L' a b c => ⟨a, b, c⟩)) (hp _ _ ⟨rfl, rfl⟩)
  refine Classical.byContradiction (fun n => jWPM_no _ _ _ _ (jWPM_mono _ _ _ _ _ _ (fun w σ q => n ?_) t))
  obtain ⟨q1, q2, q3⟩ := q
  subst q2
  subst q3
  exact q1
