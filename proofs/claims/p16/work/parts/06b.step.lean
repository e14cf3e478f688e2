section JT
variable {p : Program} {l : Launch} {e : Env} {R : Room} {s : State} {m : MethodId} {args : Array Value} {below : List Frame} {meth : Method} {c : Code} {cells slots : Nat} {Q : State → Prop}
variable {cc : ByteArray} {dC : Nat → ClassId} {dI : Nat → Nat → Nat} {cy : Nat → ClassId} {ρ : Nat → Nat → Nat} {A : Nat → Prop} {on nL d rz : Nat} {scr : Option (Nat × (Nat → Int32))} {k : jK}
/-- the great machine, wherever it stands as the small one at x, comes to Q -/
noncomputable def jW (p : Program) (l : Launch) (e : Env) (R : Room) (s : State) (m : MethodId) (args : Array Value) (below : List Frame) (meth : Method) (c : Code) (cells slots : Nat) (Q : State → Prop) (dC : Nat → ClassId) (dI : Nat → Nat → Nat) (cy : Nat → ClassId) (ρ : Nat → Nat → Nat) (A : Nat → Prop) (nL : Nat) (x : jX) : Prop :=
  ∀ (H : Heap) (locs : List Loc) (ls : Array Slot), jloc ρ nL ls x.2.1 → (∀ i v, jget x.2.1 i = some v → jok v) → (∀ v ∈ x.2.2.1, jok v) → jWd dC dI cy ρ A s.heap H locs x.2.2.2 → W p l e R s m args below meth c H locs cells slots Q (F0 m x.1 ls (x.2.2.1.map (jcv ρ)))
noncomputable def jRet (p : Program) (l : Launch) (e : Env) (R : Room) (s : State) (m : MethodId) (args : Array Value) (below : List Frame) (meth : Method) (c : Code) (cells slots : Nat) (Q : State → Prop) (dC : Nat → ClassId) (dI : Nat → Nat → Nat) (cy : Nat → ClassId) (ρ : Nat → Nat → Nat) (A : Nat → Prop) (cc : ByteArray) (rz : Nat) (k : jK) : Prop :=
  ∀ (H : Heap) (locs : List Loc) (ls : Array Slot) (pc : Nat) (σ : jS), jWd dC dI cy ρ A s.heap H locs σ →
    (∀ x : Int32, (rz = 0 ∨ (rz = 1 ∧ (x = 0 ∨ x = 1))) → decode cc pc = .ok (.ireturn, 1) → k (some (.inl (.inl x))) σ → W p l e R s m args below meth c H locs cells slots Q (F0 m pc ls [.int x])) ∧
    (∀ x : Int64, rz = 2 → decode cc pc = .ok (.lreturn, 1) → k (some (.inl (.inr x))) σ → W p l e R s m args below meth c H locs cells slots Q (F0 m pc ls [.long x])) ∧
    (rz = 3 → decode cc pc = .ok (.return_, 1) → k none σ → W p l e R s m args below meth c H locs cells slots Q (F0 m pc ls []))
theorem jget_set1 {jl : List (Option jV)} {j : Nat} {v : jV} (h : ∀ i w, jget jl i = some w → jok w) (hv : jok v) : ∀ i w, jget (jset1 jl j v) i = some w → jok w := by
  intro i w hw
  rcases jput_get _ _ _ _ _ hw with ⟨h1, h2⟩ | ⟨h1, h2⟩
  · cases h2; exact hv
  · exact h i w (jkill_get _ _ _ _ h2).1
theorem jget_set2 {jl : List (Option jV)} {j : Nat} {v : jV} (h : ∀ i w, jget jl i = some w → jok w) (hv : jok v) : ∀ i w, jget (jset2 jl j v) i = some w → jok w := by
  intro i w hw
  rcases jput_get _ _ _ _ _ hw with ⟨h1, h2⟩ | ⟨h0, hw⟩
  · cases h2
  rcases jput_get _ _ _ _ _ hw with ⟨h1, h2⟩ | ⟨h1, h2⟩
  · cases h2; exact hv
  · exact h i w (jkill_get _ _ _ _ h2).1
theorem jsw_tab {x : Int32} {K : Nat → Prop} {dd pc : Nat} : ∀ (offs : List Int) (lo : Int), -2147483648 ≤ lo → lo + offs.length ≤ 2147483648 → jsw x K dd (jtab pc lo offs) → (∀ (j : Nat) (o : Int), offs[j]? = some o → x.toInt = lo + j → K ((pc : Int) + o).toNat) ∧ ((x.toInt < lo ∨ lo + offs.length ≤ x.toInt) → K dd)
  | [], lo, _, _, h => ⟨fun j o hj => by simp at hj, fun _ => h⟩
  | o :: t, lo, h1, h2, h => by
    obtain ⟨ha, hb⟩ := h
    have hlo : (Int32.ofInt lo).toInt = lo := by
      rw [Int32.toInt_ofInt]
      simp only [List.length_cons] at h2
      exact Int.bmod_eq_of_le (by simp; omega) (by simp; omega)
    by_cases hx : x = Int32.ofInt lo
    · have hxi : x.toInt = lo := by rw [hx, hlo]
      refine ⟨fun j o' hj hj2 => ?_, fun hh => ?_⟩
      · have : j = 0 := by omega
        subst this
        simp at hj
        subst hj
        exact ha hx
      · simp only [List.length_cons] at hh
        omega
    · have hxi : x.toInt ≠ lo := fun e => hx (Int32.toInt_inj.mp (by rw [hlo]; exact e))
      have ih := jsw_tab t (lo + 1) (by omega) (by simp only [List.length_cons] at h2; omega) (hb hx)
      refine ⟨fun j o' hj hj2 => ?_, fun hh => ih.2 ?_⟩
      · rcases j with _ | j
        · exact absurd (by simpa using hj2) hxi
        · exact ih.1 j o' (by simpa using hj) (by rw [hj2]; push_cast; omega)
      · simp only [List.length_cons] at hh
        omega
theorem jsw_ltab {x : Int32} {K : Nat → Prop} {dd pc : Nat} {df : Int} (hd : (pc : Int) + df = (dd : Int)) : ∀ (ps : List (Int × Int)), (∀ q ∈ ps, 0 ≤ (pc : Int) + q.2 ∧ -2147483648 ≤ q.1 ∧ q.1 < 2147483648) → jsw x K dd (jltab pc ps) → ∃ tgt : Nat, (pc : Int) + Op.lookupswitch.offset ps df x.toInt = (tgt : Int) ∧ K tgt
  | [], _, h => ⟨dd, hd, h⟩
  | (a, o) :: t, hq, h => by
    obtain ⟨ha, hb⟩ := h
    obtain ⟨h0, h1, h2⟩ := hq (a, o) List.mem_cons_self
    have hlo : (Int32.ofInt a).toInt = a := by
      rw [Int32.toInt_ofInt]
      exact Int.bmod_eq_of_le (by simp; simp only at h1; omega) (by simp; simp only at h2; omega)
    rw [Op.lookupswitch.offset_cons]
    by_cases hx : x = Int32.ofInt a
    · rw [if_pos (by rw [hx, hlo])]
      exact ⟨((pc : Int) + o).toNat, by simp only at h0; omega, ha hx⟩
    · rw [if_neg (fun e => hx (Int32.toInt_inj.mp (by rw [hlo]; exact e.symm)))]
      exact jsw_ltab hd t (fun q hh => hq q (List.mem_cons_of_mem _ hh)) (hb hx)
theorem jnar1 {x : Int32} (h : x = 0 ∨ x = 1) : narrow .boolean (.int x) = .int x ∧ fits .boolean (.int x) = true := by
  rcases h with rfl | rfl <;> exact ⟨rfl, rfl⟩
theorem jopt_map (ρ : Nat → Nat → Nat) (v : Option jV) (t : List jV) : jres ρ v ++ t.map (jcv ρ) = (jopt v t).map (jcv ρ) := by
  cases v <;> rfl
theorem jopt_ok {v : Option jV} {t : List jV} (h : ∀ x, v = some x → jok x) (ht : ∀ x ∈ t, jok x) : ∀ x ∈ jopt v t, jok x := by
  cases v with
  | none => exact ht
  | some y => exact List.forall_mem_cons.mpr ⟨h y rfl, ht⟩
set_option maxHeartbeats 4000000 in
set_option maxRecDepth 100000 in
theorem jsound_step (CX : jCx p s m args c dC dI cy ρ A on cc nL scr) (hR : d + 1 ≤ R.frames ∧ 60 * (d + 1) ≤ R.locals ∧ cells ≤ R.cells ∧ slots ≤ R.slots) (IH : jMet l d) (hret : jRet p l e R s m args below meth c cells slots Q dC dI cy ρ A cc rz k) {i : Instr} {len np rA rB : Nat} {rC : Int32} {rL : Int64} {rS : List (Int32 × Nat)} {pc : Nat} {jl : List (Option jV)} {st : List jV} {I : Nat → Nat → Nat → Int32} {L : Nat → Nat → Nat → Int64} {K : jX → Prop} (hchk : jchk on rz cc (pc, i, len, np, rA, rB, rC, rL, rS) = true) (h : jstep (jWPM d) k scr i np rA rB rC rL rS jl st I L K) (hK : ∀ z, K z → jW p l e R s m args below meth c cells slots Q dC dI cy ρ A nL z) : jW p l e R s m args below meth c cells slots Q dC dI cy ρ A nL (pc, jl, st, I, L) := by
  intro H locs ls hl hlo hst hw
  obtain ⟨hx, hb, hml, hown, hts, hKK, hA, hN, hZ, hT, hX⟩ := id CX
  dsimp only at hl hlo hst hw ⊢
  have hd : decode cc pc = .ok (i, len) := by
    unfold jchk at hchk
    simp only [Bool.and_eq_true] at hchk
    exact of_decide_eq_true hchk.1.1
  have hnp : pc + len = np := by
    unfold jchk at hchk
    simp only [Bool.and_eq_true] at hchk
    exact Nat.eq_of_beq_eq_true hchk.1.2
  subst hnp
  cases i
  all_goals first | exact False.elim h | skip
  case iconst z =>
    simp only [jchk, Bool.and_eq_true, decide_eq_true_eq] at hchk
    have hln := Nat.eq_of_beq_eq_true hchk.2.1
    subst hln
    exact lv_iconst hx hb hd hchk.2.2 (hK _ h H locs ls hl hlo (List.forall_mem_cons.mpr ⟨trivial, hst⟩) hw)
  case bipush z =>
    simp only [jchk, Bool.and_eq_true, decide_eq_true_eq] at hchk
    have hln := Nat.eq_of_beq_eq_true hchk.2.1
    subst hln
    exact lv_bipush hx hb hd hchk.2.2 (hK _ h H locs ls hl hlo (List.forall_mem_cons.mpr ⟨trivial, hst⟩) hw)
  case sipush z =>
    simp only [jchk, Bool.and_eq_true, decide_eq_true_eq] at hchk
    have hln := Nat.eq_of_beq_eq_true hchk.2.1
    subst hln
    exact lv_sipush hx hb hd hchk.2.2 (hK _ h H locs ls hl hlo (List.forall_mem_cons.mpr ⟨trivial, hst⟩) hw)
  case lconst z =>
    simp only [jchk, Bool.and_eq_true, decide_eq_true_eq] at hchk
    have hln := Nat.eq_of_beq_eq_true hchk.2.1
    subst hln
    exact lv_lconst hx hb hd hchk.2.2 (hK _ h H locs ls hl hlo (List.forall_mem_cons.mpr ⟨trivial, hst⟩) hw)
  case ldc z =>
    simp only [jchk, Bool.and_eq_true, decide_eq_true_eq] at hchk
    have hln := Nat.eq_of_beq_eq_true hchk.2.1
    subst hln
    exact lv_ldc hx hb hown (hts _ (jk1_ok _ hchk.2.2)) hd (hK _ h H locs ls hl hlo (List.forall_mem_cons.mpr ⟨trivial, hst⟩) hw)
  case ldc2_w z =>
    simp only [jchk, Bool.and_eq_true, decide_eq_true_eq] at hchk
    have hln := Nat.eq_of_beq_eq_true hchk.2.1
    subst hln
    exact lv_ldc2 hx hb hown (hts _ (jk2_ok _ hchk.2.2)) hd (hK _ h H locs ls hl hlo (List.forall_mem_cons.mpr ⟨trivial, hst⟩) hw)
  case iload z =>
    simp only [jchk, Bool.and_eq_true, decide_eq_true_eq] at hchk
    have hln := Nat.eq_of_beq_eq_true hchk.2.1
    subst hln
    have hj := Nat.eq_of_beq_eq_true hchk.2.2
    dsimp only [jstep] at h
    split at h
    · rename_i x hg
      subst hj
      exact lv_iload hx hb hd (hl.2.2.2 _ _ hg) (hK _ h H locs ls hl hlo (List.forall_mem_cons.mpr ⟨hlo _ _ hg, hst⟩) hw)
    · exact h.elim
  case iload_n z =>
    simp only [jchk, Bool.and_eq_true, decide_eq_true_eq] at hchk
    have hln := Nat.eq_of_beq_eq_true hchk.2.1
    subst hln
    have hj := Nat.eq_of_beq_eq_true hchk.2.2
    dsimp only [jstep] at h
    split at h
    · rename_i x hg
      exact lv_iload_n hx hb hd hj (hl.2.2.2 _ _ hg) (hK _ h H locs ls hl hlo (List.forall_mem_cons.mpr ⟨hlo _ _ hg, hst⟩) hw)
    · exact h.elim
  case lload z =>
    simp only [jchk, Bool.and_eq_true, decide_eq_true_eq] at hchk
    have hln := Nat.eq_of_beq_eq_true hchk.2.1
    subst hln
    have hj := Nat.eq_of_beq_eq_true hchk.2.2
    dsimp only [jstep] at h
    split at h
    · rename_i x hg
      subst hj
      exact lv_lload hx hb hd (hl.2.2.2 _ _ hg) (hK _ h H locs ls hl hlo (List.forall_mem_cons.mpr ⟨hlo _ _ hg, hst⟩) hw)
    · exact h.elim
  case lload_n z =>
    simp only [jchk, Bool.and_eq_true, decide_eq_true_eq] at hchk
    have hln := Nat.eq_of_beq_eq_true hchk.2.1
    subst hln
    have hj := Nat.eq_of_beq_eq_true hchk.2.2
    dsimp only [jstep] at h
    split at h
    · rename_i x hg
      exact lv_lload_n hx hb hd hj (hl.2.2.2 _ _ hg) (hK _ h H locs ls hl hlo (List.forall_mem_cons.mpr ⟨hlo _ _ hg, hst⟩) hw)
    · exact h.elim
  case aload z =>
    simp only [jchk, Bool.and_eq_true, decide_eq_true_eq] at hchk
    have hln := Nat.eq_of_beq_eq_true hchk.2.1
    subst hln
    have hj := Nat.eq_of_beq_eq_true hchk.2.2
    dsimp only [jstep] at h
    split at h
    · rename_i x hg
      subst hj
      exact lv_aload hx hb hd (hl.2.2.2 _ _ hg) (hK _ h H locs ls hl hlo (List.forall_mem_cons.mpr ⟨hlo _ _ hg, hst⟩) hw)
    · exact h.elim
  case aload_n z =>
    simp only [jchk, Bool.and_eq_true, decide_eq_true_eq] at hchk
    have hln := Nat.eq_of_beq_eq_true hchk.2.1
    subst hln
    have hj := Nat.eq_of_beq_eq_true hchk.2.2
    dsimp only [jstep] at h
    split at h
    · rename_i x hg
      exact lv_aload_n hx hb hd hj (hl.2.2.2 _ _ hg) (hK _ h H locs ls hl hlo (List.forall_mem_cons.mpr ⟨hlo _ _ hg, hst⟩) hw)
    · exact h.elim
  case istore z =>
    simp only [jchk, Bool.and_eq_true, decide_eq_true_eq] at hchk
    have hln := Nat.eq_of_beq_eq_true hchk.2.1
    subst hln
    have hj := Nat.eq_of_beq_eq_true hchk.2.2
    dsimp only [jstep] at h
    split at h
    · rename_i x t hlt
      have hlt2 : rA < nL := by rw [← hl.1]; exact Nat.le_of_ble_eq_true hlt
      subst hj
      exact lv_istore (lv := jlv ρ jl nL) hx hb hd hl.has hlt2 rfl (fun ls2 hl2 => hK _ h H locs ls2 (hl.set1 hl2) (jget_set1 hlo (List.forall_mem_cons.mp hst).1) (List.forall_mem_cons.mp hst).2 hw)
    · exact h.elim
  case istore_n z =>
    simp only [jchk, Bool.and_eq_true, decide_eq_true_eq] at hchk
    have hln := Nat.eq_of_beq_eq_true hchk.2.1
    subst hln
    have hj := Nat.eq_of_beq_eq_true hchk.2.2
    dsimp only [jstep] at h
    split at h
    · rename_i x t hlt
      have hlt2 : rA < nL := by rw [← hl.1]; exact Nat.le_of_ble_eq_true hlt
      exact lv_istore_n (lv := jlv ρ jl nL) hx hb hd hj hl.has hlt2 rfl (fun ls2 hl2 => hK _ h H locs ls2 (hl.set1 hl2) (jget_set1 hlo (List.forall_mem_cons.mp hst).1) (List.forall_mem_cons.mp hst).2 hw)
    · exact h.elim
  case astore z =>
    simp only [jchk, Bool.and_eq_true, decide_eq_true_eq] at hchk
    have hln := Nat.eq_of_beq_eq_true hchk.2.1
    subst hln
    have hj := Nat.eq_of_beq_eq_true hchk.2.2
    dsimp only [jstep] at h
    split at h
    · rename_i x t hlt
      have hlt2 : rA < nL := by rw [← hl.1]; exact Nat.le_of_ble_eq_true hlt
      subst hj
      exact lv_astore (lv := jlv ρ jl nL) hx hb hd hl.has hlt2 rfl (fun ls2 hl2 => hK _ h H locs ls2 (hl.set1 hl2) (jget_set1 hlo (List.forall_mem_cons.mp hst).1) (List.forall_mem_cons.mp hst).2 hw)
    · exact h.elim
  case astore_n z =>
    simp only [jchk, Bool.and_eq_true, decide_eq_true_eq] at hchk
    have hln := Nat.eq_of_beq_eq_true hchk.2.1
    subst hln
    have hj := Nat.eq_of_beq_eq_true hchk.2.2
    dsimp only [jstep] at h
    split at h
    · rename_i x t hlt
      have hlt2 : rA < nL := by rw [← hl.1]; exact Nat.le_of_ble_eq_true hlt
      exact lv_astore_n (lv := jlv ρ jl nL) hx hb hd hj hl.has hlt2 rfl (fun ls2 hl2 => hK _ h H locs ls2 (hl.set1 hl2) (jget_set1 hlo (List.forall_mem_cons.mp hst).1) (List.forall_mem_cons.mp hst).2 hw)
    · exact h.elim
  case lstore z =>
    simp only [jchk, Bool.and_eq_true, decide_eq_true_eq] at hchk
    have hln := Nat.eq_of_beq_eq_true hchk.2.1
    subst hln
    have hj := Nat.eq_of_beq_eq_true hchk.2.2
    dsimp only [jstep] at h
    split at h
    · rename_i x t hlt
      have hlt2 : rA + 1 < nL := by rw [← hl.1]; exact Nat.le_of_ble_eq_true hlt
      subst hj
      exact lv_lstore (lv := jlv ρ jl nL) hx hb hd hl.has hlt2 rfl (fun ls2 hl2 => hK _ h H locs ls2 (hl.set2 hl2) (jget_set2 hlo (List.forall_mem_cons.mp hst).1) (List.forall_mem_cons.mp hst).2 hw)
    · exact h.elim
  case lstore_n z =>
    simp only [jchk, Bool.and_eq_true, decide_eq_true_eq] at hchk
    have hln := Nat.eq_of_beq_eq_true hchk.2.1
    subst hln
    have hj := Nat.eq_of_beq_eq_true hchk.2.2
    dsimp only [jstep] at h
    split at h
    · rename_i x t hlt
      have hlt2 : rA + 1 < nL := by rw [← hl.1]; exact Nat.le_of_ble_eq_true hlt
      exact lv_lstore_n (lv := jlv ρ jl nL) hx hb hd hj hl.has hlt2 rfl (fun ls2 hl2 => hK _ h H locs ls2 (hl.set2 hl2) (jget_set2 hlo (List.forall_mem_cons.mp hst).1) (List.forall_mem_cons.mp hst).2 hw)
    · exact h.elim
  case iinc z y =>
    simp only [jchk, Bool.and_eq_true, decide_eq_true_eq] at hchk
    have hln := Nat.eq_of_beq_eq_true hchk.2.1
    subst hln
    have hj := Nat.eq_of_beq_eq_true hchk.2.2.1
    subst hj
    dsimp only [jstep] at h
    split at h
    · rename_i x hlt hg
      have hlt2 : z < nL := by rw [← hl.1]; exact Nat.le_of_ble_eq_true hlt
      obtain ⟨kk, hkk⟩ := List.getElem?_of_mem ((jlv_mem (ρ := ρ) (jl := jl) (q := (z, .int x)) nL).mpr ⟨_, hlt2, hg, rfl⟩)
      exact lv_iinc (v := x + rC) (lv := jlv ρ jl nL) hx hb hd hl.has hkk (by rw [hchk.2.2.2]) hlt2 rfl (fun ls2 hl2 => hK _ h H locs ls2 (hl.set1 (v := .inl (.inl (x + rC))) hl2) (jget_set1 hlo trivial) hst hw)
    · exact h.elim
  case iadd =>
    have hln : len = 1 := by unfold jchk at hchk; simp only [Bool.and_eq_true] at hchk; exact Nat.eq_of_beq_eq_true hchk.2
    subst hln
    dsimp only [jstep] at h
    split at h
    · exact lv_iadd hx hb hd (hK _ h H locs ls hl hlo (List.forall_mem_cons.mpr ⟨trivial, (List.forall_mem_cons.mp (List.forall_mem_cons.mp hst).2).2⟩) hw)
    · exact h.elim
  case isub =>
    have hln : len = 1 := by unfold jchk at hchk; simp only [Bool.and_eq_true] at hchk; exact Nat.eq_of_beq_eq_true hchk.2
    subst hln
    dsimp only [jstep] at h
    split at h
    · exact lv_isub hx hb hd (hK _ h H locs ls hl hlo (List.forall_mem_cons.mpr ⟨trivial, (List.forall_mem_cons.mp (List.forall_mem_cons.mp hst).2).2⟩) hw)
    · exact h.elim
  case imul =>
    have hln : len = 1 := by unfold jchk at hchk; simp only [Bool.and_eq_true] at hchk; exact Nat.eq_of_beq_eq_true hchk.2
    subst hln
    dsimp only [jstep] at h
    split at h
    · exact lv_imul hx hb hd (hK _ h H locs ls hl hlo (List.forall_mem_cons.mpr ⟨trivial, (List.forall_mem_cons.mp (List.forall_mem_cons.mp hst).2).2⟩) hw)
    · exact h.elim
  case iand =>
    have hln : len = 1 := by unfold jchk at hchk; simp only [Bool.and_eq_true] at hchk; exact Nat.eq_of_beq_eq_true hchk.2
    subst hln
    dsimp only [jstep] at h
    split at h
    · exact lv_iand hx hb hd (hK _ h H locs ls hl hlo (List.forall_mem_cons.mpr ⟨trivial, (List.forall_mem_cons.mp (List.forall_mem_cons.mp hst).2).2⟩) hw)
    · exact h.elim
  case ior =>
    have hln : len = 1 := by unfold jchk at hchk; simp only [Bool.and_eq_true] at hchk; exact Nat.eq_of_beq_eq_true hchk.2
    subst hln
    dsimp only [jstep] at h
    split at h
    · exact lv_ior hx hb hd (hK _ h H locs ls hl hlo (List.forall_mem_cons.mpr ⟨trivial, (List.forall_mem_cons.mp (List.forall_mem_cons.mp hst).2).2⟩) hw)
    · exact h.elim
  case ishl =>
    have hln : len = 1 := by unfold jchk at hchk; simp only [Bool.and_eq_true] at hchk; exact Nat.eq_of_beq_eq_true hchk.2
    subst hln
    dsimp only [jstep] at h
    split at h
    · exact lv_ishl hx hb hd (hK _ h H locs ls hl hlo (List.forall_mem_cons.mpr ⟨trivial, (List.forall_mem_cons.mp (List.forall_mem_cons.mp hst).2).2⟩) hw)
    · exact h.elim
  case ishr =>
    have hln : len = 1 := by unfold jchk at hchk; simp only [Bool.and_eq_true] at hchk; exact Nat.eq_of_beq_eq_true hchk.2
    subst hln
    dsimp only [jstep] at h
    split at h
    · exact lv_ishr hx hb hd (hK _ h H locs ls hl hlo (List.forall_mem_cons.mpr ⟨trivial, (List.forall_mem_cons.mp (List.forall_mem_cons.mp hst).2).2⟩) hw)
    · exact h.elim
  case ladd =>
    have hln : len = 1 := by unfold jchk at hchk; simp only [Bool.and_eq_true] at hchk; exact Nat.eq_of_beq_eq_true hchk.2
    subst hln
    dsimp only [jstep] at h
    split at h
    · exact lv_ladd hx hb hd (hK _ h H locs ls hl hlo (List.forall_mem_cons.mpr ⟨trivial, (List.forall_mem_cons.mp (List.forall_mem_cons.mp hst).2).2⟩) hw)
    · exact h.elim
  case lmul =>
    have hln : len = 1 := by unfold jchk at hchk; simp only [Bool.and_eq_true] at hchk; exact Nat.eq_of_beq_eq_true hchk.2
    subst hln
    dsimp only [jstep] at h
    split at h
    · exact lv_lmul hx hb hd (hK _ h H locs ls hl hlo (List.forall_mem_cons.mpr ⟨trivial, (List.forall_mem_cons.mp (List.forall_mem_cons.mp hst).2).2⟩) hw)
    · exact h.elim
  case lcmp =>
    have hln : len = 1 := by unfold jchk at hchk; simp only [Bool.and_eq_true] at hchk; exact Nat.eq_of_beq_eq_true hchk.2
    subst hln
    dsimp only [jstep] at h
    split at h
    · exact W.lcmp hx hb hd (hK _ h H locs ls hl hlo (List.forall_mem_cons.mpr ⟨trivial, (List.forall_mem_cons.mp (List.forall_mem_cons.mp hst).2).2⟩) hw)
    · exact h.elim
  case idiv =>
    have hln : len = 1 := by unfold jchk at hchk; simp only [Bool.and_eq_true] at hchk; exact Nat.eq_of_beq_eq_true hchk.2
    subst hln
    dsimp only [jstep] at h
    split at h
    · exact lv_idiv hx hb hd h.1 (hK _ h.2 H locs ls hl hlo (List.forall_mem_cons.mpr ⟨trivial, (List.forall_mem_cons.mp (List.forall_mem_cons.mp hst).2).2⟩) hw)
    · exact h.elim
  case irem =>
    have hln : len = 1 := by unfold jchk at hchk; simp only [Bool.and_eq_true] at hchk; exact Nat.eq_of_beq_eq_true hchk.2
    subst hln
    dsimp only [jstep] at h
    split at h
    · exact lv_irem hx hb hd h.1 (hK _ h.2 H locs ls hl hlo (List.forall_mem_cons.mpr ⟨trivial, (List.forall_mem_cons.mp (List.forall_mem_cons.mp hst).2).2⟩) hw)
    · exact h.elim
  case ldiv =>
    have hln : len = 1 := by unfold jchk at hchk; simp only [Bool.and_eq_true] at hchk; exact Nat.eq_of_beq_eq_true hchk.2
    subst hln
    dsimp only [jstep] at h
    split at h
    · exact lv_ldiv hx hb hd h.1 (hK _ h.2 H locs ls hl hlo (List.forall_mem_cons.mpr ⟨trivial, (List.forall_mem_cons.mp (List.forall_mem_cons.mp hst).2).2⟩) hw)
    · exact h.elim
  case lrem =>
    have hln : len = 1 := by unfold jchk at hchk; simp only [Bool.and_eq_true] at hchk; exact Nat.eq_of_beq_eq_true hchk.2
    subst hln
    dsimp only [jstep] at h
    split at h
    · exact lv_lrem hx hb hd h.1 (hK _ h.2 H locs ls hl hlo (List.forall_mem_cons.mpr ⟨trivial, (List.forall_mem_cons.mp (List.forall_mem_cons.mp hst).2).2⟩) hw)
    · exact h.elim
  case i2l =>
    have hln : len = 1 := by unfold jchk at hchk; simp only [Bool.and_eq_true] at hchk; exact Nat.eq_of_beq_eq_true hchk.2
    subst hln
    dsimp only [jstep] at h
    split at h
    · exact lv_i2l hx hb hd rfl (hK _ h H locs ls hl hlo (List.forall_mem_cons.mpr ⟨trivial, (List.forall_mem_cons.mp hst).2⟩) hw)
    · exact h.elim
  case l2i =>
    have hln : len = 1 := by unfold jchk at hchk; simp only [Bool.and_eq_true] at hchk; exact Nat.eq_of_beq_eq_true hchk.2
    subst hln
    dsimp only [jstep] at h
    split at h
    · exact lv_l2i hx hb hd rfl (hK _ h H locs ls hl hlo (List.forall_mem_cons.mpr ⟨trivial, (List.forall_mem_cons.mp hst).2⟩) hw)
    · exact h.elim
  case i2b =>
    have hln : len = 1 := by unfold jchk at hchk; simp only [Bool.and_eq_true] at hchk; exact Nat.eq_of_beq_eq_true hchk.2
    subst hln
    dsimp only [jstep] at h
    split at h
    · exact lv_i2b hx hb hd rfl (hK _ h H locs ls hl hlo (List.forall_mem_cons.mpr ⟨trivial, (List.forall_mem_cons.mp hst).2⟩) hw)
    · exact h.elim
  case dup =>
    have hln : len = 1 := by unfold jchk at hchk; simp only [Bool.and_eq_true] at hchk; exact Nat.eq_of_beq_eq_true hchk.2
    subst hln
    dsimp only [jstep] at h
    split at h
    · exact lv_dup hx hb hd rfl (hK _ h H locs ls hl hlo (List.forall_mem_cons.mpr ⟨trivial, hst⟩) hw)
    · exact lv_dup hx hb hd rfl (hK _ h H locs ls hl hlo (List.forall_mem_cons.mpr ⟨(List.forall_mem_cons.mp hst).1, hst⟩) hw)
    · exact h.elim
  case dup2 =>
    have hln : len = 1 := by unfold jchk at hchk; simp only [Bool.and_eq_true] at hchk; exact Nat.eq_of_beq_eq_true hchk.2
    subst hln
    dsimp only [jstep] at h
    split at h
    · exact lv_dup2_11 hx hb hd rfl rfl (hK _ h H locs ls hl hlo (List.forall_mem_cons.mpr ⟨trivial, List.forall_mem_cons.mpr ⟨(List.forall_mem_cons.mp (List.forall_mem_cons.mp hst).2).1, hst⟩⟩) hw)
    · exact h.elim
  case pop =>
    have hln : len = 1 := by unfold jchk at hchk; simp only [Bool.and_eq_true] at hchk; exact Nat.eq_of_beq_eq_true hchk.2
    subst hln
    dsimp only [jstep] at h
    split at h
    · exact lv_pop hx hb hd rfl (hK _ h H locs ls hl hlo (List.forall_mem_cons.mp hst).2 hw)
    · exact h.elim
  case pop2 =>
    have hln : len = 1 := by unfold jchk at hchk; simp only [Bool.and_eq_true] at hchk; exact Nat.eq_of_beq_eq_true hchk.2
    subst hln
    dsimp only [jstep] at h
    split at h
    · exact lv_pop2_2 hx hb hd rfl (hK _ h H locs ls hl hlo (List.forall_mem_cons.mp hst).2 hw)
    · exact h.elim
  case goto o =>
    simp only [jchk, Bool.and_eq_true, decide_eq_true_eq] at hchk
    have hln := Nat.eq_of_beq_eq_true hchk.2.1
    subst hln
    exact lv_goto hx hb hd hchk.2.2 (hK _ h H locs ls hl hlo hst hw)
  case ifCond z o =>
    simp only [jchk, Bool.and_eq_true, decide_eq_true_eq] at hchk
    have hln := Nat.eq_of_beq_eq_true hchk.2.1
    subst hln
    cases z
    case eq =>
      dsimp only [jstep] at h
      split at h
      · exact lv_if_eq hx hb hd hchk.2.2 (fun q => hK _ (h.1 q) H locs ls hl hlo (List.forall_mem_cons.mp hst).2 hw) (fun q => hK _ (h.2 q) H locs ls hl hlo (List.forall_mem_cons.mp hst).2 hw)
      · exact h.elim
    case ne =>
      dsimp only [jstep] at h
      split at h
      · exact lv_if_ne hx hb hd hchk.2.2 (fun q => hK _ (h.1 q) H locs ls hl hlo (List.forall_mem_cons.mp hst).2 hw) (fun q => hK _ (h.2 q) H locs ls hl hlo (List.forall_mem_cons.mp hst).2 hw)
      · exact h.elim
    case lt =>
      dsimp only [jstep] at h
      split at h
      · exact lv_if_lt hx hb hd hchk.2.2 (fun q => hK _ (h.1 q) H locs ls hl hlo (List.forall_mem_cons.mp hst).2 hw) (fun q => hK _ (h.2 q) H locs ls hl hlo (List.forall_mem_cons.mp hst).2 hw)
      · exact h.elim
    case ge =>
      dsimp only [jstep] at h
      split at h
      · exact lv_if_ge hx hb hd hchk.2.2 (fun q => hK _ (h.1 q) H locs ls hl hlo (List.forall_mem_cons.mp hst).2 hw) (fun q => hK _ (h.2 q) H locs ls hl hlo (List.forall_mem_cons.mp hst).2 hw)
      · exact h.elim
    case gt =>
      dsimp only [jstep] at h
      split at h
      · exact lv_if_gt hx hb hd hchk.2.2 (fun q => hK _ (h.1 q) H locs ls hl hlo (List.forall_mem_cons.mp hst).2 hw) (fun q => hK _ (h.2 q) H locs ls hl hlo (List.forall_mem_cons.mp hst).2 hw)
      · exact h.elim
    case le =>
      dsimp only [jstep] at h
      split at h
      · exact lv_if_le hx hb hd hchk.2.2 (fun q => hK _ (h.1 q) H locs ls hl hlo (List.forall_mem_cons.mp hst).2 hw) (fun q => hK _ (h.2 q) H locs ls hl hlo (List.forall_mem_cons.mp hst).2 hw)
      · exact h.elim
  case if_icmp z o =>
    simp only [jchk, Bool.and_eq_true, decide_eq_true_eq] at hchk
    have hln := Nat.eq_of_beq_eq_true hchk.2.1
    subst hln
    cases z
    case eq =>
      dsimp only [jstep] at h
      split at h
      · exact lv_icmp_eq hx hb hd hchk.2.2 (fun q => hK _ (h.1 q) H locs ls hl hlo (List.forall_mem_cons.mp (List.forall_mem_cons.mp hst).2).2 hw) (fun q => hK _ (h.2 q) H locs ls hl hlo (List.forall_mem_cons.mp (List.forall_mem_cons.mp hst).2).2 hw)
      · exact h.elim
    case ne =>
      dsimp only [jstep] at h
      split at h
      · exact lv_icmp_ne hx hb hd hchk.2.2 (fun q => hK _ (h.1 q) H locs ls hl hlo (List.forall_mem_cons.mp (List.forall_mem_cons.mp hst).2).2 hw) (fun q => hK _ (h.2 q) H locs ls hl hlo (List.forall_mem_cons.mp (List.forall_mem_cons.mp hst).2).2 hw)
      · exact h.elim
    case lt =>
      dsimp only [jstep] at h
      split at h
      · exact lv_icmp_lt hx hb hd hchk.2.2 (fun q => hK _ (h.1 q) H locs ls hl hlo (List.forall_mem_cons.mp (List.forall_mem_cons.mp hst).2).2 hw) (fun q => hK _ (h.2 q) H locs ls hl hlo (List.forall_mem_cons.mp (List.forall_mem_cons.mp hst).2).2 hw)
      · exact h.elim
    case ge =>
      dsimp only [jstep] at h
      split at h
      · exact lv_icmp_ge hx hb hd hchk.2.2 (fun q => hK _ (h.1 q) H locs ls hl hlo (List.forall_mem_cons.mp (List.forall_mem_cons.mp hst).2).2 hw) (fun q => hK _ (h.2 q) H locs ls hl hlo (List.forall_mem_cons.mp (List.forall_mem_cons.mp hst).2).2 hw)
      · exact h.elim
    case gt =>
      dsimp only [jstep] at h
      split at h
      · exact lv_icmp_gt hx hb hd hchk.2.2 (fun q => hK _ (h.1 q) H locs ls hl hlo (List.forall_mem_cons.mp (List.forall_mem_cons.mp hst).2).2 hw) (fun q => hK _ (h.2 q) H locs ls hl hlo (List.forall_mem_cons.mp (List.forall_mem_cons.mp hst).2).2 hw)
      · exact h.elim
    case le =>
      dsimp only [jstep] at h
      split at h
      · exact lv_icmp_le hx hb hd hchk.2.2 (fun q => hK _ (h.1 q) H locs ls hl hlo (List.forall_mem_cons.mp (List.forall_mem_cons.mp hst).2).2 hw) (fun q => hK _ (h.2 q) H locs ls hl hlo (List.forall_mem_cons.mp (List.forall_mem_cons.mp hst).2).2 hw)
      · exact h.elim
  case tableswitch df lo hi offs =>
    simp only [jchk, Bool.and_eq_true, decide_eq_true_eq] at hchk
    obtain ⟨-, c1, ⟨c2, c3, c4⟩, c5, c6⟩ := hchk
    subst c5
    dsimp only [jstep] at h
    split at h
    · rename_i x t
      obtain ⟨g1, g2⟩ := jsw_tab offs.toList lo c2 (by omega) h
      by_cases hh : x.toInt < lo ∨ hi < x.toInt
      · exact lv_tableOut hx hb hd hh c1 (hK _ (g2 (by omega)) H locs ls hl hlo (List.forall_mem_cons.mp hst).2 hw)
      · have hj : (x.toInt - lo).toNat < offs.toList.length := by omega
        have ho : offs.toList[(x.toInt - lo).toNat]? = some offs.toList[(x.toInt - lo).toNat] := List.getElem?_eq_getElem hj
        have hp := c6 _ (List.getElem_mem hj)
        exact lv_tableIn hx hb hd (by omega) (by omega) (by rw [← Array.getElem?_toList]; exact ho) (by omega) (hK _ (g1 _ _ ho (by omega)) H locs ls hl hlo (List.forall_mem_cons.mp hst).2 hw)
    · exact h.elim
  case lookupswitch df ps =>
    simp only [jchk, Bool.and_eq_true, decide_eq_true_eq] at hchk
    obtain ⟨-, c1, c2, c3, c4⟩ := hchk
    subst c3
    dsimp only [jstep] at h
    split at h
    · rename_i x t
      obtain ⟨tgt, g1, g2⟩ := jsw_ltab c1 ps.toList c4 h
      exact lv_lookup hx hb hd c2 rfl g1 (hK _ g2 H locs ls hl hlo (List.forall_mem_cons.mp hst).2 hw)
    · exact h.elim
  case getfield idx =>
    simp only [jchk, Bool.and_eq_true, decide_eq_true_eq] at hchk
    have hln := Nat.eq_of_beq_eq_true hchk.2.1
    subst hln
    dsimp only [jstep] at h
    split at h
    · rename_i g n t
      split at h
      · rename_i ci fs hsh
        have hv : n < (jSh g).1 := by
          rcases (List.forall_mem_cons.mp hst).1 with q | ⟨q | q, -⟩
          · exact q
          · dsimp only at q; subst q; exact absurd hsh (by rw [jSh_big (by decide)]; intro q; cases q; simp at h)
          · dsimp only at q; subst q; exact absurd hsh (by rw [jSh_big (by decide)]; intro q; cases q; simp at h)
        have hz : ∃ z, (on, idx, rB, rA, z) ∈ jfl := by
          rcases Bool.or_eq_true_iff.mp hchk.2.2 with q | q
          · exact ⟨0, of_decide_eq_true q⟩
          · exact ⟨1, of_decide_eq_true q⟩
        obtain ⟨z, hz⟩ := hz
        obtain ⟨C, T, N, hc, hlen, hfs⟩ := jsh_obj hv hsh
        split at h
        · rename_i f hci hf
          have hci := Nat.eq_of_beq_eq_true hci
          subst hci
          exact jr_get CX hw hv hsh hf hz hd (hK _ h H locs ls hl hlo (List.forall_mem_cons.mpr ⟨Or.inl (hfs _ _ hf).2, (List.forall_mem_cons.mp hst).2⟩) hw)
        · rename_i hci hf
          have hci := Nat.eq_of_beq_eq_true hci
          subst hci
          exact jr_get CX hw hv hsh hf hz hd (hK _ h H locs ls hl hlo (List.forall_mem_cons.mpr ⟨trivial, (List.forall_mem_cons.mp hst).2⟩) hw)
        · rename_i f hne hci hf
          have hci := Nat.eq_of_beq_eq_true hci
          subst hci
          refine jr_get CX hw hv hsh hf hz hd ?_
          have he : jfv ρ (I, L) g n rA (.inr f) = .int (I g n rA) := by
                  unfold jfv
                  split
                  · rename_i q; cases q
                  · rename_i q; cases q; exact absurd rfl hne
                  · rfl
          rw [he]
          exact hK _ h H locs ls hl hlo (List.forall_mem_cons.mpr ⟨trivial, (List.forall_mem_cons.mp hst).2⟩) hw
        · exact h.elim
      · exact h.elim
    · exact h.elim
  case putfield idx =>
    simp only [jchk, Bool.and_eq_true, decide_eq_true_eq] at hchk
    have hln := Nat.eq_of_beq_eq_true hchk.2.1
    subst hln
    have hz : ∃ z, (on, idx, rB, rA, z) ∈ jfl := by
      rcases Bool.or_eq_true_iff.mp hchk.2.2 with q | q
      · exact ⟨0, of_decide_eq_true q⟩
      · exact ⟨1, of_decide_eq_true q⟩
    obtain ⟨z, hz⟩ := hz
    dsimp only [jstep] at h
    split at h
    · rename_i x g n t
      split at h
      · rename_i ci fs hsh
        have hv : n < (jSh g).1 := by
          rcases (List.forall_mem_cons.mp (List.forall_mem_cons.mp hst).2).1 with q | ⟨q | q, -⟩
          · exact q
          · dsimp only at q; subst q; rw [jSh_big (by decide)] at hsh; cases hsh; simp at h
          · dsimp only at q; subst q; rw [jSh_big (by decide)] at hsh; cases hsh; simp at h
        split at h
        · rename_i hci hf
          have hci := Nat.eq_of_beq_eq_true hci
          subst hci
          exact jr_put CX hw hv hsh hf hz hd (σ' := (jup I g n rA x, L)) (v := .int x) (ty := .int) (d := "I") (fun T hh => hh) (by decide) rfl rfl (by simp [jfv, jup]) (fun a f' ha => by unfold jfv; split <;> simp [jup, ha]) (fun y hy => jce_congr (jup_ne hy) rfl) (fun H1 locs1 hw1 => hK _ h H1 locs1 ls hl hlo (List.forall_mem_cons.mp (List.forall_mem_cons.mp hst).2).2 hw1)
        · rename_i hci hf
          have hci := Nat.eq_of_beq_eq_true hci
          subst hci
          exact jr_put CX hw hv hsh hf hz hd (σ' := (jup I g n rA x, L)) (v := .int x) (ty := .boolean) (d := "Z") (fun T hh => hh) (by decide) (jnar1 h.1).1 (jnar1 h.1).2 (by simp [jfv, jup]) (fun a f' ha => by unfold jfv; split <;> simp [jup, ha]) (fun y hy => jce_congr (jup_ne hy) rfl) (fun H1 locs1 hw1 => hK _ h.2 H1 locs1 ls hl hlo (List.forall_mem_cons.mp (List.forall_mem_cons.mp hst).2).2 hw1)
        · exact h.elim
      · exact h.elim
    · rename_i x g n t
      split at h
      · rename_i ci fs hsh
        have hv : n < (jSh g).1 := by
          rcases (List.forall_mem_cons.mp (List.forall_mem_cons.mp hst).2).1 with q | ⟨q | q, -⟩
          · exact q
          · dsimp only at q; subst q; rw [jSh_big (by decide)] at hsh; cases hsh; simp at h
          · dsimp only at q; subst q; rw [jSh_big (by decide)] at hsh; cases hsh; simp at h
        split at h
        · rename_i hci hf
          have hci := Nat.eq_of_beq_eq_true hci
          subst hci
          exact jr_put CX hw hv hsh hf hz hd (σ' := (I, jupL L g n rA x)) (v := .long x) (ty := .long) (d := "J") (fun T hh => hh) (by decide) rfl rfl (by simp [jfv, jupL]) (fun a f' ha => by unfold jfv; split <;> simp [jupL, ha]) (fun y hy => jce_congr rfl (jupL_ne hy)) (fun H1 locs1 hw1 => hK _ h H1 locs1 ls hl hlo (List.forall_mem_cons.mp (List.forall_mem_cons.mp hst).2).2 hw1)
        · exact h.elim
      · exact h.elim
    · exact h.elim
  case getstatic idx =>
    simp only [jchk, Bool.and_eq_true, decide_eq_true_eq] at hchk
    have hln := Nat.eq_of_beq_eq_true hchk.2.1
    subst hln
    have hg : on = 5 ∧ idx = 82 := by
          have := hchk.2.2
          simp only [jgs, Prod.mk.injEq] at this
          exact this
    obtain ⟨rfl, rfl⟩ := hg
    exact va_getsN (ref := "LargerPacket") hx hb hZ hw.2.2 hown (va_Nw.use rfl (hN _ jgs_in)) (fun _ q => q) hd (hK _ h H locs ls hl hlo (List.forall_mem_cons.mpr ⟨Or.inr ⟨Or.inl rfl, rfl⟩, hst⟩) hw)
  case iaload =>
    have hln : len = 1 := by unfold jchk at hchk; simp only [Bool.and_eq_true] at hchk; exact Nat.eq_of_beq_eq_true hchk.2
    subst hln
    dsimp only [jstep] at h
    split at h
    · rename_i j g n t
      split at h
      · rename_i q hq
        have hro : ∃ t0, va_T .int (ρ g n) q.1 (fun j => .int (q.2 j)) A s s.heap ∧ t0 = 0 := by
          have hnz : n = 0 := by
            rcases (List.forall_mem_cons.mp (List.forall_mem_cons.mp hst).2).1 with q9 | ⟨-, q9⟩
            · unfold jro at hq
              split at hq
              · rename_i h9; have h9 := Nat.eq_of_beq_eq_true h9; subst h9; rw [jSh_big (g := 900) (by decide)] at q9; exact absurd q9 (Nat.not_lt_zero _)
              · split at hq
                · rename_i h9; have h9 := Nat.eq_of_beq_eq_true h9; subst h9; rw [jSh_big (g := 901) (by decide)] at q9; exact absurd q9 (Nat.not_lt_zero _)
                · cases hq
            · exact q9
          subst hnz
          unfold jro at hq
          split at hq
          · rename_i h9; have h9 := Nat.eq_of_beq_eq_true h9; subst h9; cases hq; exact ⟨0, hT, rfl⟩
          · split at hq
            · rename_i h9; have h9 := Nat.eq_of_beq_eq_true h9; subst h9; exact ⟨0, hX _ hq, rfl⟩
            · cases hq
        obtain ⟨-, hro, -⟩ := hro
        exact va_ti hx hb hro hw.2.2 h.1 rfl hd (hK _ h.2 H locs ls hl hlo (List.forall_mem_cons.mpr ⟨trivial, (List.forall_mem_cons.mp (List.forall_mem_cons.mp hst).2).2⟩) hw)
      · split at h
        · rename_i N hsh
          have hv : n < (jSh g).1 := by
            rcases (List.forall_mem_cons.mp (List.forall_mem_cons.mp hst).2).1 with q | ⟨q | q, -⟩
            · exact q
            · dsimp only at q; subst q; rw [jSh_big (by decide)] at hsh; cases hsh
            · dsimp only at q; subst q; rw [jSh_big (by decide)] at hsh; cases hsh
          exact jr_iald CX hw hv hsh h.1 hd (hK _ h.2 H locs ls hl hlo (List.forall_mem_cons.mpr ⟨trivial, (List.forall_mem_cons.mp (List.forall_mem_cons.mp hst).2).2⟩) hw)
        · exact h.elim
    · exact h.elim
  case baload =>
    have hln : len = 1 := by unfold jchk at hchk; simp only [Bool.and_eq_true] at hchk; exact Nat.eq_of_beq_eq_true hchk.2
    subst hln
    dsimp only [jstep] at h
    split at h
    · rename_i j g n t
      split at h
      · rename_i N hsh
        have hv : n < (jSh g).1 := by
          rcases (List.forall_mem_cons.mp (List.forall_mem_cons.mp hst).2).1 with q | ⟨q | q, -⟩
          · exact q
          · dsimp only at q; subst q; rw [jSh_big (by decide)] at hsh; cases hsh
          · dsimp only at q; subst q; rw [jSh_big (by decide)] at hsh; cases hsh
        exact jr_zald CX hw hv hsh h.1 hd (hK _ h.2 H locs ls hl hlo (List.forall_mem_cons.mpr ⟨trivial, (List.forall_mem_cons.mp (List.forall_mem_cons.mp hst).2).2⟩) hw)
      · exact h.elim
    · exact h.elim
  case laload =>
    have hln : len = 1 := by unfold jchk at hchk; simp only [Bool.and_eq_true] at hchk; exact Nat.eq_of_beq_eq_true hchk.2
    subst hln
    dsimp only [jstep] at h
    split at h
    · rename_i j g n t
      split at h
      · rename_i N hsh
        have hv : n < (jSh g).1 := by
          rcases (List.forall_mem_cons.mp (List.forall_mem_cons.mp hst).2).1 with q | ⟨q | q, -⟩
          · exact q
          · dsimp only at q; subst q; rw [jSh_big (by decide)] at hsh; cases hsh
          · dsimp only at q; subst q; rw [jSh_big (by decide)] at hsh; cases hsh
        exact jr_lald CX hw hv hsh h.1 hd (hK _ h.2 H locs ls hl hlo (List.forall_mem_cons.mpr ⟨trivial, (List.forall_mem_cons.mp (List.forall_mem_cons.mp hst).2).2⟩) hw)
      · exact h.elim
    · exact h.elim
  case aaload =>
    have hln : len = 1 := by unfold jchk at hchk; simp only [Bool.and_eq_true] at hchk; exact Nat.eq_of_beq_eq_true hchk.2
    subst hln
    dsimp only [jstep] at h
    split at h
    · rename_i j g n t
      split at h
      · rename_i N f hsh
        have hv : n < (jSh g).1 := by
          rcases (List.forall_mem_cons.mp (List.forall_mem_cons.mp hst).2).1 with q | ⟨q | q, -⟩
          · exact q
          · dsimp only at q; subst q; rw [jSh_big (by decide)] at hsh; cases hsh
          · dsimp only at q; subst q; rw [jSh_big (by decide)] at hsh; cases hsh
        exact jr_aald CX hw hv hsh h.1 hd (hK _ h.2 H locs ls hl hlo (List.forall_mem_cons.mpr ⟨Or.inl ((jsh_ref hv hsh).2 _ (Nat.not_le.mp fun q => h.1 (Or.inr q))), (List.forall_mem_cons.mp (List.forall_mem_cons.mp hst).2).2⟩) hw)
      · exact h.elim
    · exact h.elim
  case iastore =>
    have hln : len = 1 := by unfold jchk at hchk; simp only [Bool.and_eq_true] at hchk; exact Nat.eq_of_beq_eq_true hchk.2
    subst hln
    dsimp only [jstep] at h
    split at h
    · rename_i x j g n t
      split at h
      · rename_i N hsh
        have hv : n < (jSh g).1 := by
          rcases (List.forall_mem_cons.mp (List.forall_mem_cons.mp (List.forall_mem_cons.mp hst).2).2).1 with q | ⟨q | q, -⟩
          · exact q
          · dsimp only at q; subst q; rw [jSh_big (by decide)] at hsh; cases hsh
          · dsimp only at q; subst q; rw [jSh_big (by decide)] at hsh; cases hsh
        exact jr_iast CX hw hv hsh h.1 hd (fun H1 locs1 hw1 => hK _ h.2 H1 locs1 ls hl hlo (List.forall_mem_cons.mp (List.forall_mem_cons.mp (List.forall_mem_cons.mp hst).2).2).2 hw1)
      · exact h.elim
    · exact h.elim
  case bastore =>
    have hln : len = 1 := by unfold jchk at hchk; simp only [Bool.and_eq_true] at hchk; exact Nat.eq_of_beq_eq_true hchk.2
    subst hln
    dsimp only [jstep] at h
    split at h
    · rename_i x j g n t
      split at h
      · rename_i N hsh
        have hv : n < (jSh g).1 := by
          rcases (List.forall_mem_cons.mp (List.forall_mem_cons.mp (List.forall_mem_cons.mp hst).2).2).1 with q | ⟨q | q, -⟩
          · exact q
          · dsimp only at q; subst q; rw [jSh_big (by decide)] at hsh; cases hsh
          · dsimp only at q; subst q; rw [jSh_big (by decide)] at hsh; cases hsh
        exact jr_zast CX hw hv hsh h.1 hd (fun H1 locs1 hw1 => hK _ h.2 H1 locs1 ls hl hlo (List.forall_mem_cons.mp (List.forall_mem_cons.mp (List.forall_mem_cons.mp hst).2).2).2 hw1)
      · exact h.elim
    · exact h.elim
  case lastore =>
    have hln : len = 1 := by unfold jchk at hchk; simp only [Bool.and_eq_true] at hchk; exact Nat.eq_of_beq_eq_true hchk.2
    subst hln
    dsimp only [jstep] at h
    split at h
    · rename_i x j g n t
      split at h
      · rename_i N hsh
        have hv : n < (jSh g).1 := by
          rcases (List.forall_mem_cons.mp (List.forall_mem_cons.mp (List.forall_mem_cons.mp hst).2).2).1 with q | ⟨q | q, -⟩
          · exact q
          · dsimp only at q; subst q; rw [jSh_big (by decide)] at hsh; cases hsh
          · dsimp only at q; subst q; rw [jSh_big (by decide)] at hsh; cases hsh
        exact jr_last CX hw hv hsh h.1 hd (fun H1 locs1 hw1 => hK _ h.2 H1 locs1 ls hl hlo (List.forall_mem_cons.mp (List.forall_mem_cons.mp (List.forall_mem_cons.mp hst).2).2).2 hw1)
      · exact h.elim
    · exact h.elim
  case arraylength =>
    have hln : len = 1 := by unfold jchk at hchk; simp only [Bool.and_eq_true] at hchk; exact Nat.eq_of_beq_eq_true hchk.2
    subst hln
    dsimp only [jstep] at h
    split at h
    · rename_i g n t
      split at h
      · rename_i q hq
        have hro : ∃ t0, va_T .int (ρ g n) q.1 (fun j => .int (q.2 j)) A s s.heap ∧ t0 = 0 := by
          have hnz : n = 0 := by
            rcases (List.forall_mem_cons.mp hst).1 with q9 | ⟨-, q9⟩
            · unfold jro at hq
              split at hq
              · rename_i h9; have h9 := Nat.eq_of_beq_eq_true h9; subst h9; rw [jSh_big (g := 900) (by decide)] at q9; exact absurd q9 (Nat.not_lt_zero _)
              · split at hq
                · rename_i h9; have h9 := Nat.eq_of_beq_eq_true h9; subst h9; rw [jSh_big (g := 901) (by decide)] at q9; exact absurd q9 (Nat.not_lt_zero _)
                · cases hq
            · exact q9
          subst hnz
          unfold jro at hq
          split at hq
          · rename_i h9; have h9 := Nat.eq_of_beq_eq_true h9; subst h9; cases hq; exact ⟨0, hT, rfl⟩
          · split at hq
            · rename_i h9; have h9 := Nat.eq_of_beq_eq_true h9; subst h9; exact ⟨0, hX _ hq, rfl⟩
            · cases hq
        obtain ⟨-, hro, -⟩ := hro
        exact va_tlen hx hb hro hw.2.2 rfl hd (hK _ h H locs ls hl hlo (List.forall_mem_cons.mpr ⟨trivial, (List.forall_mem_cons.mp hst).2⟩) hw)
      · split at h
        · rename_i N z hsh
          have hv : n < (jSh g).1 := by
            rcases (List.forall_mem_cons.mp hst).1 with q | ⟨q | q, -⟩
            · exact q
            · dsimp only at q; subst q; rw [jSh_big (by decide)] at hsh; cases hsh
            · dsimp only at q; subst q; rw [jSh_big (by decide)] at hsh; cases hsh
          exact jr_alen CX hw hv hsh hd (hK _ h H locs ls hl hlo (List.forall_mem_cons.mpr ⟨trivial, (List.forall_mem_cons.mp hst).2⟩) hw)
        · exact h.elim
    · exact h.elim
  case invokevirtual idx =>
    have hln : len = 3 ∧ ∃ q, rS = [q] ∧ (on, idx, rA, rB, q.2) ∈ jvl := by
          unfold jchk at hchk
          simp only [Bool.and_eq_true] at hchk
          refine ⟨Nat.eq_of_beq_eq_true hchk.2.1, ?_⟩
          have h9 := hchk.2.2
          split at h9
          · rename_i q; exact ⟨q, rfl, of_decide_eq_true h9⟩
          · cases h9
    obtain ⟨rfl, q5, rfl, hjv⟩ := hln
    dsimp only [jstep] at h
    split at h
    · rename_i q as t htk
      obtain ⟨pre, e1, e2, e3⟩ := jtake_spec _ _ _ _ _ htk
      rw [List.append_nil] at e3
      have e4 : pre = as.reverse ++ [.inr q] := by rw [← List.reverse_reverse pre, ← e3]; simp
      subst e4
      subst e1
      split at h
      · rename_i hcl hca
        have hcat : jcat t ≤ 8 := Nat.le_of_ble_eq_true hca
        obtain ⟨g, n⟩ := q
        unfold jcls at hcl
        split at hcl
        · rename_i ci fs c9 hsh hcc
          cases hcc
          have hci := Nat.eq_of_beq_eq_true hcl
          subst hci
          dsimp only at hsh
          have hv : n < (jSh g).1 := by
            rcases hst (.inr (g, n)) (by simp) with q | ⟨q | q, -⟩
            · exact q
            · exfalso; dsimp only at q; subst q; rw [jSh_big (by decide)] at hsh; injection hsh with h97; injection h97 with h96 h95; obtain ⟨_, _, _, _, _, T, N, h99⟩ := jvl_ok _ hjv; rw [← h96] at h99; simp [vwCl] at h99
            · exfalso; dsimp only at q; subst q; rw [jSh_big (by decide)] at hsh; injection hsh with h97; injection h97 with h96 h95; obtain ⟨_, _, _, _, _, T, N, h99⟩ := jvl_ok _ hjv; rw [← h96] at h99; simp [vwCl] at h99
          have key := jr_callV (rest := t) (as := as) CX hw IH hR hjv hv hsh (fun v hv9 => hst v (by simp [hv9])) (by simp at e2; omega) h hcat hl.2.1 hd (Q := Q) (below := below) (meth := meth) (e := e) (fun v σ' H1 locs1 hk hvo hw1 => by rw [jopt_map]; exact hK _ hk H1 locs1 ls hl hlo (jopt_ok hvo (fun x hx => hst x (by simp [hx]))) hw1)
          have e9 : ((as.reverse ++ [Sum.inr (g, n)] ++ t).map (jcv ρ)) = (as.map (jcv ρ)).reverse ++ .ref (ρ g n) :: t.map (jcv ρ) := by simp [jcv]
          rw [e9]
          exact key
        · cases hcl
      · exact h.elim
    · exact h.elim
  case invokestatic idx =>
    unfold jchk at hchk
    simp only [Bool.and_eq_true] at hchk
    have hln := Nat.eq_of_beq_eq_true hchk.2.1
    subst hln
    have hc9 := hchk.2.2
    dsimp only [jstep] at h
    split at h
    · rename_i h999
      simp only [h999] at hc9
      split at h
      · rename_i z dp g9 n9 sp g n t
        split at h
        · rename_i N N9 hsh hsh9 hca
          have hcat : jcat t ≤ 8 := Nat.le_of_ble_eq_true hca
          have hv : n < (jSh g).1 := by
            rcases hst (.inr (g, n)) (by simp) with q | ⟨q | q, -⟩
            · exact q
            · dsimp only at q; subst q; rw [jSh_big (by decide)] at hsh; cases hsh
            · dsimp only at q; subst q; rw [jSh_big (by decide)] at hsh; cases hsh
          have hv9 : n9 < (jSh g9).1 := by
            rcases hst (.inr (g9, n9)) (by simp) with q | ⟨q | q, -⟩
            · exact q
            · dsimp only at q; subst q; rw [jSh_big (by decide)] at hsh9; cases hsh9
            · dsimp only at q; subst q; rw [jSh_big (by decide)] at hsh9; cases hsh9
          obtain ⟨⟨h1, h2, h3, h4, h5⟩, h6⟩ := h
          exact jr_copy CX hw hv hv9 hsh hsh9 h1 h2 h3 h4 h5 (of_decide_eq_true hc9) hl.2.1 (by omega) (by rw [jcat_sum]; omega) hd (fun H1 locs1 hw1 => hK _ h6 H1 locs1 ls hl hlo (fun x hx => hst x (by simp [hx])) hw1)
        · exact h.elim
      · exact h.elim
    · rename_i h999
      simp only [h999] at hc9
      split at h
      · rename_i h998
        simp only [h998] at hc9
        split at h
        · rename_i y x t
          split at h
          · rename_i hca
            have hcat : jcat t ≤ 8 := Nat.le_of_ble_eq_true hca
            rcases jmt_ok _ (of_decide_eq_true hc9) with ⟨q, -⟩ | ⟨-, q⟩
            · cases q
            · exact va_mmin hx hb (by rw [hml, hl.2.1]) hown (hts _ q) (hts _ jmn_sta) (hts _ jmx_ini) (hts _ jmn_cod) (by omega) (by rw [jcat_sum]; omega) hR.2.2.1 hR.2.2.2 hd (hK _ h H locs ls hl hlo (List.forall_mem_cons.mpr ⟨trivial, (List.forall_mem_cons.mp (List.forall_mem_cons.mp hst).2).2⟩) hw)
          · exact h.elim
        · exact h.elim
      · rename_i h998
        simp only [h998] at hc9
        split at h
        · rename_i h997
          simp only [h997] at hc9
          split at h
          · rename_i y x t
            split at h
            · rename_i hca
              have hcat : jcat t ≤ 8 := Nat.le_of_ble_eq_true hca
              rcases jmt_ok _ (of_decide_eq_true hc9) with ⟨-, q⟩ | ⟨q, -⟩
              · exact va_mmax hx hb (by rw [hml, hl.2.1]) hown (hts _ q) (hts _ jmx_sta) (hts _ jmx_ini) (hts _ jmx_cod) (by omega) (by rw [jcat_sum]; omega) hR.2.2.1 hR.2.2.2 hd (hK _ h H locs ls hl hlo (List.forall_mem_cons.mpr ⟨trivial, (List.forall_mem_cons.mp (List.forall_mem_cons.mp hst).2).2⟩) hw)
              · cases q
            · exact h.elim
          · exact h.elim
        · rename_i h997
          simp only [h997] at hc9
          split at h
          · rename_i as t htk
            split at h
            · rename_i hca
              have hcat : jcat t ≤ 8 := Nat.le_of_ble_eq_true hca
              obtain ⟨pre, e1, e2, e3⟩ := jtake_spec _ _ _ _ _ htk
              rw [List.append_nil] at e3
              have e4 : pre = as.reverse := by rw [e3]; simp
              subst e4
              subst e1
              have key := jr_callS (rest := t) (as := as) CX hw IH hR (of_decide_eq_true hc9) (fun v hv9 => hst v (by simp [hv9])) (by simpa using e2) h hcat hl.2.1 hd (Q := Q) (below := below) (meth := meth) (e := e) (fun v σ' H1 locs1 hk hvo hw1 => by rw [jopt_map]; exact hK _ hk H1 locs1 ls hl hlo (jopt_ok hvo (fun x hx => hst x (by simp [hx]))) hw1)
              have e9 : ((as.reverse ++ t).map (jcv ρ)) = (as.map (jcv ρ)).reverse ++ t.map (jcv ρ) := by simp
              rw [e9]
              exact key
            · exact h.elim
          · exact h.elim
  case ireturn =>
    unfold jchk at hchk
    simp only [Bool.and_eq_true] at hchk
    have hln := Nat.eq_of_beq_eq_true hchk.2.1.1
    subst hln
    have hrz := Nat.eq_of_beq_eq_true hchk.2.1.2
    have hrz1 := Nat.le_of_ble_eq_true hchk.2.2
    subst hrz
    dsimp only [jstep] at h
    split at h
    · rename_i x
      split at h
      · exact (hret H locs ls pc (I, L) hw).1 x (Or.inl rfl) hd h
      · rename_i hne
        have h0 : rA ≠ 0 := hne
        exact (hret H locs ls pc (I, L) hw).1 x (Or.inr ⟨by omega, h.1⟩) hd h.2
    · exact h.elim
  case lreturn =>
    unfold jchk at hchk
    simp only [Bool.and_eq_true] at hchk
    have hln := Nat.eq_of_beq_eq_true hchk.2.1
    subst hln
    have hrz := Nat.eq_of_beq_eq_true hchk.2.2
    dsimp only [jstep] at h
    split at h
    · exact (hret H locs ls pc (I, L) hw).2.1 _ hrz hd h
    · exact h.elim
  case return_ =>
    unfold jchk at hchk
    simp only [Bool.and_eq_true] at hchk
    have hln := Nat.eq_of_beq_eq_true hchk.2.1
    subst hln
    have hrz := Nat.eq_of_beq_eq_true hchk.2.2
    dsimp only [jstep] at h
    split at h
    · exact (hret H locs ls pc (I, L) hw).2.2 hrz hd h
    · exact h.elim
end JT
