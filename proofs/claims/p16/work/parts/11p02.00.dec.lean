/-! printed by program: methods as functions, and that the partial machine comes to them -/
noncomputable abbrev jI : Type := Nat → Nat → Nat → Int32
noncomputable abbrev jL : Type := Nat → Nat → Nat → Int64
theorem obind {α β : Type} {o : Option α} {f : α → Option β} {b : β} (h : o.bind f = some b) : ∃ a, o = some a ∧ f a = some b := by
  cases o with
  | none => cases h
  | some a => exact ⟨a, rfl, h⟩
theorem jsw_cons {x : Int32} {K : Nat → Prop} {d : Nat} {c : Int32 × Nat} {t : List (Int32 × Nat)} (h1 : x = c.1 → K c.2) (h2 : ¬ x = c.1 → jsw x K d t) : jsw x K d (c :: t) := ⟨h1, h2⟩
theorem jsw_nil {x : Int32} {K : Nat → Prop} {d : Nat} (h : K d) : jsw x K d [] := h
/-- X3_take -/
noncomputable def d11 (a0 : Nat) (a1 : Nat) (I : jI) : jI :=
  (jcpy I 23 a1 23 a0 (Int32.toNatClampNeg 0) (Int32.toNatClampNeg 0) (Int32.toNatClampNeg 10))
set_option maxHeartbeats 4000000 in
set_option maxRecDepth 20000 in
theorem D11 {d : Nat} {k : jK} {a0 : Nat} {a1 : Nat} {I : jI} {L : jL} {r : jI} (h : d11 a0 a1 I = r) (hk : k none (r, L)) : jPM d 11 [.inr (7, a0), .inr (7, a1)] (I, L) k := by
  refine pM (fun d n => ?_)
  unfold d11 at h
  refine pn_go [] 400 ?_
  conv => whnf
  intro _
  conv => whnf
  subst h
  exact hk
/-- X1_takeStanding -/
noncomputable def d29 (a0 a1 : Nat) (I : jI) : jI := fun g i j => if i = a0 ∧ ((g = 4 ∧ 6 ≤ j ∧ j < 16) ∨ (18 ≤ g ∧ g < 22 ∧ j < 6) ∨ (g = 23 ∧ j < 10)) then I g a1 j else I g i j
noncomputable def cps (S : Nat → Nat → Prop) (a0 a1 : Nat) (I I' : jI) : Prop := (∀ g j, S g j → I' g a0 j = I g a1 j) ∧ ∀ g i j, ¬ (i = a0 ∧ S g j) → I' g i j = I g i j
theorem cps_src {S : Nat → Nat → Prop} {a0 a1 : Nat} {I I' : jI} (h : cps S a0 a1 I I') (g j : Nat) : I' g a1 j = I g a1 j := by
  by_cases q : a1 = a0 ∧ S g j
  · have := h.1 g j q.2
    rw [q.1] at this ⊢
    exact this
  · exact h.2 g a1 j q
theorem cps_arr {S : Nat → Nat → Prop} {a0 a1 : Nat} {I I' : jI} {g0 n sp dp : Nat} (h : cps S a0 a1 I I') (e1 : sp = 0) (e2 : dp = 0) : cps (fun g j => S g j ∨ (g = g0 ∧ j < n)) a0 a1 I (jcpy I' g0 a1 g0 a0 sp dp n) := by
  subst e1 e2
  refine ⟨fun g j s => ?_, fun g i j s => ?_⟩
  · unfold jcpy
    split
    · rename_i q
      rw [show 0 + (j - 0) = j by omega, q.1]
      exact cps_src h g0 j
    · rename_i q
      rcases s with s | s
      · exact h.1 g j s
      · exact absurd ⟨s.1, rfl, Nat.zero_le _, by omega⟩ q
  · unfold jcpy
    rw [if_neg (fun q => s ⟨q.2.1, Or.inr ⟨q.1, by omega⟩⟩)]
    exact h.2 g i j (fun q => s ⟨q.1, Or.inl q.2⟩)
theorem cps_fld {S : Nat → Nat → Prop} {a0 a1 : Nat} {I I' : jI} {f : Nat} (h : cps S a0 a1 I I') : cps (fun g j => S g j ∨ (g = 4 ∧ j = f)) a0 a1 I (jup I' 4 a0 f (I' 4 a1 f)) := by
  refine ⟨fun g j s => ?_, fun g i j s => ?_⟩
  · unfold jup
    split
    · rename_i q
      rw [q.1, q.2.2]
      exact cps_src h 4 f
    · rename_i q
      rcases s with s | s
      · exact h.1 g j s
      · exact absurd ⟨s.1, rfl, s.2⟩ q
  · unfold jup
    rw [if_neg (fun q => s ⟨q.2.1, Or.inr ⟨q.1, q.2.2⟩⟩)]
    exact h.2 g i j (fun q => s ⟨q.1, Or.inl q.2⟩)
set_option maxHeartbeats 4000000 in
set_option maxRecDepth 20000 in
theorem D29_0 {d n : Nat} {k : jK} {a0 a1 : Nat} {I J : jI} {L : jL} {S : Nat → Nat → Prop} (s : cps S a0 a1 I J) (hx : ∀ J, cps (fun g j => S g j ∨ (g = 18 ∧ j < 6)) a0 a1 I J → pn (jPM d) k none (jco 29) n (15, [some (.inr (4, a0)), some (.inr (4, a1))], [], J, L)) : pn (jPM d) k none (jco 29) n (0, [some (.inr (4, a0)), some (.inr (4, a1))], [], J, L) := by
  refine pn_go [15] 40 ?_
  conv => whnf
  intro _
  conv => whnf
  exact hx _ (cps_arr (g0 := 18) (n := 6) s rfl rfl)
set_option maxHeartbeats 4000000 in
set_option maxRecDepth 20000 in
theorem D29_15 {d n : Nat} {k : jK} {a0 a1 : Nat} {I J : jI} {L : jL} {S : Nat → Nat → Prop} (s : cps S a0 a1 I J) (hx : ∀ J, cps (fun g j => S g j ∨ (g = 19 ∧ j < 6)) a0 a1 I J → pn (jPM d) k none (jco 29) n (30, [some (.inr (4, a0)), some (.inr (4, a1))], [], J, L)) : pn (jPM d) k none (jco 29) n (15, [some (.inr (4, a0)), some (.inr (4, a1))], [], J, L) := by
  refine pn_go [30] 40 ?_
  conv => whnf
  intro _
  conv => whnf
  exact hx _ (cps_arr (g0 := 19) (n := 6) s rfl rfl)
set_option maxHeartbeats 4000000 in
set_option maxRecDepth 20000 in
theorem D29_30 {d n : Nat} {k : jK} {a0 a1 : Nat} {I J : jI} {L : jL} {S : Nat → Nat → Prop} (s : cps S a0 a1 I J) (hx : ∀ J, cps (fun g j => S g j ∨ (g = 20 ∧ j < 6)) a0 a1 I J → pn (jPM d) k none (jco 29) n (45, [some (.inr (4, a0)), some (.inr (4, a1))], [], J, L)) : pn (jPM d) k none (jco 29) n (30, [some (.inr (4, a0)), some (.inr (4, a1))], [], J, L) := by
  refine pn_go [45] 40 ?_
  conv => whnf
  intro _
  conv => whnf
  exact hx _ (cps_arr (g0 := 20) (n := 6) s rfl rfl)
set_option maxHeartbeats 4000000 in
set_option maxRecDepth 20000 in
theorem D29_45 {d n : Nat} {k : jK} {a0 a1 : Nat} {I J : jI} {L : jL} {S : Nat → Nat → Prop} (s : cps S a0 a1 I J) (hx : ∀ J, cps (fun g j => S g j ∨ (g = 21 ∧ j < 6)) a0 a1 I J → pn (jPM d) k none (jco 29) n (60, [some (.inr (4, a0)), some (.inr (4, a1))], [], J, L)) : pn (jPM d) k none (jco 29) n (45, [some (.inr (4, a0)), some (.inr (4, a1))], [], J, L) := by
  refine pn_go [60] 40 ?_
  conv => whnf
  intro _
  conv => whnf
  exact hx _ (cps_arr (g0 := 21) (n := 6) s rfl rfl)
set_option maxHeartbeats 4000000 in
set_option maxRecDepth 20000 in
theorem D29_60 {d n : Nat} {k : jK} {a0 a1 : Nat} {I J : jI} {L : jL} {S : Nat → Nat → Prop} (s : cps S a0 a1 I J) (hx : ∀ J, cps (fun g j => S g j ∨ (g = 23 ∧ j < 10)) a0 a1 I J → pn (jPM d) k none (jco 29) n (71, [some (.inr (4, a0)), some (.inr (4, a1))], [], J, L)) : pn (jPM d) k none (jco 29) n (60, [some (.inr (4, a0)), some (.inr (4, a1))], [], J, L) := by
  refine pn_go [71] 40 ?_
  conv => whnf
  refine D11 rfl ?_
  conv => whnf
  exact hx _ (cps_arr (g0 := 23) (n := 10) s rfl rfl)
set_option maxHeartbeats 4000000 in
set_option maxRecDepth 20000 in
theorem D29_71 {d n : Nat} {k : jK} {a0 a1 : Nat} {I J : jI} {L : jL} {S : Nat → Nat → Prop} (s : cps S a0 a1 I J) (hx : ∀ J, cps (fun g j => S g j ∨ (g = 4 ∧ j = 6)) a0 a1 I J → pn (jPM d) k none (jco 29) n (79, [some (.inr (4, a0)), some (.inr (4, a1))], [], J, L)) : pn (jPM d) k none (jco 29) n (71, [some (.inr (4, a0)), some (.inr (4, a1))], [], J, L) := by
  refine pn_go [79] 40 ?_
  conv => whnf
  exact hx _ (cps_fld s)
set_option maxHeartbeats 4000000 in
set_option maxRecDepth 20000 in
theorem D29_79 {d n : Nat} {k : jK} {a0 a1 : Nat} {I J : jI} {L : jL} {S : Nat → Nat → Prop} (s : cps S a0 a1 I J) (hx : ∀ J, cps (fun g j => S g j ∨ (g = 4 ∧ j = 7)) a0 a1 I J → pn (jPM d) k none (jco 29) n (87, [some (.inr (4, a0)), some (.inr (4, a1))], [], J, L)) : pn (jPM d) k none (jco 29) n (79, [some (.inr (4, a0)), some (.inr (4, a1))], [], J, L) := by
  refine pn_go [87] 40 ?_
  conv => whnf
  exact hx _ (cps_fld s)
set_option maxHeartbeats 4000000 in
set_option maxRecDepth 20000 in
theorem D29_87 {d n : Nat} {k : jK} {a0 a1 : Nat} {I J : jI} {L : jL} {S : Nat → Nat → Prop} (s : cps S a0 a1 I J) (hx : ∀ J, cps (fun g j => S g j ∨ (g = 4 ∧ j = 8)) a0 a1 I J → pn (jPM d) k none (jco 29) n (95, [some (.inr (4, a0)), some (.inr (4, a1))], [], J, L)) : pn (jPM d) k none (jco 29) n (87, [some (.inr (4, a0)), some (.inr (4, a1))], [], J, L) := by
  refine pn_go [95] 40 ?_
  conv => whnf
  exact hx _ (cps_fld s)
set_option maxHeartbeats 4000000 in
set_option maxRecDepth 20000 in
theorem D29_95 {d n : Nat} {k : jK} {a0 a1 : Nat} {I J : jI} {L : jL} {S : Nat → Nat → Prop} (s : cps S a0 a1 I J) (hx : ∀ J, cps (fun g j => S g j ∨ (g = 4 ∧ j = 9)) a0 a1 I J → pn (jPM d) k none (jco 29) n (103, [some (.inr (4, a0)), some (.inr (4, a1))], [], J, L)) : pn (jPM d) k none (jco 29) n (95, [some (.inr (4, a0)), some (.inr (4, a1))], [], J, L) := by
  refine pn_go [103] 40 ?_
  conv => whnf
  exact hx _ (cps_fld s)
set_option maxHeartbeats 4000000 in
set_option maxRecDepth 20000 in
theorem D29_103 {d n : Nat} {k : jK} {a0 a1 : Nat} {I J : jI} {L : jL} {S : Nat → Nat → Prop} (s : cps S a0 a1 I J) (hx : ∀ J, cps (fun g j => S g j ∨ (g = 4 ∧ j = 10)) a0 a1 I J → pn (jPM d) k none (jco 29) n (111, [some (.inr (4, a0)), some (.inr (4, a1))], [], J, L)) : pn (jPM d) k none (jco 29) n (103, [some (.inr (4, a0)), some (.inr (4, a1))], [], J, L) := by
  refine pn_go [111] 40 ?_
  conv => whnf
  exact hx _ (cps_fld s)
set_option maxHeartbeats 4000000 in
set_option maxRecDepth 20000 in
theorem D29_111 {d n : Nat} {k : jK} {a0 a1 : Nat} {I J : jI} {L : jL} {S : Nat → Nat → Prop} (s : cps S a0 a1 I J) (hx : ∀ J, cps (fun g j => S g j ∨ (g = 4 ∧ j = 11)) a0 a1 I J → pn (jPM d) k none (jco 29) n (119, [some (.inr (4, a0)), some (.inr (4, a1))], [], J, L)) : pn (jPM d) k none (jco 29) n (111, [some (.inr (4, a0)), some (.inr (4, a1))], [], J, L) := by
  refine pn_go [119] 40 ?_
  conv => whnf
  exact hx _ (cps_fld s)
set_option maxHeartbeats 4000000 in
set_option maxRecDepth 20000 in
theorem D29_119 {d n : Nat} {k : jK} {a0 a1 : Nat} {I J : jI} {L : jL} {S : Nat → Nat → Prop} (s : cps S a0 a1 I J) (hx : ∀ J, cps (fun g j => S g j ∨ (g = 4 ∧ j = 12)) a0 a1 I J → pn (jPM d) k none (jco 29) n (127, [some (.inr (4, a0)), some (.inr (4, a1))], [], J, L)) : pn (jPM d) k none (jco 29) n (119, [some (.inr (4, a0)), some (.inr (4, a1))], [], J, L) := by
  refine pn_go [127] 40 ?_
  conv => whnf
  exact hx _ (cps_fld s)
set_option maxHeartbeats 4000000 in
set_option maxRecDepth 20000 in
theorem D29_127 {d n : Nat} {k : jK} {a0 a1 : Nat} {I J : jI} {L : jL} {S : Nat → Nat → Prop} (s : cps S a0 a1 I J) (hx : ∀ J, cps (fun g j => S g j ∨ (g = 4 ∧ j = 13)) a0 a1 I J → pn (jPM d) k none (jco 29) n (135, [some (.inr (4, a0)), some (.inr (4, a1))], [], J, L)) : pn (jPM d) k none (jco 29) n (127, [some (.inr (4, a0)), some (.inr (4, a1))], [], J, L) := by
  refine pn_go [135] 40 ?_
  conv => whnf
  exact hx _ (cps_fld s)
set_option maxHeartbeats 4000000 in
set_option maxRecDepth 20000 in
theorem D29_135 {d n : Nat} {k : jK} {a0 a1 : Nat} {I J : jI} {L : jL} {S : Nat → Nat → Prop} (s : cps S a0 a1 I J) (hx : ∀ J, cps (fun g j => S g j ∨ (g = 4 ∧ j = 14)) a0 a1 I J → pn (jPM d) k none (jco 29) n (143, [some (.inr (4, a0)), some (.inr (4, a1))], [], J, L)) : pn (jPM d) k none (jco 29) n (135, [some (.inr (4, a0)), some (.inr (4, a1))], [], J, L) := by
  refine pn_go [143] 40 ?_
  conv => whnf
  intro _
  conv => whnf
  exact hx _ (cps_fld s)
set_option maxHeartbeats 4000000 in
set_option maxRecDepth 20000 in
theorem D29_143 {d n : Nat} {k : jK} {a0 a1 : Nat} {I J : jI} {L : jL} {S : Nat → Nat → Prop} (s : cps S a0 a1 I J) (hx : ∀ J, cps (fun g j => S g j ∨ (g = 4 ∧ j = 15)) a0 a1 I J → k none (J, L)) : pn (jPM d) k none (jco 29) n (143, [some (.inr (4, a0)), some (.inr (4, a1))], [], J, L) := by
  refine pn_go [] 40 ?_
  conv => whnf
  exact hx _ (cps_fld s)
theorem D29 {d : Nat} {k : jK} {a0 : Nat} {a1 : Nat} {I : jI} {L : jL} {r : jI} (h : d29 a0 a1 I = r) (hk : k none (r, L)) : jPM d 29 [.inr (4, a0), .inr (4, a1)] (I, L) k := by
  refine pM (fun d n => ?_)
  have s0 : cps (fun _ _ => False) a0 a1 I I := ⟨fun _ _ s => s.elim, fun _ _ _ _ => rfl⟩
  refine D29_0 s0 (fun J1 s1 => ?_)
  refine D29_15 s1 (fun J2 s2 => ?_)
  refine D29_30 s2 (fun J3 s3 => ?_)
  refine D29_45 s3 (fun J4 s4 => ?_)
  refine D29_60 s4 (fun J5 s5 => ?_)
  refine D29_71 s5 (fun J6 s6 => ?_)
  refine D29_79 s6 (fun J7 s7 => ?_)
  refine D29_87 s7 (fun J8 s8 => ?_)
  refine D29_95 s8 (fun J9 s9 => ?_)
  refine D29_103 s9 (fun J10 s10 => ?_)
  refine D29_111 s10 (fun J11 s11 => ?_)
  refine D29_119 s11 (fun J12 s12 => ?_)
  refine D29_127 s12 (fun J13 s13 => ?_)
  refine D29_135 s13 (fun J14 s14 => ?_)
  refine D29_143 s14 (fun J s => ?_)
  have e : J = r := by
    rw [← h]
    funext g i j
    unfold d29
    split
    · rename_i q
      rw [q.1]
      refine s.1 g j ?_
      have q := q.2
      clear s h hk
      rcases q with ⟨q1, q2, q3⟩ | ⟨q1, q2, q3⟩ | ⟨q1, q2⟩
      · subst q1
        have : j = 6 ∨ j = 7 ∨ j = 8 ∨ j = 9 ∨ j = 10 ∨ j = 11 ∨ j = 12 ∨ j = 13 ∨ j = 14 ∨ j = 15 := by omega
        rcases this with q | q | q | q | q | q | q | q | q | q <;> subst q <;> simp
      · have : g = 18 ∨ g = 19 ∨ g = 20 ∨ g = 21 := by omega
        rcases this with q | q | q | q <;> subst q <;> simp [q3]
      · subst q1; simp [q2]
    · rename_i q
      refine s.2 g i j (fun z => q ⟨z.1, ?_⟩)
      have z := z.2
      clear s h hk q
      rcases z with (((((((((((((((z | z) | z) | z) | z) | z) | z) | z) | z) | z) | z) | z) | z) | z) | z) | z)
      · exact z.elim
      all_goals (obtain ⟨z1, z2⟩ := z; subst z1; omega)
  rw [e]
  exact hk
