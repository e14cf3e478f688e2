noncomputable def gA (gi : List aG) (W : List aR) (I0 : Nat → Nat → Nat → Int32) (L0 : Nat → Nat → Nat → Int64) (v : Nat → Int) (S : aS) (jl : List (Option jV)) (jt : List jV) (I : Nat → Nat → Nat → Int32) (L : Nat → Nat → Nat → Int64) : Prop :=
  gE v S.1 ∧ gL v (alen S.1) S.2.1 jl ∧ gS v (alen S.1) S.2.2.1 jt ∧ gH v (alen S.1) S.2.2.2 I ∧ gG gi I ∧ gR W I0 L0 I L
noncomputable def aKs (gi : List aG) (W : List aR) (I0 : Nat → Nat → Nat → Int32) (L0 : Nat → Nat → Nat → Int64) (v : Nat → Int) (E : aE) (l : List (Nat × aS)) (K : jX → Prop) : Prop := ∀ y ∈ l, ∀ (v' : Nat → Int) (jl' : List (Option jV)) (jt' : List jV) (I' : Nat → Nat → Nat → Int32) (L' : Nat → Nat → Nat → Int64), gX (alen E) v v' → alen E ≤ alen y.2.1 → gA gi W I0 L0 v' y.2 jl' jt' I' L' → K (y.1, jl', jt', I', L')
theorem gS_c {v : Nat → Int} {n : Nat} {a : aV} {s : List aV} {jt : List jV} (h : gS v n (a :: s) jt) : ∃ x t, jt = x :: t ∧ gV v n a x ∧ gS v n s t := by
  cases jt with
  | nil => exact False.elim h
  | cons x t => exact ⟨x, t, rfl, h.1, h.2⟩
theorem gS_n {v : Nat → Int} {n : Nat} {jt : List jV} (h : gS v n [] jt) : jt = [] := by
  cases jt with
  | nil => rfl
  | cons x t => exact False.elim h
theorem gV_i {v : Nat → Int} {n : Nat} {a : aL} {y : jV} (h : gV v n (.inl (.inl (.inl a))) y) : ∃ x : Int32, y = .inl (.inl x) ∧ a.1 < n ∧ x.toInt = vv v a := by
  rcases y with (x | x) | x
  · exact ⟨x, rfl, h.1, h.2⟩
  · exact False.elim h
  · exact False.elim h
theorem gV_ii {v : Nat → Int} {n : Nat} {a : aL ⊕ (aL × aL)} {y : jV} (h : gV v n (.inl (.inl a)) y) : ∃ x : Int32, y = .inl (.inl x) := by
  rcases y with (x | x) | x
  · exact ⟨x, rfl⟩
  · rcases a with a | a <;> exact False.elim h
  · rcases a with a | a <;> exact False.elim h
theorem gV_q {v : Nat → Int} {n : Nat} {a : aL × aL} {y : jV} (h : gV v n (.inl (.inl (.inr a))) y) : ∃ x : Int32, y = .inl (.inl x) ∧ x = cmpI (vv v a.1) (vv v a.2) := by
  rcases y with (x | x) | x
  · exact ⟨x, rfl, h.2.2⟩
  · exact False.elim h
  · exact False.elim h
theorem gV_l {v : Nat → Int} {n : Nat} {a : aL} {y : jV} (h : gV v n (.inl (.inr a)) y) : ∃ x : Int64, y = .inl (.inr x) ∧ a.1 < n ∧ x.toInt = vv v a := by
  rcases y with (x | x) | x
  · exact False.elim h
  · exact ⟨x, rfl, h.1, h.2⟩
  · exact False.elim h
theorem gV_r {v : Nat → Int} {n g : Nat} {a : aL} {y : jV} (h : gV v n (.inr (g, a)) y) : ∃ m : Nat, y = .inr (g, m) ∧ a.1 < n ∧ (m : Int) = vv v a := by
  rcases y with (x | x) | ⟨g', m⟩
  · exact False.elim h
  · exact False.elim h
  · obtain ⟨h1, h2, h3⟩ := h
    simp only at h2
    subst h2
    exact ⟨m, rfl, h1, h3⟩
theorem gL_get {v : Nat → Int} {n : Nat} : ∀ {a : List (Option aV)} {x : List (Option jV)} {k : Nat} {w : aV}, gL v n a x → aget a k = some w → ∃ y, jget x k = some y ∧ gV v n w y
  | [], _, _, _, _, h => by cases h
  | a :: s, [], _, _, h, _ => False.elim h
  | a :: s, x :: t, 0, w, h, hw => by
    obtain ⟨y, h1, h2⟩ := h.1 w hw
    exact ⟨y, h1, h2⟩
  | a :: s, x :: t, k + 1, w, h, hw => gL_get (k := k) h.2 hw
theorem gL_len {v : Nat → Int} {n : Nat} : ∀ {a : List (Option aV)} {x : List (Option jV)}, gL v n a x → jlen x = asz a
  | [], [], _ => rfl
  | a :: s, [], h => False.elim h
  | [], x :: t, h => False.elim h
  | a :: s, x :: t, h => by show _ + 1 = _ + 1; rw [gL_len h.2]
theorem gL_put {v : Nat → Int} {n : Nat} : ∀ {a : List (Option aV)} {x : List (Option jV)} (k : Nat) {w : Option aV} {y : Option jV}, gL v n a x → (∀ u, w = some u → ∃ z, y = some z ∧ gV v n u z) → gL v n (aput a k w) (jput x k y)
  | [], [], _, _, _, _, _ => trivial
  | a :: s, [], _, _, _, h, _ => False.elim h
  | [], x :: t, _, _, _, h, _ => False.elim h
  | a :: s, x :: t, 0, _, _, h, hw => ⟨hw, h.2⟩
  | a :: s, x :: t, k + 1, _, _, h, hw => ⟨h.1, gL_put k h.2 hw⟩
theorem gL_kill {v : Nat → Int} {n : Nat} : ∀ {a : List (Option aV)} {x : List (Option jV)} (k : Nat), gL v n a x → gL v n (akill a k) (jkill x k)
  | [], [], _, _ => trivial
  | a :: s, [], _, h => False.elim h
  | [], x :: t, _, h => False.elim h
  | a :: s, x :: t, 0, h => h
  | a :: s, x :: t, 1, h => by
    refine ⟨fun w hw => ?_, h.2⟩
    rcases a with _ | ((_ | _) | _)
    · cases hw
    · obtain ⟨y, h1, h2⟩ := h.1 _ rfl
      obtain ⟨z, rfl⟩ := gV_ii h2
      subst h1
      cases hw
      exact ⟨_, rfl, h2⟩
    · cases hw
    · rename_i q
      obtain ⟨q1, q2⟩ := q
      obtain ⟨y, h1, h2⟩ := h.1 _ rfl
      obtain ⟨z, rfl, -, -⟩ := gV_r h2
      subst h1
      cases hw
      exact ⟨_, rfl, h2⟩
  | a :: s, x :: t, k + 2, h => ⟨h.1, gL_kill (k + 1) h.2⟩
section AST
variable {gi : List aG} {W : List aR} {I0 : Nat → Nat → Nat → Int32} {L0 : Nat → Nat → Nat → Int64} {v : Nat → Int} {E : aE} {ls : List (Option aV)} {ch : aH} {jl : List (Option jV)} {jt : List jV} {I : Nat → Nat → Nat → Int32} {L : Nat → Nat → Nat → Int64} {l : List (Nat × aS)} {K : jX → Prop} {np rA : Nat}
theorem apush_ok {t : List aV} {o : Option (aL × aE)} {z : Int32} (hL : gL v (alen E) ls jl) (hS : gS v (alen E) t jt) (hH : gH v (alen E) ch I) (hG : gG gi I) (hR : gR W I0 L0 I L) (h : apush np ls t ch o = some l) (hN : ∀ r, o = some r → gN v E z.toInt r) (hK : aKs gi W I0 L0 v E l K) : K (np, jl, .inl (.inl z) :: jt, I, L) := by
  unfold apush at h
  split at h
  · rename_i a E' 
    cases h
    obtain ⟨v', h1, h2, h3, h4, h5⟩ := hN _ rfl
    exact hK _ (List.mem_singleton.mpr rfl) v' jl _ I L h1 h3 ⟨h2, gL_x h1 h3 hL, ⟨⟨h4, h5.symm⟩, gS_x h1 h3 hS⟩, gH_x h1 h3 hH, hG, hR⟩
  · cases h
theorem apushL_ok {t : List aV} {o : Option (aL × aE)} {z : Int64} (hL : gL v (alen E) ls jl) (hS : gS v (alen E) t jt) (hH : gH v (alen E) ch I) (hG : gG gi I) (hR : gR W I0 L0 I L) (h : apushL np ls t ch o = some l) (hN : ∀ r, o = some r → gN v E z.toInt r) (hK : aKs gi W I0 L0 v E l K) : K (np, jl, .inl (.inr z) :: jt, I, L) := by
  unfold apushL at h
  split at h
  · rename_i a E' 
    cases h
    obtain ⟨v', h1, h2, h3, h4, h5⟩ := hN _ rfl
    exact hK _ (List.mem_singleton.mpr rfl) v' jl _ I L h1 h3 ⟨h2, gL_x h1 h3 hL, ⟨⟨h4, h5.symm⟩, gS_x h1 h3 hS⟩, gH_x h1 h3 hH, hG, hR⟩
  · cases h
theorem asto_ok {t : List aV} {w : aV} {y : jV} (hE : gE v E) (hL : gL v (alen E) ls jl) (hS : gS v (alen E) t jt) (hH : gH v (alen E) ch I) (hG : gG gi I) (hR : gR W I0 L0 I L) (hw : gV v (alen E) w y) (h : asto np rA E ls t ch w = some l) (hK : aKs gi W I0 L0 v E l K) : Nat.blt rA (jlen jl) = true ∧ K (np, jset1 jl rA y, jt, I, L) := by
  unfold asto at h
  split at h
  · rename_i hb
    cases h
    refine ⟨by rw [gL_len hL]; exact hb, ?_⟩
    exact hK _ (List.mem_singleton.mpr rfl) v _ jt I L gX.rf (Nat.le_refl _) ⟨hE, gL_put rA (gL_kill rA hL) (fun u hu => by cases hu; exact ⟨y, rfl, hw⟩), hS, hH, hG, hR⟩
  · cases h
theorem aif_ok {op : Nat} {a b : aL} {t : List aV} (hE : gE v E) (hL : gL v (alen E) ls jl) (hS : gS v (alen E) t jt) (hH : gH v (alen E) ch I) (hG : gG gi I) (hR : gR W I0 L0 I L) (h : aif op np rA a b E ls t ch = some l) (hK : aKs gi W I0 L0 v E l K) : (hop op (vv v a) (vv v b) → K (rA, jl, jt, I, L)) ∧ (¬ hop op (vv v a) (vv v b) → K (np, jl, jt, I, L)) := by
  unfold aif at h
  cases h
  refine ⟨fun hc => ?_, fun hc => ?_⟩
  · obtain ⟨E', e1, e2, e3⟩ := aas_ok op hE hc
    refine hK (rA, E', ls, t, ch) (by rw [e1]; simp) v jl jt I L gX.rf (by simp only; omega) ⟨e2, ?_, ?_, ?_, hG, hR⟩
    · simp only; rw [e3]; exact hL
    · simp only; rw [e3]; exact hS
    · simp only; rw [e3]; exact hH
  · obtain ⟨E', e1, e2, e3⟩ := aas_ok (ang op) hE (hop_ng op _ _ hc)
    refine hK (np, E', ls, t, ch) (by rw [e1]; simp) v jl jt I L gX.rf (by simp only; omega) ⟨e2, ?_, ?_, ?_, hG, hR⟩
    · simp only; rw [e3]; exact hL
    · simp only; rw [e3]; exact hS
    · simp only; rw [e3]; exact hH
theorem asw_ok {a : aL} {d : Nat} {t : List aV} {x : Int32} (hL : gL v (alen E) ls jl) (hS : gS v (alen E) t jt) (hH : gH v (alen E) ch I) (hG : gG gi I) (hR : gR W I0 L0 I L) (hx : x.toInt = vv v a) : ∀ (r : List (Int32 × Nat)) (E1 : aE), gE v E1 → alen E1 = alen E → aKs gi W I0 L0 v E (asw a d ls t ch r E1) K → jsw x (fun q => K (q, jl, jt, I, L)) d r
  | [], E1, hE1, h1, hK => hK _ (List.mem_singleton.mpr rfl) v jl jt I L gX.rf (by simp only; omega) ⟨hE1, by simp only; rw [h1]; exact hL, by simp only; rw [h1]; exact hS, by simp only; rw [h1]; exact hH, hG, hR⟩
  | c :: r, E1, hE1, h1, hK => by
    have hv : vv v (0, c.1.toInt) = c.1.toInt := by unfold vv; rw [hE1.1]; simp
    refine ⟨fun hc => ?_, fun hc => ?_⟩
    · obtain ⟨E', e1, e2, e3⟩ := aas_ok (a := a) (b := (0, c.1.toInt)) 0 hE1 (by show _ = _; rw [hv, ← hx, hc])
      refine hK (c.2, E', ls, t, ch) (by unfold asw; rw [e1]; simp) v jl jt I L gX.rf (by simp only; omega) ⟨e2, ?_, ?_, ?_, hG, hR⟩
      · simp only; rw [e3, h1]; exact hL
      · simp only; rw [e3, h1]; exact hS
      · simp only; rw [e3, h1]; exact hH
    · obtain ⟨E', e1, e2, e3⟩ := aas_ok (a := a) (b := (0, c.1.toInt)) 1 hE1 (by show ¬ _ = _; rw [hv, ← hx]; exact fun e => hc (Int32.toInt_inj.mp e))
      refine asw_ok hL hS hH hG hR hx r E' e2 (e3.trans h1) (fun y hy => hK y ?_)
      unfold asw
      rw [e1]
      exact List.mem_append_right _ hy
/-- compares -/
theorem hop_i (c : Jvm.ClassFile.Cond) (x y : Int32) : hop (acn c) x.toInt y.toInt ↔ (match c with | .eq => x = y | .ne => ¬ x = y | .lt => x < y | .ge => y ≤ x | .gt => y < x | .le => x ≤ y) := by
  cases c
  · exact Int32.toInt_inj
  · exact not_congr Int32.toInt_inj
  · exact Int32.lt_iff_toInt_lt.symm
  · exact Int32.le_iff_toInt_le.symm
  · exact Int32.lt_iff_toInt_lt.symm
  · exact Int32.le_iff_toInt_le.symm
theorem hop_q (c : Jvm.ClassFile.Cond) (a b : Int) : hop (acn c) a b ↔ (match c with | .eq => cmpI a b = 0 | .ne => ¬ cmpI a b = 0 | .lt => cmpI a b < 0 | .ge => 0 ≤ cmpI a b | .gt => 0 < cmpI a b | .le => cmpI a b ≤ 0) := by
  rcases Int.lt_trichotomy a b with h | h | h
  · have e : cmpI a b = -1 := by unfold cmpI; rw [if_neg (by omega), if_neg (by omega)]
    rw [e]
    cases c
    · show a = b ↔ _; exact ⟨fun q => by omega, fun q => absurd q (by decide)⟩
    · show ¬ a = b ↔ _; exact ⟨fun _ => by decide, fun _ => by omega⟩
    · show a < b ↔ _; exact ⟨fun _ => by decide, fun _ => h⟩
    · show b ≤ a ↔ _; exact ⟨fun q => by omega, fun q => absurd q (by decide)⟩
    · show b < a ↔ _; exact ⟨fun q => by omega, fun q => absurd q (by decide)⟩
    · show a ≤ b ↔ _; exact ⟨fun _ => by decide, fun _ => by omega⟩
  · have e : cmpI a b = 0 := by unfold cmpI; rw [if_neg (by omega), if_pos h]
    rw [e]
    cases c
    · show a = b ↔ _; exact ⟨fun _ => rfl, fun _ => h⟩
    · show ¬ a = b ↔ _; exact ⟨fun q => absurd h q, fun q => absurd rfl q⟩
    · show a < b ↔ _; exact ⟨fun q => by omega, fun q => absurd q (by decide)⟩
    · show b ≤ a ↔ _; exact ⟨fun _ => by decide, fun _ => by omega⟩
    · show b < a ↔ _; exact ⟨fun q => by omega, fun q => absurd q (by decide)⟩
    · show a ≤ b ↔ _; exact ⟨fun _ => by decide, fun _ => by omega⟩
  · have e : cmpI a b = 1 := by unfold cmpI; rw [if_pos (by omega)]
    rw [e]
    cases c
    · show a = b ↔ _; exact ⟨fun q => by omega, fun q => absurd q (by decide)⟩
    · show ¬ a = b ↔ _; exact ⟨fun _ => by decide, fun _ => by omega⟩
    · show a < b ↔ _; exact ⟨fun q => by omega, fun q => absurd q (by decide)⟩
    · show b ≤ a ↔ _; exact ⟨fun _ => by decide, fun _ => by omega⟩
    · show b < a ↔ _; exact ⟨fun _ => by decide, fun _ => by omega⟩
    · show a ≤ b ↔ _; exact ⟨fun q => by omega, fun q => absurd q (by decide)⟩
theorem cmp_lg (x y : Int64) : lg_cmp x y = cmpI x.toInt y.toInt := by
  unfold lg_cmp cmpI
  simp only [gt_iff_lt, Int64.lt_iff_toInt_lt, ← Int64.toInt_inj]
end AST

