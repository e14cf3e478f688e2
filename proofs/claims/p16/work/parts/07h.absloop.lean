noncomputable def aVlt (n : Nat) : aV → Prop
  | .inl (.inl (.inl a)) => a.1 < n
  | .inl (.inl (.inr q)) => q.1.1 < n ∧ q.2.1 < n
  | .inl (.inr a) => a.1 < n
  | .inr a => a.2.1 < n
theorem gV_lt {v : Nat → Int} {n : Nat} : ∀ {a : aV} {x : jV}, gV v n a x → aVlt n a
  | .inl (.inl (.inl a)), .inl (.inl x), h => h.1
  | .inl (.inl (.inr q)), .inl (.inl x), h => ⟨h.1, h.2.1⟩
  | .inl (.inr a), .inl (.inr x), h => h.1
  | .inr a, .inr q, h => h.1
/-- back to an older valuation, for a value of older symbols -/
theorem gV_bk {v v' : Nat → Int} {n m : Nat} (hx : gX n v v') : ∀ {a : aV} {x : jV}, aVlt n a → gV v' m a x → gV v n a x
  | .inl (.inl (.inl a)), .inl (.inl x), h, q => ⟨h, by rw [← gX_vv hx h]; exact q.2⟩
  | .inl (.inl (.inr a)), .inl (.inl x), h, q => ⟨h.1, h.2, by rw [← gX_vv hx h.1, ← gX_vv hx h.2]; exact q.2.2⟩
  | .inl (.inr a), .inl (.inr x), h, q => ⟨h, by rw [← gX_vv hx h]; exact q.2⟩
  | .inr a, .inr x, h, q => ⟨h, q.2.1, by rw [← gX_vv hx h]; exact q.2.2⟩
theorem abl_ok {E : aE} {an : List (Nat × (Int × Int))} : ∀ (k : Nat) (hs xs : List (Option aV)), abl E an k hs xs = true → asz xs = asz hs ∧ ∀ j, (∀ a ∈ an, a.1 = k + j → j < asz hs → (∃ x b p, aget hs j = some (.inl (.inl (.inl x))) ∧ aget xs j = some (.inl (.inl (.inl b))) ∧ aiv E b = some p ∧ ain p a.2 = true) ∨ (∃ x b p, aget hs j = some (.inl (.inr x)) ∧ aget xs j = some (.inl (.inr b)) ∧ aiv E b = some p ∧ ain p a.2 = true)) ∧ ((∀ a ∈ an, a.1 ≠ k + j) → ∀ w, aget hs j = some w → aget xs j = some w)
  | k, [], [], _ => ⟨rfl, fun j => ⟨fun a _ _ hj => absurd hj (Nat.not_lt_zero _), fun _ w hw => by cases hw⟩⟩
  | k, [], x :: xs, h => by cases h
  | k, a :: hs, [], h => by cases h
  | k, a :: hs, x :: xs, h => by
    unfold abl at h
    rw [Bool.and_eq_true] at h
    obtain ⟨h1, h2⟩ := abl_ok (k + 1) hs xs h.2
    refine ⟨by show _ + 1 = _ + 1; rw [h1], fun j => ?_⟩
    match j with
    | 0 =>
      refine ⟨fun b hb hbk _ => ?_, fun hb w hw => ?_⟩
      · have h3 := h.1
        rw [Nat.add_zero] at hbk
        have hany : an.any (fun q => Nat.beq q.1 k) = true := List.any_eq_true.mpr ⟨b, hb, by rw [hbk]; exact Nat.beq_refl _⟩
        have hall : ∀ p : Int × Int, an.all (fun q => !(Nat.beq q.1 k) || ain p q.2) = true → ain p b.2 = true := fun p hp => by
          have := List.all_eq_true.mp hp b hb
          rw [hbk, Nat.beq_refl] at this
          simpa using this
        rw [hany] at h3
        dsimp only at h3
        split at h3
        · split at h3
          · rename_i p hp
            exact Or.inl ⟨_, _, p, rfl, rfl, hp, hall p h3⟩
          · cases h3
        · split at h3
          · rename_i p hp
            exact Or.inr ⟨_, _, p, rfl, rfl, hp, hall p h3⟩
          · cases h3
        · cases h3
      · have h3 := h.1
        rw [Nat.add_zero] at hb
        have hany : an.any (fun q => Nat.beq q.1 k) = false := by
          cases hq : an.any (fun q => Nat.beq q.1 k) with
          | false => rfl
          | true =>
            obtain ⟨q, hq1, hq2⟩ := List.any_eq_true.mp hq
            exact absurd (Nat.eq_of_beq_eq_true hq2) (hb q hq1)
        rw [hany] at h3
        have hw : a = some w := hw
        subst hw
        dsimp only at h3
        split at h3
        · rename_i w2
          rw [avq_eq h3]; rfl
        · cases h3
    | j + 1 =>
      have h4 := h2 j
      rw [show k + 1 + j = k + (j + 1) by omega] at h4
      refine ⟨fun b hb hbk hj => ?_, fun hb w hw => h4.2 hb w hw⟩
      exact h4.1 b hb hbk (by simp [asz] at hj; omega)
noncomputable def mlt (up : Bool) (a b : Int) : Prop := match up with
  | true => a < b
  | false => b < a
/-- what is known of a loop under way: back at its head, further on by what counts, all is well -/
noncomputable def aHy (gi : List aG) (W : List aR) (I0 : Nat → Nat → Nat → Int32) (L0 : Nat → Nat → Nat → Int64) (k0 : jK) (d : Nat) (cf : List jFr) (v : Nat → Int) (n : Nat) (e : aAc) : Prop :=
  ∃ (ve : Nat → Int) (E0 : aE) (ls0 : List (Option aV)) (ch0 : aH) (E1 : aE) (ls1 : List (Option aV)), e.2.2.1.length ≤ cf.length ∧ gX (alen e.2.2.2.1.1) ve v ∧ alen e.2.2.2.1.1 ≤ n ∧ gE ve E0 ∧ alen E0 ≤ alen e.2.2.2.1.1 ∧ agl E0 ls0 e.2.2.2.2.1.1 = some (E1, ls1) ∧ ((∀ k w, aget ls0 k = some w → aVlt (alen E0) w) ∧ ∀ q ∈ ch0, q.1.2.1.1 < alen E0 ∧ q.1.2.2.1 < alen E0 ∧ q.2.1 < alen E0) ∧
    (match e.2.2.2.2.1.2.1 with
      | .inl k => e.2.2.2.1 = (E1, ls1, [], akp e.2.2.2.2.1.2.2.2 ch0) ∧ aget ls1 k = some (.inl (.inl (.inl e.2.2.2.2.2))) ∧ e.2.2.2.2.2.1 < alen E1
      | .inr (g, i, j) => e.2.2.2.1 = (E1 ++ [agi g ((i : Int), (i : Int)) ((j : Int), (j : Int)) gi], ls1, [], ((g, (0, (i : Int)), (0, (j : Int))), (alen E1, 0)) :: akp e.2.2.2.2.1.2.2.2 ch0) ∧ e.2.2.2.2.2 = (alen E1, 0)) ∧
    ∀ (v' : Nat → Int) (jl' : List (Option jV)) (jt' : List jV) (I' : Nat → Nat → Nat → Int32) (L' : Nat → Nat → Nat → Int64), gX (alen E0) ve v' → gA gi W I0 L0 v' e.2.2.2.1 jl' jt' I' L' → mlt e.2.2.2.2.1.2.2.1 (vv ve e.2.2.2.2.2) (vv v' e.2.2.2.2.2) → jWB (jWPM (d + (cf.length - e.2.2.1.length))) (kont (d + (cf.length - e.2.2.1.length)) k0 (cf.drop (cf.length - e.2.2.1.length))) none (jco e.1) (e.2.1, jl', jt', I', L')
theorem aHy_x {gi : List aG} {W : List aR} {I0 : Nat → Nat → Nat → Int32} {L0 : Nat → Nat → Nat → Int64} {k0 : jK} {d : Nat} {cf : List jFr} {v v' : Nat → Int} {n n' : Nat} {e : aAc} (h : aHy gi W I0 L0 k0 d cf v n e) (hx : gX n v v') (hn : n ≤ n') : aHy gi W I0 L0 k0 d cf v' n' e := by
  obtain ⟨ve, E0, ls0, ch0, E1, ls1, h1, h2, h3, h4⟩ := h
  exact ⟨ve, E0, ls0, ch0, E1, ls1, h1, h2.tr hx h3, Nat.le_trans h3 hn, h4⟩
theorem aHy_in {gi : List aG} {W : List aR} {I0 : Nat → Nat → Nat → Int32} {L0 : Nat → Nat → Nat → Int64} {k0 : jK} {d : Nat} {cf : List jFr} {v : Nat → Int} {n : Nat} {e : aAc} {f : jFr} (h : aHy gi W I0 L0 k0 (d + 1) cf v n e) : aHy gi W I0 L0 k0 d (f :: cf) v n e := by
  obtain ⟨ve, E0, ls0, ch0, E1, ls1, h1, h2, h3, h4, h5, h6, h7, h8, h9⟩ := h
  refine ⟨ve, E0, ls0, ch0, E1, ls1, by simp; omega, h2, h3, h4, h5, h6, h7, h8, ?_⟩
  have e1 : d + ((f :: cf).length - e.2.2.1.length) = d + 1 + (cf.length - e.2.2.1.length) := by simp; omega
  have e2 : (f :: cf).drop ((f :: cf).length - e.2.2.1.length) = cf.drop (cf.length - e.2.2.1.length) := by
    rw [show (f :: cf).length - e.2.2.1.length = (cf.length - e.2.2.1.length) + 1 by simp; omega]
    rfl
  rw [e1, e2]
  exact h9
theorem aHy_out {gi : List aG} {W : List aR} {I0 : Nat → Nat → Nat → Int32} {L0 : Nat → Nat → Nat → Int64} {k0 : jK} {d : Nat} {cf : List jFr} {v : Nat → Int} {n : Nat} {e : aAc} {f : jFr} (h : aHy gi W I0 L0 k0 d (f :: cf) v n e) (hl : e.2.2.1.length ≤ cf.length) : aHy gi W I0 L0 k0 (d + 1) cf v n e := by
  obtain ⟨ve, E0, ls0, ch0, E1, ls1, h1, h2, h3, h4, h5, h6, h7, h8, h9⟩ := h
  refine ⟨ve, E0, ls0, ch0, E1, ls1, hl, h2, h3, h4, h5, h6, h7, h8, ?_⟩
  have e1 : d + ((f :: cf).length - e.2.2.1.length) = d + 1 + (cf.length - e.2.2.1.length) := by simp; omega
  have e2 : (f :: cf).drop ((f :: cf).length - e.2.2.1.length) = cf.drop (cf.length - e.2.2.1.length) := by
    rw [show (f :: cf).length - e.2.2.1.length = (cf.length - e.2.2.1.length) + 1 by simp; omega]
    rfl
  rw [e1, e2] at h9
  exact h9
theorem aact_ok {fr : List aFr} {m pc : Nat} : ∀ {ac : List aAc} {e : aAc}, aact fr m pc ac = some e → e ∈ ac ∧ e.1 = m ∧ e.2.1 = pc ∧ e.2.2.1.length = fr.length
  | [], _, h => by cases h
  | a :: t, e, h => by
    unfold aact at h
    split at h
    · rename_i hc
      cases h
      exact ⟨List.mem_cons_self, hc⟩
    · obtain ⟨h1, h2⟩ := aact_ok h
      exact ⟨List.mem_cons_of_mem _ h1, h2⟩
theorem ames_ok {up : Bool} {h c : aL} (q : ames up h c = true) : h.1 = c.1 ∧ mlt up h.2 c.2 := by
  unfold ames at q
  rw [Bool.and_eq_true] at q
  refine ⟨Nat.eq_of_beq_eq_true q.1, ?_⟩
  cases up
  · show c.2 < h.2
    exact of_decide_eq_true q.2
  · show h.2 < c.2
    exact of_decide_eq_true q.2
theorem akp_mem {K : List Nat} : ∀ {ch : aH} {e}, e ∈ akp K ch → e ∈ ch ∧ K.any (fun g => Nat.beq g e.1.1) = true
  | [], _, h => by cases h
  | a :: t, e, h => by
    unfold akp at h
    split at h
    · rename_i hc
      rcases List.mem_cons.mp h with rfl | h
      · exact ⟨List.mem_cons_self, hc⟩
      · exact ⟨List.mem_cons_of_mem _ (akp_mem h).1, (akp_mem h).2⟩
    · exact ⟨List.mem_cons_of_mem _ (akp_mem h).1, (akp_mem h).2⟩
theorem akp_in {K : List Nat} : ∀ {ch : aH} {e}, e ∈ ch → K.any (fun g => Nat.beq g e.1.1) = true → e ∈ akp K ch
  | [], _, h, _ => by cases h
  | a :: t, e, h, hk => by
    unfold akp
    rcases List.mem_cons.mp h with rfl | h
    · rw [if_pos hk]; exact List.mem_cons_self
    · split
      · exact List.mem_cons_of_mem _ (akp_in h hk)
      · exact akp_in h hk
/-- back at the head -/
theorem aback_ok {gi : List aG} {W : List aR} {I0 : Nat → Nat → Nat → Int32} {L0 : Nat → Nat → Nat → Int64} {k0 : jK} {d : Nat} {cf : List jFr} {v : Nat → Int} {e : aAc} {fr : List aFr} {A : aS} {jl : List (Option jV)} {jt : List jV} {I : Nat → Nat → Nat → Int32} {L : Nat → Nat → Nat → Int64} (hh : aHy gi W I0 L0 k0 d cf v (alen A.1) e) (hlen : e.2.2.1.length = fr.length) (hcf : cf.length = fr.length) (h : aback e fr A = true) (hA : gA gi W I0 L0 v A jl jt I L) : jWB (jWPM d) (kont d k0 cf) none (jco e.1) (e.2.1, jl, jt, I, L) := by
  obtain ⟨E, ls, st, ch⟩ := A
  obtain ⟨me, pe, fre, ⟨Eh, lsh, sth, chh⟩, an, μ⟩ := e
  obtain ⟨hE, hL, hS, hH, hG, hR⟩ := hA
  dsimp only at hE hL hS hH
  unfold aback at h
  dsimp only at h
  simp only [Bool.and_eq_true] at h
  obtain ⟨-, h2, ⟨h3, h3k⟩, h4⟩ := h
  have hst := asq_eq h2
  subst hst
  have hjt := gS_n hS
  subst hjt
  obtain ⟨ve, E0, ls0, ch0, E1, ls1, g1, g2, g3, g4, g5, g6, ⟨g7, g7k⟩, g8, g9⟩ := hh
  dsimp only at g1 g2 g3 g4 g5 g6 g7 g7k g8 g9 hlen ⊢
  obtain ⟨b1, b2⟩ := abl_ok 0 lsh ls h3
  obtain ⟨o1, o2, o3⟩ := agl_oth an.1 g6
  have hx0 : gX (alen E0) ve v := fun s hs => g2 s (Nat.lt_of_lt_of_le hs g5)
  have hlsh : lsh = ls1 := by
    revert g8
    cases an.2.1 with
    | inl k => intro g8; have := g8.1; cases this; rfl
    | inr q => obtain ⟨g, i, j⟩ := q; intro g8; have := g8.1; cases this; rfl
  subst hlsh
  -- the locals, once more made general
  have hbd : ∀ a ∈ an.1, aBd ls0 jl a := by
    intro a ha
    have hj := (b2 a.1).1 a ha (by omega)
    refine ⟨fun x hx => ?_, fun x hx => ?_⟩
    · obtain ⟨x1, hx1⟩ := (o3 a.1).1 ⟨x, hx⟩
      rcases hj (aget_lt hx1) with ⟨y, b, p, q1, q2, q3, q4⟩ | ⟨y, b, p, q1, q2, q3, q4⟩
      · obtain ⟨z, hz, hv⟩ := gL_get hL q2
        obtain ⟨z, rfl, -, hz2⟩ := gV_i hv
        have := aiv_ok hE q3
        exact ⟨z, hz, ain_ok q4 (by omega)⟩
      · rw [hx1] at q1; cases q1
    · obtain ⟨x1, hx1⟩ := (o3 a.1).2 ⟨x, hx⟩
      rcases hj (aget_lt hx1) with ⟨y, b, p, q1, q2, q3, q4⟩ | ⟨y, b, p, q1, q2, q3, q4⟩
      · rw [hx1] at q1; cases q1
      · obtain ⟨z, hz, hv⟩ := gL_get hL q2
        obtain ⟨z, rfl, -, hz2⟩ := gV_l hv
        have := aiv_ok hE q3
        exact ⟨z, hz, ain_ok q4 (by omega)⟩
  obtain ⟨v1, f1, f2, f3, f4, f5⟩ := agl_ok (jl := jl) g4 an.1 [] g6 hbd (fun k w _ hna hw => by
    have hw1 : aget lsh k = some w := by rw [o2 k hna]; exact hw
    have hw2 := (b2 k).2 (fun a ha => by rw [Nat.zero_add]; exact hna a ha) w hw1
    obtain ⟨y, hy, hv⟩ := gL_get hL hw2
    exact ⟨y, hy, gV_bk hx0 (g7 k w hw) hv⟩)
  have hL1 : gL v1 (alen E1) lsh jl := gL_of (by rw [gL_len hL, b1]) (fun k w hw => f5 k w List.not_mem_nil hw)
  -- what is kept of the heap
  have hkp : ∀ (vx : Nat → Int) (N : Nat), gX (alen E0) ve vx → alen E0 ≤ N → (∀ q ∈ akp an.2.2.2 ch0, q ∈ akp an.2.2.2 chh) → gH vx N (akp an.2.2.2 ch0) I := by
    intro vx N hvx hN hsub q hq
    obtain ⟨z1, z2, z3⟩ := g7k q (akp_mem hq).1
    refine ⟨⟨by omega, by omega, by omega⟩, fun i j hi hj => ?_⟩
    have hall := List.all_eq_true.mp h3k q (hsub q hq)
    split at hall
    · rename_i x hx
      have hxe := aeq_eq hall
      subst hxe
      have := (hH _ (ach_mem hx)).2 i j (by rw [hi, gX_vv hvx z1, gX_vv hx0 z1]) (by rw [hj, gX_vv hvx z2, gX_vv hx0 z2])
      dsimp only at this
      rw [this, gX_vv hvx z3, gX_vv hx0 z3]
    · cases hall
  have ecf : cf.length - fre.length = 0 := by omega
  rw [ecf, Nat.add_zero, List.drop_zero] at g9
  revert g8 h4 g9
  cases han : an.2.1 with
  | inl k =>
    intro h4 g9 g8
    obtain ⟨q1, q2, q3⟩ := g8
    cases q1
    dsimp only at h4
    split at h4
    · rename_i x hx
      obtain ⟨m1, m2⟩ := ames_ok h4
      refine g9 v1 jl [] I L f1 ⟨f2, hL1, trivial, hkp v1 _ f1 f3 (fun q hq => akp_in hq (akp_mem hq).2), hG, hR⟩ ?_
      obtain ⟨y, hy, hv⟩ := gL_get hL hx
      obtain ⟨y, rfl, -, hy2⟩ := gV_i hv
      obtain ⟨y', hy', hv'⟩ := gL_get hL1 q2
      obtain ⟨y', rfl, -, hy2'⟩ := gV_i hv'
      rw [hy] at hy'
      cases hy'
      have e1 : vv v1 μ = vv v x := by rw [← hy2', hy2]
      have e2 : vv v x = ve μ.1 + x.2 := by unfold vv; rw [← m1, g2 μ.1 q3]
      rw [e1, e2]
      revert m2
      cases an.2.2.1 with
      | true => intro m2; have m2 : μ.2 < x.2 := m2; show vv ve μ < _; unfold vv; omega
      | false => intro m2; have m2 : x.2 < μ.2 := m2; show _ < vv ve μ; unfold vv; omega
    · cases h4
  | inr q =>
    obtain ⟨g, i, j⟩ := q
    intro h4 g9 g8
    obtain ⟨q1, q2⟩ := g8
    cases q1
    subst q2
    dsimp only at h4
    split at h4
    · rename_i x hx
      obtain ⟨m1, m2⟩ := ames_ok h4
      have hcell := (hH _ (ach_mem hx)).2 i j (by unfold vv; rw [hE.1]; simp) (by unfold vv; rw [hE.1]; simp)
      dsimp only at hcell
      have hb := agi_ok (g := g) (i := i) (j := j) (p := ((i : Int), (i : Int))) (q := ((j : Int), (j : Int))) (I := I) (by simp) (by simp) gi hG
      have hxx : gX (alen E1) v1 (vup v1 (alen E1) (I g i j).toInt) := vup_x
      refine g9 (vup v1 (alen E1) (I g i j).toInt) jl [] I L (f1.tr hxx f3) ⟨gE_new f2 hb, ?_, trivial, ?_, hG, hR⟩ ?_
      · show gL _ (alen (E1 ++ [_])) lsh jl
        exact gL_x hxx (by rw [alen_app]; omega) hL1
      · show gH _ (alen (E1 ++ [_])) _ I
        intro e he
        rcases List.mem_cons.mp he with rfl | he
        rotate_left
        · exact hkp _ _ (f1.tr hxx f3) (by rw [alen_app]; omega) (fun q hq => akp_in (List.mem_cons_of_mem _ hq) (akp_mem hq).2) e he
        have hv0 : vup v1 (alen E1) (I g i j).toInt 0 = 0 := (gE_new f2 hb).1
        refine ⟨⟨?_, ?_, ?_⟩, fun i' j' hi' hj' => ?_⟩
        · rw [alen_app]; simp only; omega
        · rw [alen_app]; simp only; omega
        · rw [alen_app]; simp only; omega
        · unfold vv at hi' hj'
          dsimp only at hi' hj' ⊢
          rw [hv0] at hi' hj'
          have e1 : i' = i := by omega
          have e2 : j' = j := by omega
          rw [e1, e2]
          exact vup_n.symm
      · rw [vup_n, hcell]
        have e2 : vv v x = ve (alen E1) + x.2 := by
          unfold vv
          rw [← m1, g2 (alen E1) (by rw [alen_app]; omega)]
        rw [e2]
        revert m2
        cases an.2.2.1 with
        | true => intro m2; have m2 : 0 < x.2 := m2; show vv ve (alen E1, 0) < _; unfold vv; dsimp only; omega
        | false => intro m2; have m2 : x.2 < 0 := m2; show _ < vv ve (alen E1, 0); unfold vv; dsimp only; omega
    · cases h4
