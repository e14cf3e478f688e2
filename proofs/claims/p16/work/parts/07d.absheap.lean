theorem ain_ok {p q : Int × Int} {x : Int} (h : ain p q = true) (hp : p.1 ≤ x ∧ x ≤ p.2) : q.1 ≤ x ∧ x ≤ q.2 := by
  unfold ain at h
  simp only [Bool.and_eq_true, decide_eq_true_eq] at h
  omega
theorem aout_ok {p q : Int × Int} {x : Int} (h : aout p q = true) (hp : p.1 ≤ x ∧ x ≤ p.2) : ¬ (q.1 ≤ x ∧ x ≤ q.2) := by
  unfold aout at h
  simp only [Bool.or_eq_true, decide_eq_true_eq] at h
  omega
theorem agi_ok {g i j : Nat} {p q : Int × Int} {I : Nat → Nat → Nat → Int32} (hp : p.1 ≤ i ∧ (i : Int) ≤ p.2) (hq : q.1 ≤ j ∧ (j : Int) ≤ q.2) : ∀ (gi : List aG), gG gi I → (agi g p q gi).1 ≤ (I g i j).toInt ∧ (I g i j).toInt ≤ (agi g p q gi).2
  | [], _ => i32_rng _
  | e :: t, h => by
    unfold agi
    split
    · rename_i he
      obtain ⟨h1, h2, h3⟩ := he
      have a1 := ain_ok h2 hp
      have a2 := ain_ok h3 hq
      have := h e List.mem_cons_self i j a1.1 a1.2 a2.1 a2.2
      rw [h1] at this
      exact this
    · exact agi_ok hp hq t (fun e' he' => h e' (List.mem_cons_of_mem _ he'))
theorem ach_mem {g : Nat} {i j a : aL} : ∀ {ch : aH}, ach ch g i j = some a → ((g, i, j), a) ∈ ch
  | [], h => by cases h
  | e :: t, h => by
    unfold ach at h
    split at h
    · rename_i he
      cases h
      obtain ⟨h1, h2, h3⟩ := he
      have e2 := aeq_eq h2
      have e3 := aeq_eq h3
      obtain ⟨⟨g', i', j'⟩, a'⟩ := e
      simp only at h1 e2 e3
      subst h1; subst e2; subst e3
      exact List.mem_cons_self
    · exact List.mem_cons_of_mem _ (ach_mem h)
theorem ard_ok {v : Nat → Int} {E : aE} {gi : List aG} {g i j : Nat} {p q a : aL} {ch ch' : aH} {E' : aE} {I : Nat → Nat → Nat → Int32} (hE : gE v E) (hH : gH v (alen E) ch I) (hG : gG gi I) (hi : (i : Int) = vv v p) (hj : (j : Int) = vv v q) (h : ard gi g p q E ch = some (a, E', ch')) : ∃ v', gX (alen E) v v' ∧ gE v' E' ∧ alen E ≤ alen E' ∧ a.1 < alen E' ∧ (I g i j).toInt = vv v' a ∧ gH v' (alen E') ch' I := by
  unfold ard at h
  split at h
  · rename_i b hb
    cases h
    have hm := hH _ (ach_mem hb)
    exact ⟨v, gX.rf, hE, Nat.le_refl _, hm.1.2.2, hm.2 i j hi hj, hH⟩
  · split at h
    · rename_i P Q hp hq
      cases h
      have h1 := aiv_ok hE hp
      have h2 := aiv_ok hE hq
      have hb := agi_ok (g := g) (i := i) (j := j) (p := P) (q := Q) (I := I) (by omega) (by omega) gi hG
      have hx : gX (alen E) v (vup v (alen E) (I g i j).toInt) := vup_x
      refine ⟨vup v (alen E) (I g i j).toInt, hx, gE_new hE hb, by rw [alen_app]; omega, by rw [alen_app]; simp only; omega, vup_n.symm, ?_⟩
      intro e he
      rcases List.mem_cons.mp he with rfl | he
      · refine ⟨⟨?_, ?_, ?_⟩, fun i' j' hi' hj' => ?_⟩
        · rw [alen_app]; simp only; omega
        · rw [alen_app]; simp only; omega
        · rw [alen_app]; simp only; omega
        · simp only at hi' hj' ⊢
          rw [gX_vv hx h1.2.2] at hi'
          rw [gX_vv hx h2.2.2] at hj'
          have e1 : i' = i := by omega
          have e2 : j' = j := by omega
          rw [e1, e2]
          exact vup_n.symm
      · exact gH_x hx (by rw [alen_app]; omega) hH e he
    · cases h
theorem aww_ok {g i j : Nat} {p q : Int × Int} (hp : p.1 ≤ i ∧ (i : Int) ≤ p.2) (hq : q.1 ≤ j ∧ (j : Int) ≤ q.2) : ∀ (W : List aR), aww g p q W = true → gI W g i j
  | [], h => by cases h
  | e :: t, h => by
    unfold aww at h
    rw [Bool.or_eq_true] at h
    rcases h with h | h
    · split at h
      · rename_i he
        rw [Bool.and_eq_true] at h
        have a1 := ain_ok h.1 hp
        have a2 := ain_ok h.2 hq
        exact ⟨e, List.mem_cons_self, he, a1.1, a1.2, a2.1, a2.2⟩
      · cases h
    · obtain ⟨r, h1, h2⟩ := aww_ok hp hq t h
      exact ⟨r, List.mem_cons_of_mem _ h1, h2⟩
theorem awg_ok {g i j : Nat} {p q w : Int × Int} {x : Int} (hp : p.1 ≤ i ∧ (i : Int) ≤ p.2) (hq : q.1 ≤ j ∧ (j : Int) ≤ q.2) (hx : w.1 ≤ x ∧ x ≤ w.2) : ∀ (gi : List aG), awg g p q w gi = true → ∀ e ∈ gi, e.1 = g → e.2.1.1 ≤ i → (i : Int) ≤ e.2.1.2 → e.2.2.1.1 ≤ j → (j : Int) ≤ e.2.2.1.2 → e.2.2.2.1 ≤ x ∧ x ≤ e.2.2.2.2
  | [], _, e, he => by cases he
  | a :: t, h, e, he => by
    unfold awg at h
    rw [Bool.and_eq_true] at h
    intro h1 h2 h3 h4 h5
    rcases List.mem_cons.mp he with rfl | he
    · have h := h.1
      rw [if_pos h1] at h
      simp only [Bool.or_eq_true] at h
      rcases h with (h | h) | h
      · exact absurd ⟨h2, h3⟩ (aout_ok h hp)
      · exact absurd ⟨h4, h5⟩ (aout_ok h hq)
      · exact ain_ok h hx
    · exact awg_ok hp hq hx t h.2 e he h1 h2 h3 h4 h5
theorem akeep_mem {E : aE} {g : Nat} {i j : aL} : ∀ {ch : aH} {e}, e ∈ akeep E g i j ch → e ∈ ch ∧ ¬ (e.1.1 = g ∧ ¬ (e.1.2.2.1 = j.1 ∧ e.1.2.2.2 ≠ j.2) ∧ ¬ (e.1.2.1.1 = i.1 ∧ e.1.2.1.2 ≠ i.2) ∧ adj E e.1.2.2 j = false ∧ adj E e.1.2.1 i = false)
  | [], _, h => by cases h
  | a :: t, e, h => by
    unfold akeep at h
    split at h
    · obtain ⟨h1, h2⟩ := akeep_mem h
      exact ⟨List.mem_cons_of_mem _ h1, h2⟩
    · rename_i hc
      rcases List.mem_cons.mp h with rfl | h
      · exact ⟨List.mem_cons_self, hc⟩
      · obtain ⟨h1, h2⟩ := akeep_mem h
        exact ⟨List.mem_cons_of_mem _ h1, h2⟩
theorem adj_ok {v : Nat → Int} {E : aE} {a b : aL} (hE : gE v E) (h : vv v a = vv v b) : adj E a b = false := by
  cases hq : adj E a b with
  | false => rfl
  | true =>
    unfold adj at hq
    split at hq
    · rename_i p q hp hq1
      have h1 := aiv_ok hE hp
      have h2 := aiv_ok hE hq1
      have h3 := aout_ok hq ⟨h1.1, h1.2.1⟩
      rw [h] at h3
      exact absurd ⟨h2.1, h2.2.1⟩ h3
    · cases hq
theorem jup_eq {I : Nat → Nat → Nat → Int32} {g i j : Nat} {x : Int32} : jup I g i j x g i j = x := by unfold jup; simp
theorem jup_of {I : Nat → Nat → Nat → Int32} {g i j g' i' j' : Nat} {x : Int32} (h : ¬ (g' = g ∧ i' = i ∧ j' = j)) : jup I g i j x g' i' j' = I g' i' j' := by unfold jup; rw [if_neg h]
theorem jupL_of {I : Nat → Nat → Nat → Int64} {g i j g' i' j' : Nat} {x : Int64} (h : ¬ (g' = g ∧ i' = i ∧ j' = j)) : jupL I g i j x g' i' j' = I g' i' j' := by unfold jupL; rw [if_neg h]
theorem awrt_ok {v : Nat → Int} {E : aE} {gi : List aG} {W : List aR} {g i j : Nat} {p q a : aL} {ch ch' : aH} {x : Int32} {I I0 : Nat → Nat → Nat → Int32} {L L0 : Nat → Nat → Nat → Int64} (hE : gE v E) (hH : gH v (alen E) ch I) (hG : gG gi I) (hR : gR W I0 L0 I L) (hi : (i : Int) = vv v p) (hj : (j : Int) = vv v q) (hx : x.toInt = vv v a) (h : awrt gi W g p q a E ch = some ch') : gH v (alen E) ch' (jup I g i j x) ∧ gG gi (jup I g i j x) ∧ gR W I0 L0 (jup I g i j x) L := by
  unfold awrt at h
  split at h
  · rename_i P Q R hp hq hr
    split at h
    · rename_i hc
      cases h
      have h1 := aiv_ok hE hp
      have h2 := aiv_ok hE hq
      have h3 := aiv_ok hE hr
      refine ⟨?_, ?_, ?_⟩
      · intro e he
        rcases List.mem_cons.mp he with rfl | he
        · refine ⟨⟨h1.2.2, h2.2.2, h3.2.2⟩, fun i' j' hi' hj' => ?_⟩
          simp only at hi' hj' ⊢
          have e1 : i' = i := by omega
          have e2 : j' = j := by omega
          rw [e1, e2, jup_eq]
          exact hx
        · obtain ⟨k1, k2⟩ := akeep_mem he
          obtain ⟨k3, k4⟩ := hH e k1
          refine ⟨k3, fun i' j' hi' hj' => ?_⟩
          rw [jup_of]
          · exact k4 i' j' hi' hj'
          · rintro ⟨z1, z2, z3⟩
            subst z2; subst z3
            refine k2 ⟨z1, ?_, ?_, adj_ok hE (by rw [← hj', ← hj]), adj_ok hE (by rw [← hi', ← hi])⟩
            · rintro ⟨y1, y2⟩
              rw [hj] at hj'
              unfold vv at hj'
              rw [y1] at hj'
              omega
            · rintro ⟨y1, y2⟩
              rw [hi] at hi'
              unfold vv at hi'
              rw [y1] at hi'
              omega
      · intro e he i' j' a1 a2 a3 a4
        by_cases hc2 : e.1 = g ∧ i' = i ∧ j' = j
        · obtain ⟨b1, b2, b3⟩ := hc2
          have := awg_ok (g := g) (i := i) (j := j) (p := P) (q := Q) (w := R) (x := x.toInt) (by omega) (by omega) (by omega) gi hc.2 e he b1 (by rw [← b2]; exact a1) (by rw [← b2]; exact a2) (by rw [← b3]; exact a3) (by rw [← b3]; exact a4)
          rw [b1, b2, b3, jup_eq]
          exact this
        · rw [jup_of hc2]
          exact hG e he i' j' a1 a2 a3 a4
      · intro g' i' j' hn
        have hw := aww_ok (g := g) (i := i) (j := j) (p := P) (q := Q) (by omega) (by omega) W hc.1
        have hne : ¬ (g' = g ∧ i' = i ∧ j' = j) := by
          rintro ⟨z1, z2, z3⟩
          subst z1; subst z2; subst z3
          exact hn hw
        rw [jup_of hne]
        exact hR g' i' j' hn
    · cases h
  · cases h
theorem awrL_ok {v : Nat → Int} {E : aE} {W : List aR} {g i j : Nat} {p q : aL} {x : Int64} {I I0 : Nat → Nat → Nat → Int32} {L L0 : Nat → Nat → Nat → Int64} (hE : gE v E) (hR : gR W I0 L0 I L) (hi : (i : Int) = vv v p) (hj : (j : Int) = vv v q) (h : awrL W g p q E = true) : gR W I0 L0 I (jupL L g i j x) := by
  unfold awrL at h
  split at h
  · rename_i P Q hp hq
    have h1 := aiv_ok hE hp
    have h2 := aiv_ok hE hq
    intro g' i' j' hn
    have hw := aww_ok (g := g) (i := i) (j := j) (p := P) (q := Q) (by omega) (by omega) W h
    have hne : ¬ (g' = g ∧ i' = i ∧ j' = j) := by
      rintro ⟨z1, z2, z3⟩
      subst z1; subst z2; subst z3
      exact hn hw
    rw [jupL_of hne]
    exact hR g' i' j' hn
  · cases h
theorem adrop_mem {V : List aR} : ∀ {ch : aH} {e}, e ∈ adrop V ch → e ∈ ch ∧ ∀ r ∈ V, r.1 ≠ e.1.1
  | [], _, h => by cases h
  | a :: t, e, h => by
    unfold adrop at h
    split at h
    · obtain ⟨h1, h2⟩ := adrop_mem h
      exact ⟨List.mem_cons_of_mem _ h1, h2⟩
    · rename_i hc
      rcases List.mem_cons.mp h with rfl | h
      · refine ⟨List.mem_cons_self, fun r hr he => hc ?_⟩
        exact List.any_eq_true.mpr ⟨r, hr, by rw [he]; exact Nat.beq_refl _⟩
      · obtain ⟨h1, h2⟩ := adrop_mem h
        exact ⟨List.mem_cons_of_mem _ h1, h2⟩
/-- what was known of groups that weren't written stays known -/
theorem gH_drop {v : Nat → Int} {n : Nat} {V : List aR} {ch : aH} {I I' : Nat → Nat → Nat → Int32} {L L' : Nat → Nat → Nat → Int64} (hH : gH v n ch I) (hR : gR V I L I' L') : gH v n (adrop V ch) I' := by
  intro e he
  obtain ⟨h1, h2⟩ := adrop_mem he
  obtain ⟨h3, h4⟩ := hH e h1
  refine ⟨h3, fun i j hi hj => ?_⟩
  rw [(hR e.1.1 i j (fun ⟨r, hr, hg, _⟩ => h2 r hr hg)).1]
  exact h4 i j hi hj
theorem avin_ok {v : Nat → Int} {E : aE} {j : aL} {N : Nat} {x : Int32} (hE : gE v E) (hx : x.toInt = vv v j) (h : avin E j N = true) : vp_in x N ∧ (x.toNatClampNeg : Int) = vv v j := by
  unfold avin at h
  split at h
  · rename_i q hq
    have h1 := aiv_ok hE hq
    simp only [Bool.and_eq_true, decide_eq_true_eq] at h
    refine ⟨vp_in_iff.mpr (by omega), ?_⟩
    show ((x.toInt.toNat : Nat) : Int) = _
    omega
  · cases h
theorem abool_ok {v : Nat → Int} {E : aE} {a : aL} {x : Int32} (hE : gE v E) (hx : x.toInt = vv v a) (h : abool E a = true) : x = 0 ∨ x = 1 := by
  unfold abool at h
  split at h
  · rename_i q hq
    have h1 := aiv_ok hE hq
    simp only [Bool.and_eq_true, decide_eq_true_eq] at h
    rcases (show x.toInt = 0 ∨ x.toInt = 1 by omega) with h2 | h2
    · left; exact Int32.toInt_inj.mp (by rw [h2]; rfl)
    · right; exact Int32.toInt_inj.mp (by rw [h2]; rfl)
  · cases h
theorem copy_ok {v : Nat → Int} {n : Nat} {gi : List aG} {W : List aR} {g g' a b : Nat} {pm pn ps pd : Int × Int} {sp dp z : Nat} {ch : aH} {I I0 : Nat → Nat → Nat → Int32} {L L0 : Nat → Nat → Nat → Int64} (hH : gH v n ch I) (hG : gG gi I) (hR : gR W I0 L0 I L) (ha : pn.1 ≤ a ∧ (a : Int) ≤ pn.2) (hb : pm.1 ≤ b ∧ (b : Int) ≤ pm.2) (hs : ∀ c : Nat, c < z → ps.1 ≤ (sp : Int) + c ∧ (sp : Int) + c ≤ ps.2) (hd : ∀ c : Nat, c < z → pd.1 ≤ (dp : Int) + c ∧ (dp : Int) + c ≤ pd.2) (h1 : aww g' pm pd W = true) (h2 : awg g' pm pd (agi g pn ps gi) gi = true) :
    gH v n (adrop [(g', (0, 0), (0, 0))] ch) (jcpy I g a g' b sp dp z) ∧ gG gi (jcpy I g a g' b sp dp z) ∧ gR W I0 L0 (jcpy I g a g' b sp dp z) L := by
  refine ⟨?_, ?_, ?_⟩
  · intro e he
    obtain ⟨k1, k2⟩ := adrop_mem he
    obtain ⟨k3, k4⟩ := hH e k1
    refine ⟨k3, fun i j hi hj => ?_⟩
    unfold jcpy
    rw [if_neg]
    · exact k4 i j hi hj
    · rintro ⟨z1, -⟩
      exact k2 _ List.mem_cons_self z1.symm
  · intro e he i j a1 a2 a3 a4
    unfold jcpy
    split
    · rename_i hc
      obtain ⟨z1, z2, z3, z4⟩ := hc
      have hjd := hd (j - dp) (by omega)
      have hjs := hs (j - dp) (by omega)
      have hv := agi_ok (g := g) (i := a) (j := sp + (j - dp)) (p := pn) (q := ps) (I := I) ha (by push_cast; omega) gi hG
      exact awg_ok (g := g') (i := b) (j := j) (p := pm) (q := pd) hb (by omega) hv gi h2 e he z1 (by rw [← z2]; exact a1) (by rw [← z2]; exact a2) a3 a4
    · exact hG e he i j a1 a2 a3 a4
  · intro g2 i j hn
    refine ⟨?_, (hR g2 i j hn).2⟩
    unfold jcpy
    rw [if_neg]
    · exact (hR g2 i j hn).1
    · rintro ⟨z1, z2, z3, z4⟩
      have hjd := hd (j - dp) (by omega)
      refine hn ?_
      rw [z1, z2]
      exact aww_ok (g := g') (i := b) (j := j) (p := pm) (q := pd) hb (by omega) W h1
