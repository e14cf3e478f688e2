section
/-! the calls that change houses, as the law makes them -/
noncomputable def cdC : List Nat := [6, 18, 19, 20, 21, 22, 23, 5006, 5007, 5008, 5009, 5010, 5011, 5012, 5013, 5014, 5015]
noncomputable def cdM : List Nat := [32, 33, 34, 32001, 32002, 32003]
theorem cd_C {g i j : Nat} (h : gI rdC g i j) : jcd g j ∈ cdC := by
  obtain ⟨r, hr, e, -, -, a3, a4⟩ := h
  simp only [rdC, List.mem_cons, List.not_mem_nil, or_false] at hr
  rcases hr with rfl | rfl | rfl | rfl | rfl | rfl | rfl | rfl | rfl <;> cases e
  · have : j = 6 ∨ j = 7 ∨ j = 8 ∨ j = 9 ∨ j = 10 ∨ j = 11 ∨ j = 12 ∨ j = 13 ∨ j = 14 ∨ j = 15 := by simp at a3 a4; omega
    rcases this with rfl | rfl | rfl | rfl | rfl | rfl | rfl | rfl | rfl | rfl <;> decide
  · have : j = 9 ∨ j = 10 ∨ j = 11 ∨ j = 12 ∨ j = 13 ∨ j = 14 ∨ j = 15 := by simp at a3 a4; omega
    rcases this with rfl | rfl | rfl | rfl | rfl | rfl | rfl <;> decide
  all_goals simp [jcd, cdC]
theorem cd_M {g i j : Nat} (h : gI rdM g i j) : jcd g j ∈ cdM := by
  obtain ⟨r, hr, e, -, -, a3, a4⟩ := h
  simp only [rdM, List.mem_cons, List.not_mem_nil, or_false] at hr
  rcases hr with rfl | rfl | rfl | rfl <;> cases e
  · have : j = 1 ∨ j = 2 ∨ j = 3 := by simp at a3 a4; omega
    rcases this with rfl | rfl | rfl <;> decide
  all_goals simp [jcd, cdM]
theorem cd_no {A W : List Nat} (hw : A.all (fun c => !(jel c W)) = true) {c : Nat} (hc : c ∈ A) : jel c W = false := by
  have := List.all_eq_true.mp hw c hc
  cases e : jel c W with
  | false => rfl
  | true => rw [e] at this; cases this
theorem RD_frM {W : List Nat} {I J J' : jI} (hG : gG aGI I) (q : RD2 I J) (f : fr W J J') (hw : cdM.all (fun c => !(jel c W)) = true) : RD2 I J' := RD_cells hG q (fun _ _ _ _ => rfl) (fun g i j z => f g i j (cd_no hw (cd_M z)))
theorem RD_frC {W : List Nat} {I I' J : jI} (hG : gG aGI I) (q : RD2 I J) (f : fr W I I') (hw : cdC.all (fun c => !(jel c W)) = true) : RD2 I' J := RD_cells hG q (fun g i j z => f g i j (cd_no hw (cd_C z))) (fun _ _ _ _ => rfl)
theorem RD_fr {W : List Nat} {I I' : jI} (hG : gG aGI I) (q : RD2 I I) (f : fr W I I') (hw : (cdC ++ cdM).all (fun c => !(jel c W)) = true) : RD2 I' I' := RD_cells hG q (fun g i j z => f g i j (cd_no hw (List.mem_append_left _ (cd_C z)))) (fun g i j z => f g i j (cd_no hw (List.mem_append_right _ (cd_M z))))
theorem pKR {m : Nat} {c : aK} (h : aKP aGI m c) {d : Nat} {as : List jV} {I : jI} {L : jL} (has : aAs c.1 as) (hG : gG aGI I) : jPM d m as (I, L) (fun _ σ => gR c.2.2.1 I L σ.1 σ.2) := pK h has hG (fun _ _ _ _ r _ => r)
noncomputable def rtW : List aR := [(16, (0, 0), (0, 3)), (30, (0, 3), (0, 59)), (37, (0, 0), (0, 3)), (38, (0, 0), (0, 239))]
theorem RT_gR {W : List aR} {I I' : jI} {L L' : jL} (hw : rApart W rtW = true) (q : RT I) (h : gR W I L I' L') : RT I' := by
  have key : ∀ g i j, gI rtW g i j → I' g i j = I g i j := fun g i j z => (h g i j (rApart_of hw z)).1
  refine ⟨fun t ht => ?_, fun t j ht hj => ?_⟩
  · rw [key 37 0 t ⟨(37, (0, 0), (0, 3)), by decide, rfl, by simp, by simp, by simp, by simp; omega⟩, key 16 0 t ⟨(16, (0, 0), (0, 3)), by decide, rfl, by simp, by simp, by simp, by simp; omega⟩]
    exact q.1 t ht
  · rw [key 38 0 (60 * t + j) ⟨(38, (0, 0), (0, 239)), by decide, rfl, by simp, by simp, by simp; omega, by simp; omega⟩, key 30 t j ⟨(30, (0, 3), (0, 59)), by decide, rfl, by simp, by simp; omega, by simp, by simp; omega⟩]
    exact q.2 t j ht hj
theorem Pq81 {d : Nat} {a1 : Int32} {a2 : Int32} {I : jI} {L : jL} (hG : gG aGI I) (hJ : jJ I) (q : RD2 I I) : jPM d 81 [.inr (0, 0), .inl (.inl a1), .inl (.inl a2)] (I, L) (fun v σ => (∃ r, d81 a1 a2 I = some r ∧ v = some (.inl (.inl r.1)) ∧ σ.1 = r.2) ∧ fr [19, 20, 22, 23, 5009, 5010, 5011, 5012, 5013, 5014, 5015] I σ.1) := by
  obtain ⟨r, r', e, -⟩ := buy_eq a1 a2 hG q
  exact jPM_and (D81 e ⟨r, e, rfl, rfl⟩) (Fx81 (fun _ I' L' f => f))
theorem Pq166 {d : Nat} {a1 : Int32} {a2 : Int32} {I I1 : jI} {L : jL} (hG : gG aGI I) (g1 : gG aGI I1) (hJ : jJ I) (q : RD2 I I) (f : fr [19, 20, 22, 23, 5009, 5010, 5011, 5012, 5013, 5014, 5015] I I1) : jPM d 166 [.inr (31, 0), .inl (.inl a1), .inl (.inl a2)] (I1, L) (fun v σ => (∃ r, d166 a1 a2 I1 = some r ∧ v = some (.inl (.inl r.1)) ∧ σ.1 = r.2) ∧ fr [32] I1 σ.1) := by
  obtain ⟨r, r', -, e, -⟩ := buy_eq a1 a2 hG (RD_frM hG q f rfl)
  exact jPM_and (D166 e ⟨r', e, rfl, rfl⟩) (Fx166 (fun _ I' L' f => f))
theorem Qq81 {a1 : Int32} {a2 : Int32} {x1 x2 : Int32} {I I1 I2 : jI} (hG : gG aGI I) (g1 : gG aGI I1) (hJ : jJ I) (q : RD2 I I) (q1 : (∃ r, d81 a1 a2 I = some r ∧ (some (.inl (.inl x1)) : Option jV) = some (.inl (.inl r.1)) ∧ I1 = r.2) ∧ fr [19, 20, 22, 23, 5009, 5010, 5011, 5012, 5013, 5014, 5015] I I1) (q2 : (∃ r, d166 a1 a2 I1 = some r ∧ (some (.inl (.inl x2)) : Option jV) = some (.inl (.inl r.1)) ∧ I2 = r.2) ∧ fr [32] I1 I2) : x1 = x2 ∧ RD2 I2 I2 := by
  obtain ⟨⟨s, c1, c2, c3⟩, f⟩ := q1
  obtain ⟨r, r', e, e', k, z⟩ := buy_eq a1 a2 hG (RD_frM hG q f rfl)
  obtain ⟨⟨s', b1, b2, b3⟩, f2⟩ := q2
  rw [e] at c1
  rw [e'] at b1
  cases c1
  cases b1
  cases c2
  cases b2
  rw [← b3] at z
  rw [← c3] at z
  exact ⟨k, RD_frC g1 z f2 rfl⟩
theorem Pq82 {d : Nat} {I : jI} {L : jL} (hG : gG aGI I) (hJ : jJ I) (q : RD2 I I) : jPM d 82 [.inr (0, 0)] (I, L) (fun v σ => (∃ r, d82 I = some r ∧ v = some (.inl (.inl r.1)) ∧ σ.1 = r.2) ∧ fr [19, 20, 22, 23, 5009, 5010, 5011, 5012, 5013, 5014, 5015] I σ.1) := by
  obtain ⟨r, r', e, -⟩ := week_eq hG q
  exact jPM_and (D82 e ⟨r, e, rfl, rfl⟩) (Fx82 (fun _ I' L' f => f))
theorem Pq168 {d : Nat} {I I1 : jI} {L : jL} (hG : gG aGI I) (g1 : gG aGI I1) (hJ : jJ I) (q : RD2 I I) (f : fr [19, 20, 22, 23, 5009, 5010, 5011, 5012, 5013, 5014, 5015] I I1) : jPM d 168 [.inr (31, 0)] (I1, L) (fun v σ => (∃ r, d168 I1 = some r ∧ v = some (.inl (.inl r.1)) ∧ σ.1 = r.2) ∧ fr [32] I1 σ.1) := by
  obtain ⟨r, r', -, e, -⟩ := week_eq hG (RD_frM hG q f rfl)
  exact jPM_and (D168 e ⟨r', e, rfl, rfl⟩) (Fx168 (fun _ I' L' f => f))
theorem Qq82 {x1 x2 : Int32} {I I1 I2 : jI} (hG : gG aGI I) (g1 : gG aGI I1) (hJ : jJ I) (q : RD2 I I) (q1 : (∃ r, d82 I = some r ∧ (some (.inl (.inl x1)) : Option jV) = some (.inl (.inl r.1)) ∧ I1 = r.2) ∧ fr [19, 20, 22, 23, 5009, 5010, 5011, 5012, 5013, 5014, 5015] I I1) (q2 : (∃ r, d168 I1 = some r ∧ (some (.inl (.inl x2)) : Option jV) = some (.inl (.inl r.1)) ∧ I2 = r.2) ∧ fr [32] I1 I2) : x1 = x2 ∧ RD2 I2 I2 := by
  obtain ⟨⟨s, c1, c2, c3⟩, f⟩ := q1
  obtain ⟨r, r', e, e', k, z⟩ := week_eq hG (RD_frM hG q f rfl)
  obtain ⟨⟨s', b1, b2, b3⟩, f2⟩ := q2
  rw [e] at c1
  rw [e'] at b1
  cases c1
  cases b1
  cases c2
  cases b2
  rw [← b3] at z
  rw [← c3] at z
  exact ⟨k, RD_frC g1 z f2 rfl⟩
theorem Pq83 {d : Nat} {a1 : Int32} {I : jI} {L : jL} (hG : gG aGI I) (hJ : jJ I) (q : RD2 I I) : jPM d 83 [.inr (0, 0), .inl (.inl a1)] (I, L) (fun v σ => (∃ r, d83 a1 I = some r ∧ v = some (.inl (.inl r.1)) ∧ σ.1 = r.2) ∧ fr [19, 20, 22, 23, 5009, 5010, 5011, 5012, 5013, 5014, 5015] I σ.1) := by
  obtain ⟨r, r', e, -⟩ := shrink_eq a1 hG q
  exact jPM_and (D83 e ⟨r, e, rfl, rfl⟩) (Fx83 (fun _ I' L' f => f))
theorem Pq169 {d : Nat} {a1 : Int32} {I I1 : jI} {L : jL} (hG : gG aGI I) (g1 : gG aGI I1) (hJ : jJ I) (q : RD2 I I) (f : fr [19, 20, 22, 23, 5009, 5010, 5011, 5012, 5013, 5014, 5015] I I1) : jPM d 169 [.inr (31, 0), .inl (.inl a1)] (I1, L) (fun v σ => (∃ r, d169 a1 I1 = some r ∧ v = some (.inl (.inl r.1)) ∧ σ.1 = r.2) ∧ fr [32] I1 σ.1) := by
  obtain ⟨r, r', -, e, -⟩ := shrink_eq a1 hG (RD_frM hG q f rfl)
  exact jPM_and (D169 e ⟨r', e, rfl, rfl⟩) (Fx169 (fun _ I' L' f => f))
theorem Qq83 {a1 : Int32} {x1 x2 : Int32} {I I1 I2 : jI} (hG : gG aGI I) (g1 : gG aGI I1) (hJ : jJ I) (q : RD2 I I) (q1 : (∃ r, d83 a1 I = some r ∧ (some (.inl (.inl x1)) : Option jV) = some (.inl (.inl r.1)) ∧ I1 = r.2) ∧ fr [19, 20, 22, 23, 5009, 5010, 5011, 5012, 5013, 5014, 5015] I I1) (q2 : (∃ r, d169 a1 I1 = some r ∧ (some (.inl (.inl x2)) : Option jV) = some (.inl (.inl r.1)) ∧ I2 = r.2) ∧ fr [32] I1 I2) : x1 = x2 ∧ RD2 I2 I2 := by
  obtain ⟨⟨s, c1, c2, c3⟩, f⟩ := q1
  obtain ⟨r, r', e, e', k, z⟩ := shrink_eq a1 hG (RD_frM hG q f rfl)
  obtain ⟨⟨s', b1, b2, b3⟩, f2⟩ := q2
  rw [e] at c1
  rw [e'] at b1
  cases c1
  cases b1
  cases c2
  cases b2
  rw [← b3] at z
  rw [← c3] at z
  exact ⟨k, RD_frC g1 z f2 rfl⟩
theorem Pq84 {d : Nat} {a1 : Int32} {a2 : Int32} {I : jI} {L : jL} (hG : gG aGI I) (hJ : jJ I) (q : RD2 I I) : jPM d 84 [.inr (0, 0), .inl (.inl a1), .inl (.inl a2)] (I, L) (fun v σ => (∃ r, d84 a1 a2 I = some r ∧ v = some (.inl (.inl r.1)) ∧ σ.1 = r.2) ∧ fr [19, 20, 22, 23, 5009, 5010, 5011, 5012, 5013, 5014, 5015] I σ.1) := by
  obtain ⟨r, r', e, -⟩ := price_eq a1 a2 hG q
  exact jPM_and (D84 e ⟨r, e, rfl, rfl⟩) (Fx84 (fun _ I' L' f => f))
theorem Pq171 {d : Nat} {a1 : Int32} {a2 : Int32} {I I1 : jI} {L : jL} (hG : gG aGI I) (g1 : gG aGI I1) (hJ : jJ I) (q : RD2 I I) (f : fr [19, 20, 22, 23, 5009, 5010, 5011, 5012, 5013, 5014, 5015] I I1) : jPM d 171 [.inr (31, 0), .inl (.inl a1), .inl (.inl a2)] (I1, L) (fun v σ => (∃ r, d171 a1 a2 I1 = some r ∧ v = some (.inl (.inl r.1)) ∧ σ.1 = r.2) ∧ fr [32] I1 σ.1) := by
  obtain ⟨r, r', -, e, -⟩ := price_eq a1 a2 hG (RD_frM hG q f rfl)
  exact jPM_and (D171 e ⟨r', e, rfl, rfl⟩) (Fx171 (fun _ I' L' f => f))
theorem Qq84 {a1 : Int32} {a2 : Int32} {x1 x2 : Int32} {I I1 I2 : jI} (hG : gG aGI I) (g1 : gG aGI I1) (hJ : jJ I) (q : RD2 I I) (q1 : (∃ r, d84 a1 a2 I = some r ∧ (some (.inl (.inl x1)) : Option jV) = some (.inl (.inl r.1)) ∧ I1 = r.2) ∧ fr [19, 20, 22, 23, 5009, 5010, 5011, 5012, 5013, 5014, 5015] I I1) (q2 : (∃ r, d171 a1 a2 I1 = some r ∧ (some (.inl (.inl x2)) : Option jV) = some (.inl (.inl r.1)) ∧ I2 = r.2) ∧ fr [32] I1 I2) : x1 = x2 ∧ RD2 I2 I2 := by
  obtain ⟨⟨s, c1, c2, c3⟩, f⟩ := q1
  obtain ⟨r, r', e, e', k, z⟩ := price_eq a1 a2 hG (RD_frM hG q f rfl)
  obtain ⟨⟨s', b1, b2, b3⟩, f2⟩ := q2
  rw [e] at c1
  rw [e'] at b1
  cases c1
  cases b1
  cases c2
  cases b2
  rw [← b3] at z
  rw [← c3] at z
  exact ⟨k, RD_frC g1 z f2 rfl⟩
theorem Pq85 {d : Nat} {a1 : Int32} {I : jI} {L : jL} (hG : gG aGI I) (hJ : jJ I) (q : RD2 I I) : jPM d 85 [.inr (0, 0), .inl (.inl a1)] (I, L) (fun v σ => (∃ r, d85 a1 I = some r ∧ v = some (.inl (.inl r.1)) ∧ σ.1 = r.2) ∧ fr [19, 20, 22, 23, 5009, 5010, 5011, 5012, 5013, 5014, 5015] I σ.1) := by
  obtain ⟨r, r', e, -⟩ := card_eq a1 hG q
  exact jPM_and (D85 e ⟨r, e, rfl, rfl⟩) (Fx85 (fun _ I' L' f => f))
theorem Pq172 {d : Nat} {a1 : Int32} {I I1 : jI} {L : jL} (hG : gG aGI I) (g1 : gG aGI I1) (hJ : jJ I) (q : RD2 I I) (f : fr [19, 20, 22, 23, 5009, 5010, 5011, 5012, 5013, 5014, 5015] I I1) : jPM d 172 [.inr (31, 0), .inl (.inl a1)] (I1, L) (fun v σ => (∃ r, d172 a1 I1 = some r ∧ v = some (.inl (.inl r.1)) ∧ σ.1 = r.2) ∧ fr [32] I1 σ.1) := by
  obtain ⟨r, r', -, e, -⟩ := card_eq a1 hG (RD_frM hG q f rfl)
  exact jPM_and (D172 e ⟨r', e, rfl, rfl⟩) (Fx172 (fun _ I' L' f => f))
theorem Qq85 {a1 : Int32} {x1 x2 : Int32} {I I1 I2 : jI} (hG : gG aGI I) (g1 : gG aGI I1) (hJ : jJ I) (q : RD2 I I) (q1 : (∃ r, d85 a1 I = some r ∧ (some (.inl (.inl x1)) : Option jV) = some (.inl (.inl r.1)) ∧ I1 = r.2) ∧ fr [19, 20, 22, 23, 5009, 5010, 5011, 5012, 5013, 5014, 5015] I I1) (q2 : (∃ r, d172 a1 I1 = some r ∧ (some (.inl (.inl x2)) : Option jV) = some (.inl (.inl r.1)) ∧ I2 = r.2) ∧ fr [32] I1 I2) : x1 = x2 ∧ RD2 I2 I2 := by
  obtain ⟨⟨s, c1, c2, c3⟩, f⟩ := q1
  obtain ⟨r, r', e, e', k, z⟩ := card_eq a1 hG (RD_frM hG q f rfl)
  obtain ⟨⟨s', b1, b2, b3⟩, f2⟩ := q2
  rw [e] at c1
  rw [e'] at b1
  cases c1
  cases b1
  cases c2
  cases b2
  rw [← b3] at z
  rw [← c3] at z
  exact ⟨k, RD_frC g1 z f2 rfl⟩
theorem Pq86 {d : Nat} {a1 : Int32} {I : jI} {L : jL} (hG : gG aGI I) (hJ : jJ I) (q : RD2 I I) : jPM d 86 [.inr (0, 0), .inl (.inl a1)] (I, L) (fun v σ => (∃ r, d86 a1 I = some r ∧ v = some (.inl (.inl r.1)) ∧ σ.1 = r.2) ∧ fr [18, 19, 20, 21, 22, 23, 5006, 5007, 5008, 5009, 5010, 5011, 5012, 5013, 5014, 5015] I σ.1) := by
  obtain ⟨r, r', e, -⟩ := undo_eq a1 hG hJ q
  exact jPM_and (D86 e ⟨r, e, rfl, rfl⟩) (Fx86 (fun _ I' L' f => f))
theorem Pq173 {d : Nat} {a1 : Int32} {I I1 : jI} {L : jL} (hG : gG aGI I) (g1 : gG aGI I1) (hJ : jJ I) (q : RD2 I I) (f : fr [18, 19, 20, 21, 22, 23, 5006, 5007, 5008, 5009, 5010, 5011, 5012, 5013, 5014, 5015] I I1) : jPM d 173 [.inr (31, 0), .inl (.inl a1)] (I1, L) (fun v σ => (∃ r, d173 a1 I1 = some r ∧ v = some (.inl (.inl r.1)) ∧ σ.1 = r.2) ∧ fr [32] I1 σ.1) := by
  obtain ⟨r, r', -, e, -⟩ := undo_eq a1 hG hJ (RD_frM hG q f rfl)
  exact jPM_and (D173 e ⟨r', e, rfl, rfl⟩) (Fx173 (fun _ I' L' f => f))
theorem Qq86 {a1 : Int32} {x1 x2 : Int32} {I I1 I2 : jI} (hG : gG aGI I) (g1 : gG aGI I1) (hJ : jJ I) (q : RD2 I I) (q1 : (∃ r, d86 a1 I = some r ∧ (some (.inl (.inl x1)) : Option jV) = some (.inl (.inl r.1)) ∧ I1 = r.2) ∧ fr [18, 19, 20, 21, 22, 23, 5006, 5007, 5008, 5009, 5010, 5011, 5012, 5013, 5014, 5015] I I1) (q2 : (∃ r, d173 a1 I1 = some r ∧ (some (.inl (.inl x2)) : Option jV) = some (.inl (.inl r.1)) ∧ I2 = r.2) ∧ fr [32] I1 I2) : RD2 I2 I2 := by
  obtain ⟨⟨s, c1, c2, c3⟩, f⟩ := q1
  obtain ⟨r, r', e, e', z⟩ := undo_eq a1 hG hJ (RD_frM hG q f rfl)
  obtain ⟨⟨s', b1, b2, b3⟩, f2⟩ := q2
  rw [e] at c1
  rw [e'] at b1
  cases c1
  cases b1
  cases c2
  cases b2
  rw [← b3] at z
  rw [← c3] at z
  exact RD_frC g1 z f2 rfl
theorem Pq87 {d : Nat} {a1 : Int32} {I : jI} {L : jL} (hG : gG aGI I) (hJ : jJ I) (q : RD2 I I) : jPM d 87 [.inr (0, 0), .inl (.inl a1)] (I, L) (fun v σ => (∃ r, d87 a1 I = some r ∧ v = some (.inl (.inl r.1)) ∧ σ.1 = r.2) ∧ fr [6, 18, 19, 20, 21, 22, 23, 5006, 5007, 5008, 5009, 5010, 5011, 5012, 5013, 5014, 5015] I σ.1) := by
  obtain ⟨r, r', e, -⟩ := keep_eq a1 hG q
  exact jPM_and (D87 e ⟨r, e, rfl, rfl⟩) (Fx87 (fun _ I' L' f => f))
theorem Pq175 {d : Nat} {a1 : Int32} {I I1 : jI} {L : jL} (hG : gG aGI I) (g1 : gG aGI I1) (hJ : jJ I) (q : RD2 I I) (f : fr [6, 18, 19, 20, 21, 22, 23, 5006, 5007, 5008, 5009, 5010, 5011, 5012, 5013, 5014, 5015] I I1) : jPM d 175 [.inr (31, 0), .inl (.inl a1)] (I1, L) (fun v σ => (∃ r, d175 a1 I1 = some r ∧ v = some (.inl (.inl r.1)) ∧ σ.1 = r.2) ∧ fr [32] I1 σ.1) := by
  obtain ⟨r, r', -, e, -⟩ := keep_eq a1 hG (RD_frM hG q f rfl)
  exact jPM_and (D175 e ⟨r', e, rfl, rfl⟩) (Fx175 (fun _ I' L' f => f))
theorem Qq87 {a1 : Int32} {x1 x2 : Int32} {I I1 I2 : jI} (hG : gG aGI I) (g1 : gG aGI I1) (hJ : jJ I) (q : RD2 I I) (q1 : (∃ r, d87 a1 I = some r ∧ (some (.inl (.inl x1)) : Option jV) = some (.inl (.inl r.1)) ∧ I1 = r.2) ∧ fr [6, 18, 19, 20, 21, 22, 23, 5006, 5007, 5008, 5009, 5010, 5011, 5012, 5013, 5014, 5015] I I1) (q2 : (∃ r, d175 a1 I1 = some r ∧ (some (.inl (.inl x2)) : Option jV) = some (.inl (.inl r.1)) ∧ I2 = r.2) ∧ fr [32] I1 I2) : x1 = x2 ∧ RD2 I2 I2 := by
  obtain ⟨⟨s, c1, c2, c3⟩, f⟩ := q1
  obtain ⟨r, r', e, e', k, z⟩ := keep_eq a1 hG (RD_frM hG q f rfl)
  obtain ⟨⟨s', b1, b2, b3⟩, f2⟩ := q2
  rw [e] at c1
  rw [e'] at b1
  cases c1
  cases b1
  cases c2
  cases b2
  rw [← b3] at z
  rw [← c3] at z
  exact ⟨k, RD_frC g1 z f2 rfl⟩
theorem Pq88 {d : Nat} {a1 : Int32} {I : jI} {L : jL} (hG : gG aGI I) (hJ : jJ I) (q : RD2 I I) : jPM d 88 [.inr (0, 0), .inl (.inl a1)] (I, L) (fun v σ => (∃ r, d88 a1 I = some r ∧ v = some (.inl (.inl r.1)) ∧ σ.1 = r.2) ∧ fr [12, 18, 19, 20, 21, 22, 23, 1013, 5006, 5007, 5008, 5009, 5010, 5011, 5012, 5013, 5014, 5015] I σ.1) := by
  obtain ⟨r, r', e, -⟩ := on_eq a1 hG q
  exact jPM_and (D88 e ⟨r, e, rfl, rfl⟩) (Fx88 (fun _ I' L' f => f))
theorem Pq176 {d : Nat} {a1 : Int32} {I I1 : jI} {L : jL} (hG : gG aGI I) (g1 : gG aGI I1) (hJ : jJ I) (q : RD2 I I) (f : fr [12, 18, 19, 20, 21, 22, 23, 1013, 5006, 5007, 5008, 5009, 5010, 5011, 5012, 5013, 5014, 5015] I I1) : jPM d 176 [.inr (31, 0), .inl (.inl a1)] (I1, L) (fun v σ => (∃ r, d176 a1 I1 = some r ∧ v = some (.inl (.inl r.1)) ∧ σ.1 = r.2) ∧ fr [32, 39, 32013] I1 σ.1) := by
  obtain ⟨r, r', -, e, -⟩ := on_eq a1 hG (RD_frM hG q f rfl)
  exact jPM_and (D176 e ⟨r', e, rfl, rfl⟩) (Fx176 (fun _ I' L' f => f))
theorem Qq88 {a1 : Int32} {x1 x2 : Int32} {I I1 I2 : jI} (hG : gG aGI I) (g1 : gG aGI I1) (hJ : jJ I) (q : RD2 I I) (q1 : (∃ r, d88 a1 I = some r ∧ (some (.inl (.inl x1)) : Option jV) = some (.inl (.inl r.1)) ∧ I1 = r.2) ∧ fr [12, 18, 19, 20, 21, 22, 23, 1013, 5006, 5007, 5008, 5009, 5010, 5011, 5012, 5013, 5014, 5015] I I1) (q2 : (∃ r, d176 a1 I1 = some r ∧ (some (.inl (.inl x2)) : Option jV) = some (.inl (.inl r.1)) ∧ I2 = r.2) ∧ fr [32, 39, 32013] I1 I2) : x1 = x2 ∧ RD2 I2 I2 := by
  obtain ⟨⟨s, c1, c2, c3⟩, f⟩ := q1
  obtain ⟨r, r', e, e', k, z⟩ := on_eq a1 hG (RD_frM hG q f rfl)
  obtain ⟨⟨s', b1, b2, b3⟩, f2⟩ := q2
  rw [e] at c1
  rw [e'] at b1
  cases c1
  cases b1
  cases c2
  cases b2
  rw [← b3] at z
  rw [← c3] at z
  exact ⟨k, RD_frC g1 z f2 rfl⟩
theorem Pq105 {d : Nat} {a1 : Int32} {a2 : Int32} {I : jI} {L : jL} (hG : gG aGI I) (hJ : jJ I) (q : RD2 I I) : jPM d 105 [.inr (0, 0), .inl (.inl a1), .inl (.inl a2)] (I, L) (fun v σ => (∃ r, d105 a1 a2 I = some r ∧ v = some (.inl (.inl r.1)) ∧ σ.1 = r.2) ∧ fr [19, 20, 22, 23, 5009, 5010, 5011, 5012, 5013, 5014, 5015] I σ.1) := by
  obtain ⟨r, r', e, -⟩ := lots_eq a1 a2 hG hJ q
  exact jPM_and (D105 e ⟨r, e, rfl, rfl⟩) (Fx105 (fun _ I' L' f => f))
theorem Pq207 {d : Nat} {a1 : Int32} {a2 : Int32} {I I1 : jI} {L : jL} (hG : gG aGI I) (g1 : gG aGI I1) (hJ : jJ I) (q : RD2 I I) (f : fr [19, 20, 22, 23, 5009, 5010, 5011, 5012, 5013, 5014, 5015] I I1) : jPM d 207 [.inr (31, 0), .inl (.inl a1), .inl (.inl a2)] (I1, L) (fun v σ => (∃ r, d207 a1 a2 I1 = some r ∧ v = some (.inl (.inl r.1)) ∧ σ.1 = r.2) ∧ fr [32] I1 σ.1) := by
  obtain ⟨r, r', -, e, -⟩ := lots_eq a1 a2 hG hJ (RD_frM hG q f rfl)
  exact jPM_and (D207 e ⟨r', e, rfl, rfl⟩) (Fx207 (fun _ I' L' f => f))
theorem Qq105 {a1 : Int32} {a2 : Int32} {x1 x2 : Int32} {I I1 I2 : jI} (hG : gG aGI I) (g1 : gG aGI I1) (hJ : jJ I) (q : RD2 I I) (q1 : (∃ r, d105 a1 a2 I = some r ∧ (some (.inl (.inl x1)) : Option jV) = some (.inl (.inl r.1)) ∧ I1 = r.2) ∧ fr [19, 20, 22, 23, 5009, 5010, 5011, 5012, 5013, 5014, 5015] I I1) (q2 : (∃ r, d207 a1 a2 I1 = some r ∧ (some (.inl (.inl x2)) : Option jV) = some (.inl (.inl r.1)) ∧ I2 = r.2) ∧ fr [32] I1 I2) : x1 = x2 ∧ RD2 I2 I2 := by
  obtain ⟨⟨s, c1, c2, c3⟩, f⟩ := q1
  obtain ⟨r, r', e, e', k, z⟩ := lots_eq a1 a2 hG hJ (RD_frM hG q f rfl)
  obtain ⟨⟨s', b1, b2, b3⟩, f2⟩ := q2
  rw [e] at c1
  rw [e'] at b1
  cases c1
  cases b1
  cases c2
  cases b2
  rw [← b3] at z
  rw [← c3] at z
  exact ⟨k, RD_frC g1 z f2 rfl⟩
theorem Pq77 {d : Nat} {a1 : Int32} {I : jI} {L : jL} (hG : gG aGI I) (hJ : jJ I) (hT : RT I) (q : RD2 I I) : jPM d 77 [.inr (0, 0), .inl (.inl a1)] (I, L) (fun v σ => (∃ r, d77 a1 I = some r ∧ v = some (.inl (.inl r.1)) ∧ σ.1 = r.2) ∧ fr [6, 12, 17, 18, 19, 20, 21, 22, 23, 1013, 4002, 4003, 4004, 5006, 5007, 5008, 5009, 5010, 5011, 5012, 5013, 5014, 5015] I σ.1) := by
  obtain ⟨r, r', e, -⟩ := house_eq2 a1 hG hG hJ hT rfl rfl q
  exact jPM_and (D77 e ⟨r, e, rfl, rfl⟩) (Fx77 (fun _ I' L' f => f))
theorem Pq150 {d : Nat} {a1 : Int32} {I I1 : jI} {L : jL} (hG : gG aGI I) (g1 : gG aGI I1) (hJ : jJ I) (hT : RT I) (q : RD2 I I) (f : fr [6, 12, 17, 18, 19, 20, 21, 22, 23, 1013, 4002, 4003, 4004, 5006, 5007, 5008, 5009, 5010, 5011, 5012, 5013, 5014, 5015] I I1) : jPM d 150 [.inr (31, 0), .inl (.inl a1)] (I1, L) (fun v σ => (∃ r, d150 a1 I1 = some r ∧ v = some (.inl (.inl r.1)) ∧ σ.1 = r.2) ∧ fr [32, 33, 34, 39, 40, 32001, 32002, 32003, 32013, 32015, 32016, 32017, 32018, 32019, 32021] I1 σ.1) := by
  obtain ⟨r, r', -, e, -⟩ := house_eq2 a1 hG g1 hJ hT (fr_arr f (fun _ => rfl) rfl) (fr_arr f (fun _ => rfl) rfl) (RD_frM hG q f rfl)
  exact jPM_and (D150 e ⟨r', e, rfl, rfl⟩) (Fx150 (fun _ I' L' f => f))
theorem Qq77 {a1 : Int32} {x1 x2 : Int32} {I I1 I2 : jI} (hG : gG aGI I) (g1 : gG aGI I1) (hJ : jJ I) (hT : RT I) (q : RD2 I I) (q1 : (∃ r, d77 a1 I = some r ∧ (some (.inl (.inl x1)) : Option jV) = some (.inl (.inl r.1)) ∧ I1 = r.2) ∧ fr [6, 12, 17, 18, 19, 20, 21, 22, 23, 1013, 4002, 4003, 4004, 5006, 5007, 5008, 5009, 5010, 5011, 5012, 5013, 5014, 5015] I I1) (q2 : (∃ r, d150 a1 I1 = some r ∧ (some (.inl (.inl x2)) : Option jV) = some (.inl (.inl r.1)) ∧ I2 = r.2) ∧ fr [32, 33, 34, 39, 40, 32001, 32002, 32003, 32013, 32015, 32016, 32017, 32018, 32019, 32021] I1 I2) : x1 = x2 ∧ RD2 I2 I2 := by
  obtain ⟨⟨s, c1, c2, c3⟩, f⟩ := q1
  obtain ⟨r, r', e, e', k, z⟩ := house_eq2 a1 hG g1 hJ hT (fr_arr f (fun _ => rfl) rfl) (fr_arr f (fun _ => rfl) rfl) (RD_frM hG q f rfl)
  obtain ⟨⟨s', b1, b2, b3⟩, f2⟩ := q2
  rw [e] at c1
  rw [e'] at b1
  cases c1
  cases b1
  cases c2
  cases b2
  rw [← b3] at z
  rw [← c3] at z
  exact ⟨k, RD_frC g1 z f2 rfl⟩
end
section
/-! what is asked of a PACKET: the same on both sides -/
theorem card01 {I : jI} (hG : gG aGI I) : I 4 1 14 = 0 ∨ I 4 1 14 = 1 := by
  have f14 := hG (4, (0, 5), (14, 14), (0, 1)) (by decide) 1 14 (by simp) (by simp) (by simp) (by simp)
  have a : 0 ≤ (I 4 1 14).toInt := f14.1
  have b : (I 4 1 14).toInt ≤ 1 := f14.2
  have : (I 4 1 14).toInt = 0 ∨ (I 4 1 14).toInt = 1 := by omega
  rcases this with z | z
  · exact Or.inl (eq_t.mpr z)
  · exact Or.inr (eq_t.mpr z)
theorem cost_cm {I J : jI} {m : Nat} {i n : Int32} (hG : gG aGI I) (c : cur I J m) (h0 : 0 ≤ i.toInt) (hi : i.toNatClampNeg < m) : d153 0 i n J = d35 1 i n I := by
  obtain ⟨⟨-, -, ai, af⟩, ⟨-, hm⟩, -⟩ := c
  have ni := cl_t h0
  have i23 : Int32.toNatClampNeg ((0 + 23) + i) = 23 + i.toNatClampNeg := by rw [(ixa (a := 0 + 23) (by decide) (by decide) h0 (by omega)).2]; rfl
  have i6 : Int32.toNatClampNeg (0 + 6) = 1 + 5 := rfl
  unfold d153 d35
  rw [i23, i6, (ai _ hi).1.2, (ai _ hi).2.1, af 5 (by decide)]
  exact cost_m (card01 hG)
theorem got_cm {I J : jI} {m : Nat} {i : Int32} (c : cur I J m) (h0 : 0 ≤ i.toInt) (hi : i.toNatClampNeg < m) : d155 0 i J = d36 1 i I := by
  obtain ⟨⟨-, -, ai, af⟩, ⟨-, hm⟩, -⟩ := c
  have ni := cl_t h0
  have i17 : Int32.toNatClampNeg ((0 + 17) + i) = 17 + i.toNatClampNeg := by rw [(ixa (a := 0 + 17) (by decide) (by decide) h0 (by omega)).2]; rfl
  unfold d155 d36
  rw [i17, (ai _ hi).1.1, (ai _ hi).2.1]
  rfl
theorem got_g {I J : jI} {m : Nat} {i : Int32} (c : cur I J m) (hi : i.toNatClampNeg < m) : 0 ≤ (d36 1 i I).toInt ∧ (d36 1 i I).toInt ≤ 9 := by
  have g := (c.2.2.2.1.2.1 _ hi).1
  exact got_b (k := I 18 1 i.toNatClampNeg) ⟨by omega, g.2⟩
theorem cost_1 {k p c : Int32} (hp : 0 ≤ p.toInt ∧ p.toInt ≤ 99) : 0 ≤ (kost k 1 p c).toInt ∧ (kost k 1 p c).toInt ≤ 99 := by
  have one : (1 : Int32).toInt = 1 := rfl
  have e1 : (1 * p).toInt = p.toInt := by rw [i32_mul (by rw [one]; omega), one]; omega
  have e6 : 0 ≤ (d6 (1 * p) c zI).toInt ∧ (d6 (1 * p) c zI).toInt ≤ 99 := by
    unfold d6
    by_cases h : c = 0
    · rw [if_pos h, e1]; exact hp
    · rw [if_neg h]
      have three : (3 : Int32).toInt = 3 := rfl
      have four : (4 : Int32).toInt = 4 := rfl
      have e3 : (1 * p * 3).toInt = p.toInt * 3 := by rw [i32_mul (by rw [e1, three]; omega), e1, three]
      rw [td32 (by decide), e3, four, Int.tdiv_eq_ediv_of_nonneg (by omega)]
      omega
  have eh : ((1 - 1 / 3) * p).toInt = p.toInt := e1
  unfold kost d5
  by_cases h1 : k = 1
  · rw [if_pos h1]; exact e6
  rw [if_neg h1]
  by_cases h2 : k = 2
  · rw [if_pos h2, eh]; exact hp
  rw [if_neg h2]
  by_cases h3 : k = 3
  · have two : (2 : Int32).toInt = 2 := rfl
    rw [if_pos h3, td32 (by decide), e1, two, Int.tdiv_eq_ediv_of_nonneg (by omega)]
    omega
  rw [if_neg h3]
  by_cases h4 : k = 4
  · rw [if_pos h4]
    by_cases g : 0 < d6 (1 * p) c zI - 1
    · rw [if_pos g, i32_sub (by omega), one]
      rw [lt_t, i32_sub (by omega), one] at g
      have g : 0 < (d6 (1 * p) c zI).toInt - 1 := g
      omega
    · rw [if_neg g]; decide
  rw [if_neg h4]
  by_cases h5 : k = 5
  · rw [if_pos h5, eh]; exact hp
  rw [if_neg h5, e1]
  exact hp
theorem cost_b {I J : jI} {m : Nat} {i : Int32} (c : cur I J m) (hi : i.toNatClampNeg < m) : 0 ≤ (d35 1 i 1 I).toInt ∧ (d35 1 i 1 I).toInt ≤ 99 := cost_1 (c.2.2.2.1.2.1 _ hi).2
end
section
/-! cheapest, larger, grams, looks -/
theorem mul_b {x y : Int32} (hx : 0 ≤ x.toInt ∧ x.toInt ≤ 99) (hy : 0 ≤ y.toInt ∧ y.toInt ≤ 9) : 0 ≤ (x * y).toInt ∧ (x * y).toInt ≤ 891 := by
  have h1 : 0 ≤ x.toInt * y.toInt := Int.mul_nonneg hx.1 hy.1
  have h2 : x.toInt * y.toInt ≤ 99 * 9 := Int.mul_le_mul hx.2 hy.2 hy.1 (by decide)
  rw [i32_mul (by omega)]
  omega
theorem rate_cm {I J : jI} {m : Nat} {i j : Int32} (hG : gG aGI I) (c : cur I J m) (i0 : 0 ≤ i.toInt) (hi : i.toNatClampNeg < m) (j0 : 0 ≤ j.toInt) (hj : j.toNatClampNeg < m) : d38 1 i j I = if 0 ≤ (d180 i j J).toInt then (if (d180 i j J).toInt = 0 then 0 else 1) else -1 := by
  have a := mul_b (cost_b c hi) (got_g c hj)
  have b := mul_b (cost_b c hj) (got_g c hi)
  unfold d38 d180 d0
  rw [cost_cm hG c i0 hi, cost_cm hG c j0 hj, got_cm c i0 hi, got_cm c j0 hj]
  generalize d35 1 i 1 I * d36 1 j I = A at *
  generalize d35 1 j 1 I * d36 1 i I = B at *
  rw [i32_sub (by omega)]
  by_cases h : B ≤ A
  · rw [if_pos h]
    rw [le_t] at h
    by_cases e : A = B
    · rw [if_pos e, if_pos (show 0 ≤ A.toInt - B.toInt by omega), if_pos (show A.toInt - B.toInt = 0 by rw [e]; omega)]
    · rw [if_neg e, if_pos (show 0 ≤ A.toInt - B.toInt by omega), if_neg (show ¬ A.toInt - B.toInt = 0 from fun z => e (eq_t.mpr (by omega)))]
  · rw [if_neg h]
    rw [le_t] at h
    rw [if_neg (show ¬ 0 ≤ A.toInt - B.toInt by omega)]
theorem d155_x {a i : Int32} {Y J : jI} (h33 : Y 33 = J 33) (h32 : Y 32 = J 32) : d155 a i Y = d155 a i J := by
  unfold d155
  rw [h33, h32]
  rfl
theorem d153_x {a i n : Int32} {Y J : jI} (h33 : Y 33 = J 33) (h32 : Y 32 = J 32) : d153 a i n Y = d153 a i n J := by
  unfold d153
  rw [h33, h32]
  rfl
theorem d180_x {i j : Int32} {Y J : jI} (h33 : Y 33 = J 33) (h32 : Y 32 = J 32) : d180 i j Y = d180 i j J := by
  unfold d180
  rw [d153_x h33 h32, d153_x h33 h32, d155_x h33 h32, d155_x h33 h32]
theorem lgr_b {I J : jI} {m : Nat} {i j : Int32} (hG : gG aGI I) (c : cur I J m) (i0 : 0 ≤ i.toInt) (hi : i.toNatClampNeg < m) (j0 : 0 ≤ j.toInt) (hj : j.toNatClampNeg < m) : (d39 1 i j I = 0) ↔ ¬ ((0 < (d155 0 i J).toInt ∧ 0 < (d155 0 j J).toInt) ∧ (((d155 0 j J).toInt < (d155 0 i J).toInt ∧ 0 < (d180 i j J).toInt) ∨ ((d155 0 i J).toInt < (d155 0 j J).toInt ∧ (d180 i j J).toInt < 0))) := by
  have rc := rate_cm hG c i0 hi j0 hj
  have gi := got_g c hi
  have gj := got_g c hj
  rw [got_cm c i0 hi, got_cm c j0 hj]
  generalize (d180 i j J).toInt = w at rc
  unfold d39
  by_cases a : d36 1 i I = 0
  · have a' : (d36 1 i I).toInt = 0 := by rw [a]; rfl
    rw [if_pos a]
    exact ⟨fun _ z => by omega, fun _ => rfl⟩
  have a' : ¬ (d36 1 i I).toInt = 0 := fun z => a (eq_t.mpr (by rw [z]; rfl))
  rw [if_neg a]
  by_cases b : d36 1 j I = 0
  · have b' : (d36 1 j I).toInt = 0 := by rw [b]; rfl
    rw [if_pos b]
    exact ⟨fun _ z => by omega, fun _ => rfl⟩
  have b' : ¬ (d36 1 j I).toInt = 0 := fun z => b (eq_t.mpr (by rw [z]; rfl))
  rw [if_neg b, rc]
  unfold d0
  by_cases l : d36 1 j I ≤ d36 1 i I
  · rw [if_pos l]
    rw [le_t] at l
    by_cases e : d36 1 i I = d36 1 j I
    · rw [if_pos e, if_pos rfl]
      exact ⟨fun _ z => by rw [e] at z; omega, fun _ => rfl⟩
    · have e' : ¬ (d36 1 i I).toInt = (d36 1 j I).toInt := fun z => e (eq_t.mpr z)
      rw [if_neg e, if_neg one0]
      by_cases w0 : 0 ≤ w
      · rw [if_pos w0]
        by_cases w1 : w = 0
        · rw [if_pos w1, if_neg (show ¬ (0 : Int32) = 1 by decide)]
          exact ⟨fun _ z => by omega, fun _ => rfl⟩
        · rw [if_neg w1, if_pos rfl]
          exact ⟨fun z => absurd z one0, fun z => absurd ⟨⟨by omega, by omega⟩, Or.inl ⟨by omega, by omega⟩⟩ z⟩
      · rw [if_neg w0, if_neg (show ¬ (-1 : Int32) = 1 by decide)]
        exact ⟨fun _ z => by omega, fun _ => rfl⟩
  · rw [if_neg l, if_neg (show ¬ (-1 : Int32) = 0 by decide)]
    rw [le_t] at l
    by_cases w0 : 0 ≤ w
    · rw [if_pos w0]
      by_cases w1 : w = 0
      · rw [if_pos w1, if_neg (show ¬ (0 : Int32) = -1 by decide)]
        exact ⟨fun _ z => by omega, fun _ => rfl⟩
      · rw [if_neg w1, if_neg (show ¬ (1 : Int32) = -1 by decide)]
        exact ⟨fun _ z => by omega, fun _ => rfl⟩
    · rw [if_neg w0, if_pos rfl]
      exact ⟨fun z => absurd z one0, fun z => absurd ⟨⟨by omega, by omega⟩, Or.inr ⟨by omega, by omega⟩⟩ z⟩
noncomputable def lgS (J Y : jI) : Prop := Y 31 0 3 = J 31 0 3 ∧ Y 33 = J 33 ∧ Y 32 = J 32
theorem lgS_u {J Y : jI} {v : Int32} (h : lgS J Y) : lgS J (jup Y 31 0 10 v) := ⟨h.1, (jup_g (by decide)).trans h.2.1, (jup_g (by decide)).trans h.2.2⟩
theorem lgr_l {I J : jI} {m : Nat} {i : Int32} (hG : gG aGI I) (c : cur I J m) (i0 : 0 ≤ i.toInt) (hi : i.toNatClampNeg < m) : ∀ (N F F' : Nat) (x y z : Int32) (Y : jI), z.toInt + (N : Int) = (I 4 1 6).toInt → 0 ≤ z.toInt → N < F → N < F' → lgS J Y → ∃ r s T, d92_23 i I F x y z = some (s, r) ∧ d182_22 i F' x z Y = some (s, T) ∧ lgS J T
  | _, 0, _, _, _, _, _, _, _, h, _, _ => absurd h (by omega)
  | _, _, 0, _, _, _, _, _, _, _, h, _ => absurd h (by omega)
  | 0, F + 1, F' + 1, x, y, z, Y, hz, h0, _, _, hY => by
    have c3 : Y 31 0 3 = I 4 1 6 := hY.1.trans c.1.1.1
    rw [d92_23, d182_22, c3, if_pos (show I 4 1 6 ≤ z by rw [le_t]; omega), if_pos (show I 4 1 6 ≤ z by rw [le_t]; omega)]
    exact ⟨_, _, _, rfl, rfl, hY⟩
  | N + 1, F + 1, F' + 1, x, y, z, Y, hz, h0, hF, hF', hY => by
    have c3 : Y 31 0 3 = I 4 1 6 := hY.1.trans c.1.1.1
    have hp := gi_packets hG
    have e := i32_inc (x := z) (by omega)
    obtain ⟨hj, hj5, hm0⟩ := RD_hi c (i := z) ⟨h0, by omega⟩
    have gi := got_g c hi
    have gj := got_g c hj
    rw [← got_cm c i0 hi] at gi
    rw [← got_cm c h0 hj] at gj
    have lb := lgr_b hG c i0 hi h0 hj
    have z0 : (0 : Int32).toInt = 0 := rfl
    have next : ∀ x y Y, lgS J Y → ∃ r s T, d92_23 i I F x y (z + 1) = some (s, r) ∧ d182_22 i F' x (z + 1) Y = some (s, T) ∧ lgS J T := fun x y Y hY => lgr_l hG c i0 hi N F F' x y (z + 1) Y (by omega) (by omega) (by omega) (by omega) hY
    have az : x + 0 = x := Int32.add_zero x
    rw [d92_23, d182_22, c3, if_neg (show ¬ I 4 1 6 ≤ z by rw [le_t]; omega), if_neg (show ¬ I 4 1 6 ≤ z by rw [le_t]; omega), d155_x hY.2.1 hY.2.2, d155_x hY.2.1 hY.2.2, d180_x hY.2.1 hY.2.2, az]
    have no : d39 1 i z I = 0 → ∃ r s T, (if d39 1 i z I = 0 then d92_23 i I F x y (z + 1) else if y = -9 then d92_23 i I F (x + 1) (6 * i + z) (z + 1) else d92_23 i I F (x + 1) y (z + 1)) = some (s, r) ∧ d182_22 i F' x (z + 1) (jup Y 31 0 10 (Y 31 0 10)) = some (s, T) ∧ lgS J T := fun h => by
      rw [if_pos h]
      exact next x y _ (lgS_u hY)
    have yes : ¬ d39 1 i z I = 0 → ∃ r s T, (if d39 1 i z I = 0 then d92_23 i I F x y (z + 1) else if y = -9 then d92_23 i I F (x + 1) (6 * i + z) (z + 1) else d92_23 i I F (x + 1) y (z + 1)) = some (s, r) ∧ (if x = 0 then d182_22 i F' (x + 1) (z + 1) (jup Y 31 0 10 (6 * i + z)) else d182_22 i F' (x + 1) (z + 1) (jup Y 31 0 10 (Y 31 0 10))) = some (s, T) ∧ lgS J T := fun h => by
      rw [if_neg h]
      by_cases a : y = -9
      · rw [if_pos a]
        by_cases b : x = 0
        · rw [if_pos b]; exact next _ _ _ (lgS_u hY)
        · rw [if_neg b]; exact next _ _ _ (lgS_u hY)
      · rw [if_neg a]
        by_cases b : x = 0
        · rw [if_pos b]; exact next _ _ _ (lgS_u hY)
        · rw [if_neg b]; exact next _ _ _ (lgS_u hY)
    have es : (d155 0 i J - d155 0 z J).toInt = (d155 0 i J).toInt - (d155 0 z J).toInt := i32_sub (by omega)
    by_cases a : d155 0 i J ≤ 0
    · rw [if_pos a]
      rw [le_t, z0] at a
      exact no (lb.mpr (fun w => by omega))
    rw [if_neg a]
    rw [le_t, z0] at a
    by_cases b : d155 0 z J ≤ 0
    · rw [if_pos b]
      rw [le_t, z0] at b
      exact no (lb.mpr (fun w => by omega))
    rw [if_neg b]
    rw [le_t, z0] at b
    by_cases d : d155 0 i J - d155 0 z J ≤ 0
    · rw [if_pos d]
      rw [le_t, z0, es] at d
      by_cases f : 0 ≤ d155 0 i J - d155 0 z J
      · rw [if_pos f]
        rw [le_t, z0, es] at f
        exact no (lb.mpr (fun w => by omega))
      · rw [if_neg f]
        rw [le_t, z0, es] at f
        by_cases g : 0 ≤ d180 i z J
        · rw [if_pos g]
          rw [le_t, z0] at g
          exact no (lb.mpr (fun w => by omega))
        · rw [if_neg g]
          rw [le_t, z0] at g
          exact yes (fun w => lb.mp w ⟨⟨by omega, by omega⟩, Or.inr ⟨by omega, by omega⟩⟩)
    · rw [if_neg d]
      rw [le_t, z0, es] at d
      by_cases g : d180 i z J ≤ 0
      · rw [if_pos g]
        rw [le_t, z0] at g
        exact no (lb.mpr (fun w => by omega))
      · rw [if_neg g]
        rw [le_t, z0] at g
        exact yes (fun w => lb.mp w ⟨⟨by omega, by omega⟩, Or.inl ⟨by omega, by omega⟩⟩)
theorem lgr_o {I J : jI} {m : Nat} (hG : gG aGI I) (c : cur I J m) : ∀ (N F F' : Nat) (x y z : Int32) (Y : jI), z.toInt + (N : Int) = (I 4 1 6).toInt → 0 ≤ z.toInt → N < F → N < F' → lgS J Y → ∃ r s T, d92_7 I F x y z = some (s, r) ∧ d182_10 F' x z Y = some (s, T)
  | _, 0, _, _, _, _, _, _, _, h, _, _ => absurd h (by omega)
  | _, _, 0, _, _, _, _, _, _, _, h, _ => absurd h (by omega)
  | 0, F + 1, F' + 1, x, y, z, Y, hz, h0, _, _, hY => by
    have c3 : Y 31 0 3 = I 4 1 6 := hY.1.trans c.1.1.1
    rw [d92_7, d182_10, c3, if_pos (show I 4 1 6 ≤ z by rw [le_t]; omega), if_pos (show I 4 1 6 ≤ z by rw [le_t]; omega)]
    exact ⟨_, _, _, rfl, rfl⟩
  | N + 1, F + 1, F' + 1, x, y, z, Y, hz, h0, hF, hF', hY => by
    have c3 : Y 31 0 3 = I 4 1 6 := hY.1.trans c.1.1.1
    have hp := gi_packets hG
    have e := i32_inc (x := z) (by omega)
    obtain ⟨hj, hj5, hm0⟩ := RD_hi c (i := z) ⟨h0, by omega⟩
    obtain ⟨r, s, T, t1, t2, t3⟩ := lgr_l hG c h0 hj N 70 70 x y (z + 1) Y (by omega) (by omega) (by omega) (by omega) hY
    rw [d92_7, d182_10, c3, if_neg (show ¬ I 4 1 6 ≤ z by rw [le_t]; omega), if_neg (show ¬ I 4 1 6 ≤ z by rw [le_t]; omega), t1, t2]
    dsimp only [Option.bind_some]
    exact lgr_o hG c N F F' s r (z + 1) T (by omega) (by omega) (by omega) (by omega) t3
theorem larger_an {I J : jI} (hG : gG aGI I) (q : RD2 I J) : ∃ r r', d92 I = some r ∧ d182 J = some r' ∧ r.1 = r'.1 := by
  have c := RD_cur hG q
  have hp := gi_packets hG
  have np := cl_t hp.1
  obtain ⟨r, s, T, t1, t2⟩ := lgr_o hG c (I 4 1 6).toNatClampNeg 70 70 0 (-9) 0 (jup J 31 0 10 (-9)) (by show (0 : Int) + _ = _; omega) (by decide) (by omega) (by omega) (lgS_u ⟨rfl, rfl, rfl⟩)
  unfold d92 d182
  rw [t1, t2]
  exact ⟨_, _, rfl, rfl, rfl⟩
end
section
theorem RD_mid {W : List aR} {I I1 : jI} {L L1 : jL} (hw : rApart W rdM = true) (hG : gG aGI I) (q : RD2 I I) (h : gR W I L I1 L1) : RD2 I I1 := RD_cells hG q (fun _ _ _ _ => rfl) (fun g i j z => (h g i j (rApart_of hw z)).1)
theorem Pa92 {d : Nat} {I : jI} {L : jL} {K : jK} (hG : gG aGI I) (q : RD2 I I) (hK : jPM d 92 [.inr (0, 0)] (I, L) K) : jPM d 92 [.inr (0, 0)] (I, L) (fun v σ => (∃ r, d92 I = some r ∧ v = some (.inl (.inl r.1))) ∧ K v σ) := by
  obtain ⟨r, r', e, e', -⟩ := larger_an hG q
  exact jPM_and (D92 e ⟨r, e, rfl⟩) hK
theorem Pa182 {d : Nat} {I I1 : jI} {L : jL} {K : jK} (hG : gG aGI I) (q : RD2 I I1) (hK : jPM d 182 [.inr (31, 0)] (I1, L) K) : jPM d 182 [.inr (31, 0)] (I1, L) (fun v σ => (∃ r, d182 I1 = some r ∧ v = some (.inl (.inl r.1))) ∧ K v σ) := by
  obtain ⟨r, r', e, e', -⟩ := larger_an hG q
  exact jPM_and (D182 e' ⟨r', e', rfl⟩) hK
theorem Qa92 {x1 x2 : Int32} {I I1 : jI} (hG : gG aGI I) (q : RD2 I I1) (q1 : (∃ r, d92 I = some r ∧ (some (.inl (.inl x1)) : Option jV) = some (.inl (.inl r.1)))) (q2 : (∃ r, d182 I1 = some r ∧ (some (.inl (.inl x2)) : Option jV) = some (.inl (.inl r.1)))) : x1 = x2 := by
  obtain ⟨r, r', e, e', k⟩ := larger_an hG q
  obtain ⟨s, c1, c2⟩ := q1
  obtain ⟨s', b1, b2⟩ := q2
  rw [e] at c1
  rw [e'] at b1
  cases c1
  cases b1
  cases c2
  cases b2
  exact k
end
