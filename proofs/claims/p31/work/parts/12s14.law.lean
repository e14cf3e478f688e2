section
/-! the calls that change houses, as the law makes them -/
noncomputable def cdC : List Nat := [6, 18, 19, 20, 21, 22, 23, 5006, 5007, 5008, 5009, 5010, 5011, 5012, 5013, 5014, 5015]
noncomputable def cdM : List Nat := [32, 33, 34, 32001, 32002, 32003]
theorem cd_C {g i j : Nat} (h : gI rdC g i j) : jcd g j ∈ cdC := by
  obtain ⟨r, hr, e, -, -, a3, a4⟩ := h
  simp only [rdC, List.mem_cons, List.not_mem_nil, or_false] at hr
  rcases hr with rfl | rfl | rfl | rfl | rfl | rfl | rfl | rfl | rfl <;> cases e
  · have : j = 6 ∨ j = 7 ∨ j = 8 ∨ j = 9 ∨ j = 10 ∨ j = 11 ∨ j = 12 ∨ j = 13 ∨ j = 14 ∨ j = 15 := by simp at a3 a4; omega
    rcases this with rfl | rfl | rfl | rfl | rfl | rfl | rfl | rfl | rfl | rfl <;> decide
  · have : j = 9 ∨ j = 10 ∨ j = 11 ∨ j = 12 ∨ j = 13 ∨ j = 14 ∨ j = 15 := by simp at a3 a4; omega
    rcases this with rfl | rfl | rfl | rfl | rfl | rfl | rfl <;> decide
  all_goals simp [jcd, cdC]
theorem cd_M {g i j : Nat} (h : gI rdM g i j) : jcd g j ∈ cdM := by
  obtain ⟨r, hr, e, -, -, a3, a4⟩ := h
  simp only [rdM, List.mem_cons, List.not_mem_nil, or_false] at hr
  rcases hr with rfl | rfl | rfl | rfl <;> cases e
  · have : j = 1 ∨ j = 2 ∨ j = 3 := by simp at a3 a4; omega
    rcases this with rfl | rfl | rfl <;> decide
  all_goals simp [jcd, cdM]
theorem cd_no {A W : List Nat} (hw : A.all (fun c => !(jel c W)) = true) {c : Nat} (hc : c ∈ A) : jel c W = false := by
  have := List.all_eq_true.mp hw c hc
  cases e : jel c W with
  | false => rfl
  | true => rw [e] at this; cases this
theorem RD_frM {W : List Nat} {I J J' : jI} (hG : gG aGI I) (q : RD2 I J) (f : fr W J J') (hw : cdM.all (fun c => !(jel c W)) = true) : RD2 I J' := RD_cells hG q (fun _ _ _ _ => rfl) (fun g i j z => f g i j (cd_no hw (cd_M z)))
theorem RD_frC {W : List Nat} {I I' J : jI} (hG : gG aGI I) (q : RD2 I J) (f : fr W I I') (hw : cdC.all (fun c => !(jel c W)) = true) : RD2 I' J := RD_cells hG q (fun g i j z => f g i j (cd_no hw (cd_C z))) (fun _ _ _ _ => rfl)
theorem RD_fr {W : List Nat} {I I' : jI} (hG : gG aGI I) (q : RD2 I I) (f : fr W I I') (hw : (cdC ++ cdM).all (fun c => !(jel c W)) = true) : RD2 I' I' := RD_cells hG q (fun g i j z => f g i j (cd_no hw (List.mem_append_left _ (cd_C z)))) (fun g i j z => f g i j (cd_no hw (List.mem_append_right _ (cd_M z))))
theorem pKR {m : Nat} {c : aK} (h : aKP aGI m c) {d : Nat} {as : List jV} {I : jI} {L : jL} (has : aAs c.1 as) (hG : gG aGI I) : jPM d m as (I, L) (fun _ σ => gR c.2.2.1 I L σ.1 σ.2) := pK h has hG (fun _ _ _ _ r _ => r)
noncomputable def rtW : List aR := [(16, (0, 0), (0, 3)), (30, (0, 3), (0, 59)), (37, (0, 0), (0, 3)), (38, (0, 0), (0, 239))]
theorem RT_gR {W : List aR} {I I' : jI} {L L' : jL} (hw : rApart W rtW = true) (q : RT I) (h : gR W I L I' L') : RT I' := by
  have key : ∀ g i j, gI rtW g i j → I' g i j = I g i j := fun g i j z => (h g i j (rApart_of hw z)).1
  refine ⟨fun t ht => ?_, fun t j ht hj => ?_⟩
  · rw [key 37 0 t ⟨(37, (0, 0), (0, 3)), by decide, rfl, by simp, by simp, by simp, by simp; omega⟩, key 16 0 t ⟨(16, (0, 0), (0, 3)), by decide, rfl, by simp, by simp, by simp, by simp; omega⟩]
    exact q.1 t ht
  · rw [key 38 0 (60 * t + j) ⟨(38, (0, 0), (0, 239)), by decide, rfl, by simp, by simp, by simp; omega, by simp; omega⟩, key 30 t j ⟨(30, (0, 3), (0, 59)), by decide, rfl, by simp, by simp; omega, by simp, by simp; omega⟩]
    exact q.2 t j ht hj
theorem Pq81 {d : Nat} {a1 : Int32} {a2 : Int32} {I : jI} {L : jL} (hG : gG aGI I) (hJ : jJ I) (q : RD2 I I) : jPM d 81 [.inr (0, 0), .inl (.inl a1), .inl (.inl a2)] (I, L) (fun v σ => (∃ r, d81 a1 a2 I = some r ∧ v = some (.inl (.inl r.1)) ∧ σ.1 = r.2) ∧ fr [19, 20, 22, 23, 5009, 5010, 5011, 5012, 5013, 5014, 5015] I σ.1) := by
  obtain ⟨r, r', e, -⟩ := buy_eq a1 a2 hG q
  exact jPM_and (D81 e ⟨r, e, rfl, rfl⟩) (Fx81 (fun _ I' L' f => f))
theorem Pq166 {d : Nat} {a1 : Int32} {a2 : Int32} {I I1 : jI} {L : jL} (hG : gG aGI I) (g1 : gG aGI I1) (hJ : jJ I) (q : RD2 I I) (f : fr [19, 20, 22, 23, 5009, 5010, 5011, 5012, 5013, 5014, 5015] I I1) : jPM d 166 [.inr (31, 0), .inl (.inl a1), .inl (.inl a2)] (I1, L) (fun v σ => (∃ r, d166 a1 a2 I1 = some r ∧ v = some (.inl (.inl r.1)) ∧ σ.1 = r.2) ∧ fr [32] I1 σ.1) := by
  obtain ⟨r, r', -, e, -⟩ := buy_eq a1 a2 hG (RD_frM hG q f rfl)
  exact jPM_and (D166 e ⟨r', e, rfl, rfl⟩) (Fx166 (fun _ I' L' f => f))
theorem Qq81 {a1 : Int32} {a2 : Int32} {x1 x2 : Int32} {I I1 I2 : jI} (hG : gG aGI I) (g1 : gG aGI I1) (hJ : jJ I) (q : RD2 I I) (q1 : (∃ r, d81 a1 a2 I = some r ∧ (some (.inl (.inl x1)) : Option jV) = some (.inl (.inl r.1)) ∧ I1 = r.2) ∧ fr [19, 20, 22, 23, 5009, 5010, 5011, 5012, 5013, 5014, 5015] I I1) (q2 : (∃ r, d166 a1 a2 I1 = some r ∧ (some (.inl (.inl x2)) : Option jV) = some (.inl (.inl r.1)) ∧ I2 = r.2) ∧ fr [32] I1 I2) : x1 = x2 ∧ RD2 I2 I2 := by
  obtain ⟨⟨s, c1, c2, c3⟩, f⟩ := q1
  obtain ⟨r, r', e, e', k, z⟩ := buy_eq a1 a2 hG (RD_frM hG q f rfl)
  obtain ⟨⟨s', b1, b2, b3⟩, f2⟩ := q2
  rw [e] at c1
  rw [e'] at b1
  cases c1
  cases b1
  cases c2
  cases b2
  rw [← b3] at z
  rw [← c3] at z
  exact ⟨k, RD_frC g1 z f2 rfl⟩
theorem Pq82 {d : Nat} {I : jI} {L : jL} (hG : gG aGI I) (hJ : jJ I) (q : RD2 I I) : jPM d 82 [.inr (0, 0)] (I, L) (fun v σ => (∃ r, d82 I = some r ∧ v = some (.inl (.inl r.1)) ∧ σ.1 = r.2) ∧ fr [19, 20, 22, 23, 5009, 5010, 5011, 5012, 5013, 5014, 5015] I σ.1) := by
  obtain ⟨r, r', e, -⟩ := week_eq hG q
  exact jPM_and (D82 e ⟨r, e, rfl, rfl⟩) (Fx82 (fun _ I' L' f => f))
theorem Pq168 {d : Nat} {I I1 : jI} {L : jL} (hG : gG aGI I) (g1 : gG aGI I1) (hJ : jJ I) (q : RD2 I I) (f : fr [19, 20, 22, 23, 5009, 5010, 5011, 5012, 5013, 5014, 5015] I I1) : jPM d 168 [.inr (31, 0)] (I1, L) (fun v σ => (∃ r, d168 I1 = some r ∧ v = some (.inl (.inl r.1)) ∧ σ.1 = r.2) ∧ fr [32] I1 σ.1) := by
  obtain ⟨r, r', -, e, -⟩ := week_eq hG (RD_frM hG q f rfl)
  exact jPM_and (D168 e ⟨r', e, rfl, rfl⟩) (Fx168 (fun _ I' L' f => f))
theorem Qq82 {x1 x2 : Int32} {I I1 I2 : jI} (hG : gG aGI I) (g1 : gG aGI I1) (hJ : jJ I) (q : RD2 I I) (q1 : (∃ r, d82 I = some r ∧ (some (.inl (.inl x1)) : Option jV) = some (.inl (.inl r.1)) ∧ I1 = r.2) ∧ fr [19, 20, 22, 23, 5009, 5010, 5011, 5012, 5013, 5014, 5015] I I1) (q2 : (∃ r, d168 I1 = some r ∧ (some (.inl (.inl x2)) : Option jV) = some (.inl (.inl r.1)) ∧ I2 = r.2) ∧ fr [32] I1 I2) : x1 = x2 ∧ RD2 I2 I2 := by
  obtain ⟨⟨s, c1, c2, c3⟩, f⟩ := q1
  obtain ⟨r, r', e, e', k, z⟩ := week_eq hG (RD_frM hG q f rfl)
  obtain ⟨⟨s', b1, b2, b3⟩, f2⟩ := q2
  rw [e] at c1
  rw [e'] at b1
  cases c1
  cases b1
  cases c2
  cases b2
  rw [← b3] at z
  rw [← c3] at z
  exact ⟨k, RD_frC g1 z f2 rfl⟩
theorem Pq83 {d : Nat} {a1 : Int32} {I : jI} {L : jL} (hG : gG aGI I) (hJ : jJ I) (q : RD2 I I) : jPM d 83 [.inr (0, 0), .inl (.inl a1)] (I, L) (fun v σ => (∃ r, d83 a1 I = some r ∧ v = some (.inl (.inl r.1)) ∧ σ.1 = r.2) ∧ fr [19, 20, 22, 23, 5009, 5010, 5011, 5012, 5013, 5014, 5015] I σ.1) := by
  obtain ⟨r, r', e, -⟩ := shrink_eq a1 hG q
  exact jPM_and (D83 e ⟨r, e, rfl, rfl⟩) (Fx83 (fun _ I' L' f => f))
theorem Pq169 {d : Nat} {a1 : Int32} {I I1 : jI} {L : jL} (hG : gG aGI I) (g1 : gG aGI I1) (hJ : jJ I) (q : RD2 I I) (f : fr [19, 20, 22, 23, 5009, 5010, 5011, 5012, 5013, 5014, 5015] I I1) : jPM d 169 [.inr (31, 0), .inl (.inl a1)] (I1, L) (fun v σ => (∃ r, d169 a1 I1 = some r ∧ v = some (.inl (.inl r.1)) ∧ σ.1 = r.2) ∧ fr [32] I1 σ.1) := by
  obtain ⟨r, r', -, e, -⟩ := shrink_eq a1 hG (RD_frM hG q f rfl)
  exact jPM_and (D169 e ⟨r', e, rfl, rfl⟩) (Fx169 (fun _ I' L' f => f))
theorem Qq83 {a1 : Int32} {x1 x2 : Int32} {I I1 I2 : jI} (hG : gG aGI I) (g1 : gG aGI I1) (hJ : jJ I) (q : RD2 I I) (q1 : (∃ r, d83 a1 I = some r ∧ (some (.inl (.inl x1)) : Option jV) = some (.inl (.inl r.1)) ∧ I1 = r.2) ∧ fr [19, 20, 22, 23, 5009, 5010, 5011, 5012, 5013, 5014, 5015] I I1) (q2 : (∃ r, d169 a1 I1 = some r ∧ (some (.inl (.inl x2)) : Option jV) = some (.inl (.inl r.1)) ∧ I2 = r.2) ∧ fr [32] I1 I2) : x1 = x2 ∧ RD2 I2 I2 := by
  obtain ⟨⟨s, c1, c2, c3⟩, f⟩ := q1
  obtain ⟨r, r', e, e', k, z⟩ := shrink_eq a1 hG (RD_frM hG q f rfl)
  obtain ⟨⟨s', b1, b2, b3⟩, f2⟩ := q2
  rw [e] at c1
  rw [e'] at b1
  cases c1
  cases b1
  cases c2
  cases b2
  rw [← b3] at z
  rw [← c3] at z
  exact ⟨k, RD_frC g1 z f2 rfl⟩
theorem Pq84 {d : Nat} {a1 : Int32} {a2 : Int32} {I : jI} {L : jL} (hG : gG aGI I) (hJ : jJ I) (q : RD2 I I) : jPM d 84 [.inr (0, 0), .inl (.inl a1), .inl (.inl a2)] (I, L) (fun v σ => (∃ r, d84 a1 a2 I = some r ∧ v = some (.inl (.inl r.1)) ∧ σ.1 = r.2) ∧ fr [19, 20, 22, 23, 5009, 5010, 5011, 5012, 5013, 5014, 5015] I σ.1) := by
  obtain ⟨r, r', e, -⟩ := price_eq a1 a2 hG q
  exact jPM_and (D84 e ⟨r, e, rfl, rfl⟩) (Fx84 (fun _ I' L' f => f))
theorem Pq171 {d : Nat} {a1 : Int32} {a2 : Int32} {I I1 : jI} {L : jL} (hG : gG aGI I) (g1 : gG aGI I1) (hJ : jJ I) (q : RD2 I I) (f : fr [19, 20, 22, 23, 5009, 5010, 5011, 5012, 5013, 5014, 5015] I I1) : jPM d 171 [.inr (31, 0), .inl (.inl a1), .inl (.inl a2)] (I1, L) (fun v σ => (∃ r, d171 a1 a2 I1 = some r ∧ v = some (.inl (.inl r.1)) ∧ σ.1 = r.2) ∧ fr [32] I1 σ.1) := by
  obtain ⟨r, r', -, e, -⟩ := price_eq a1 a2 hG (RD_frM hG q f rfl)
  exact jPM_and (D171 e ⟨r', e, rfl, rfl⟩) (Fx171 (fun _ I' L' f => f))
theorem Qq84 {a1 : Int32} {a2 : Int32} {x1 x2 : Int32} {I I1 I2 : jI} (hG : gG aGI I) (g1 : gG aGI I1) (hJ : jJ I) (q : RD2 I I) (q1 : (∃ r, d84 a1 a2 I = some r ∧ (some (.inl (.inl x1)) : Option jV) = some (.inl (.inl r.1)) ∧ I1 = r.2) ∧ fr [19, 20, 22, 23, 5009, 5010, 5011, 5012, 5013, 5014, 5015] I I1) (q2 : (∃ r, d171 a1 a2 I1 = some r ∧ (some (.inl (.inl x2)) : Option jV) = some (.inl (.inl r.1)) ∧ I2 = r.2) ∧ fr [32] I1 I2) : x1 = x2 ∧ RD2 I2 I2 := by
  obtain ⟨⟨s, c1, c2, c3⟩, f⟩ := q1
  obtain ⟨r, r', e, e', k, z⟩ := price_eq a1 a2 hG (RD_frM hG q f rfl)
  obtain ⟨⟨s', b1, b2, b3⟩, f2⟩ := q2
  rw [e] at c1
  rw [e'] at b1
  cases c1
  cases b1
  cases c2
  cases b2
  rw [← b3] at z
  rw [← c3] at z
  exact ⟨k, RD_frC g1 z f2 rfl⟩
theorem Pq85 {d : Nat} {a1 : Int32} {I : jI} {L : jL} (hG : gG aGI I) (hJ : jJ I) (q : RD2 I I) : jPM d 85 [.inr (0, 0), .inl (.inl a1)] (I, L) (fun v σ => (∃ r, d85 a1 I = some r ∧ v = some (.inl (.inl r.1)) ∧ σ.1 = r.2) ∧ fr [19, 20, 22, 23, 5009, 5010, 5011, 5012, 5013, 5014, 5015] I σ.1) := by
  obtain ⟨r, r', e, -⟩ := card_eq a1 hG q
  exact jPM_and (D85 e ⟨r, e, rfl, rfl⟩) (Fx85 (fun _ I' L' f => f))
theorem Pq172 {d : Nat} {a1 : Int32} {I I1 : jI} {L : jL} (hG : gG aGI I) (g1 : gG aGI I1) (hJ : jJ I) (q : RD2 I I) (f : fr [19, 20, 22, 23, 5009, 5010, 5011, 5012, 5013, 5014, 5015] I I1) : jPM d 172 [.inr (31, 0), .inl (.inl a1)] (I1, L) (fun v σ => (∃ r, d172 a1 I1 = some r ∧ v = some (.inl (.inl r.1)) ∧ σ.1 = r.2) ∧ fr [32] I1 σ.1) := by
  obtain ⟨r, r', -, e, -⟩ := card_eq a1 hG (RD_frM hG q f rfl)
  exact jPM_and (D172 e ⟨r', e, rfl, rfl⟩) (Fx172 (fun _ I' L' f => f))
theorem Qq85 {a1 : Int32} {x1 x2 : Int32} {I I1 I2 : jI} (hG : gG aGI I) (g1 : gG aGI I1) (hJ : jJ I) (q : RD2 I I) (q1 : (∃ r, d85 a1 I = some r ∧ (some (.inl (.inl x1)) : Option jV) = some (.inl (.inl r.1)) ∧ I1 = r.2) ∧ fr [19, 20, 22, 23, 5009, 5010, 5011, 5012, 5013, 5014, 5015] I I1) (q2 : (∃ r, d172 a1 I1 = some r ∧ (some (.inl (.inl x2)) : Option jV) = some (.inl (.inl r.1)) ∧ I2 = r.2) ∧ fr [32] I1 I2) : x1 = x2 ∧ RD2 I2 I2 := by
  obtain ⟨⟨s, c1, c2, c3⟩, f⟩ := q1
  obtain ⟨r, r', e, e', k, z⟩ := card_eq a1 hG (RD_frM hG q f rfl)
  obtain ⟨⟨s', b1, b2, b3⟩, f2⟩ := q2
  rw [e] at c1
  rw [e'] at b1
  cases c1
  cases b1
  cases c2
  cases b2
  rw [← b3] at z
  rw [← c3] at z
  exact ⟨k, RD_frC g1 z f2 rfl⟩
theorem Pq86 {d : Nat} {a1 : Int32} {I : jI} {L : jL} (hG : gG aGI I) (hJ : jJ I) (q : RD2 I I) : jPM d 86 [.inr (0, 0), .inl (.inl a1)] (I, L) (fun v σ => (∃ r, d86 a1 I = some r ∧ v = some (.inl (.inl r.1)) ∧ σ.1 = r.2) ∧ fr [18, 19, 20, 21, 22, 23, 5006, 5007, 5008, 5009, 5010, 5011, 5012, 5013, 5014, 5015] I σ.1) := by
  obtain ⟨r, r', e, -⟩ := undo_eq a1 hG hJ q
  exact jPM_and (D86 e ⟨r, e, rfl, rfl⟩) (Fx86 (fun _ I' L' f => f))
theorem Pq173 {d : Nat} {a1 : Int32} {I I1 : jI} {L : jL} (hG : gG aGI I) (g1 : gG aGI I1) (hJ : jJ I) (q : RD2 I I) (f : fr [18, 19, 20, 21, 22, 23, 5006, 5007, 5008, 5009, 5010, 5011, 5012, 5013, 5014, 5015] I I1) : jPM d 173 [.inr (31, 0), .inl (.inl a1)] (I1, L) (fun v σ => (∃ r, d173 a1 I1 = some r ∧ v = some (.inl (.inl r.1)) ∧ σ.1 = r.2) ∧ fr [32] I1 σ.1) := by
  obtain ⟨r, r', -, e, -⟩ := undo_eq a1 hG hJ (RD_frM hG q f rfl)
  exact jPM_and (D173 e ⟨r', e, rfl, rfl⟩) (Fx173 (fun _ I' L' f => f))
theorem Qq86 {a1 : Int32} {x1 x2 : Int32} {I I1 I2 : jI} (hG : gG aGI I) (g1 : gG aGI I1) (hJ : jJ I) (q : RD2 I I) (q1 : (∃ r, d86 a1 I = some r ∧ (some (.inl (.inl x1)) : Option jV) = some (.inl (.inl r.1)) ∧ I1 = r.2) ∧ fr [18, 19, 20, 21, 22, 23, 5006, 5007, 5008, 5009, 5010, 5011, 5012, 5013, 5014, 5015] I I1) (q2 : (∃ r, d173 a1 I1 = some r ∧ (some (.inl (.inl x2)) : Option jV) = some (.inl (.inl r.1)) ∧ I2 = r.2) ∧ fr [32] I1 I2) : RD2 I2 I2 := by
  obtain ⟨⟨s, c1, c2, c3⟩, f⟩ := q1
  obtain ⟨r, r', e, e', z⟩ := undo_eq a1 hG hJ (RD_frM hG q f rfl)
  obtain ⟨⟨s', b1, b2, b3⟩, f2⟩ := q2
  rw [e] at c1
  rw [e'] at b1
  cases c1
  cases b1
  cases c2
  cases b2
  rw [← b3] at z
  rw [← c3] at z
  exact RD_frC g1 z f2 rfl
theorem Pq87 {d : Nat} {a1 : Int32} {I : jI} {L : jL} (hG : gG aGI I) (hJ : jJ I) (q : RD2 I I) : jPM d 87 [.inr (0, 0), .inl (.inl a1)] (I, L) (fun v σ => (∃ r, d87 a1 I = some r ∧ v = some (.inl (.inl r.1)) ∧ σ.1 = r.2) ∧ fr [6, 18, 19, 20, 21, 22, 23, 5006, 5007, 5008, 5009, 5010, 5011, 5012, 5013, 5014, 5015] I σ.1) := by
  obtain ⟨r, r', e, -⟩ := keep_eq a1 hG q
  exact jPM_and (D87 e ⟨r, e, rfl, rfl⟩) (Fx87 (fun _ I' L' f => f))
theorem Pq175 {d : Nat} {a1 : Int32} {I I1 : jI} {L : jL} (hG : gG aGI I) (g1 : gG aGI I1) (hJ : jJ I) (q : RD2 I I) (f : fr [6, 18, 19, 20, 21, 22, 23, 5006, 5007, 5008, 5009, 5010, 5011, 5012, 5013, 5014, 5015] I I1) : jPM d 175 [.inr (31, 0), .inl (.inl a1)] (I1, L) (fun v σ => (∃ r, d175 a1 I1 = some r ∧ v = some (.inl (.inl r.1)) ∧ σ.1 = r.2) ∧ fr [32] I1 σ.1) := by
  obtain ⟨r, r', -, e, -⟩ := keep_eq a1 hG (RD_frM hG q f rfl)
  exact jPM_and (D175 e ⟨r', e, rfl, rfl⟩) (Fx175 (fun _ I' L' f => f))
theorem Qq87 {a1 : Int32} {x1 x2 : Int32} {I I1 I2 : jI} (hG : gG aGI I) (g1 : gG aGI I1) (hJ : jJ I) (q : RD2 I I) (q1 : (∃ r, d87 a1 I = some r ∧ (some (.inl (.inl x1)) : Option jV) = some (.inl (.inl r.1)) ∧ I1 = r.2) ∧ fr [6, 18, 19, 20, 21, 22, 23, 5006, 5007, 5008, 5009, 5010, 5011, 5012, 5013, 5014, 5015] I I1) (q2 : (∃ r, d175 a1 I1 = some r ∧ (some (.inl (.inl x2)) : Option jV) = some (.inl (.inl r.1)) ∧ I2 = r.2) ∧ fr [32] I1 I2) : x1 = x2 ∧ RD2 I2 I2 := by
  obtain ⟨⟨s, c1, c2, c3⟩, f⟩ := q1
  obtain ⟨r, r', e, e', k, z⟩ := keep_eq a1 hG (RD_frM hG q f rfl)
  obtain ⟨⟨s', b1, b2, b3⟩, f2⟩ := q2
  rw [e] at c1
  rw [e'] at b1
  cases c1
  cases b1
  cases c2
  cases b2
  rw [← b3] at z
  rw [← c3] at z
  exact ⟨k, RD_frC g1 z f2 rfl⟩
theorem Pq88 {d : Nat} {a1 : Int32} {I : jI} {L : jL} (hG : gG aGI I) (hJ : jJ I) (q : RD2 I I) : jPM d 88 [.inr (0, 0), .inl (.inl a1)] (I, L) (fun v σ => (∃ r, d88 a1 I = some r ∧ v = some (.inl (.inl r.1)) ∧ σ.1 = r.2) ∧ fr [12, 18, 19, 20, 21, 22, 23, 1013, 5006, 5007, 5008, 5009, 5010, 5011, 5012, 5013, 5014, 5015] I σ.1) := by
  obtain ⟨r, r', e, -⟩ := on_eq a1 hG q
  exact jPM_and (D88 e ⟨r, e, rfl, rfl⟩) (Fx88 (fun _ I' L' f => f))
theorem Pq176 {d : Nat} {a1 : Int32} {I I1 : jI} {L : jL} (hG : gG aGI I) (g1 : gG aGI I1) (hJ : jJ I) (q : RD2 I I) (f : fr [12, 18, 19, 20, 21, 22, 23, 1013, 5006, 5007, 5008, 5009, 5010, 5011, 5012, 5013, 5014, 5015] I I1) : jPM d 176 [.inr (31, 0), .inl (.inl a1)] (I1, L) (fun v σ => (∃ r, d176 a1 I1 = some r ∧ v = some (.inl (.inl r.1)) ∧ σ.1 = r.2) ∧ fr [32, 39, 32013] I1 σ.1) := by
  obtain ⟨r, r', -, e, -⟩ := on_eq a1 hG (RD_frM hG q f rfl)
  exact jPM_and (D176 e ⟨r', e, rfl, rfl⟩) (Fx176 (fun _ I' L' f => f))
theorem Qq88 {a1 : Int32} {x1 x2 : Int32} {I I1 I2 : jI} (hG : gG aGI I) (g1 : gG aGI I1) (hJ : jJ I) (q : RD2 I I) (q1 : (∃ r, d88 a1 I = some r ∧ (some (.inl (.inl x1)) : Option jV) = some (.inl (.inl r.1)) ∧ I1 = r.2) ∧ fr [12, 18, 19, 20, 21, 22, 23, 1013, 5006, 5007, 5008, 5009, 5010, 5011, 5012, 5013, 5014, 5015] I I1) (q2 : (∃ r, d176 a1 I1 = some r ∧ (some (.inl (.inl x2)) : Option jV) = some (.inl (.inl r.1)) ∧ I2 = r.2) ∧ fr [32, 39, 32013] I1 I2) : x1 = x2 ∧ RD2 I2 I2 := by
  obtain ⟨⟨s, c1, c2, c3⟩, f⟩ := q1
  obtain ⟨r, r', e, e', k, z⟩ := on_eq a1 hG (RD_frM hG q f rfl)
  obtain ⟨⟨s', b1, b2, b3⟩, f2⟩ := q2
  rw [e] at c1
  rw [e'] at b1
  cases c1
  cases b1
  cases c2
  cases b2
  rw [← b3] at z
  rw [← c3] at z
  exact ⟨k, RD_frC g1 z f2 rfl⟩
theorem Pq105 {d : Nat} {a1 : Int32} {a2 : Int32} {I : jI} {L : jL} (hG : gG aGI I) (hJ : jJ I) (q : RD2 I I) : jPM d 105 [.inr (0, 0), .inl (.inl a1), .inl (.inl a2)] (I, L) (fun v σ => (∃ r, d105 a1 a2 I = some r ∧ v = some (.inl (.inl r.1)) ∧ σ.1 = r.2) ∧ fr [19, 20, 22, 23, 5009, 5010, 5011, 5012, 5013, 5014, 5015] I σ.1) := by
  obtain ⟨r, r', e, -⟩ := lots_eq a1 a2 hG hJ q
  exact jPM_and (D105 e ⟨r, e, rfl, rfl⟩) (Fx105 (fun _ I' L' f => f))
theorem Pq207 {d : Nat} {a1 : Int32} {a2 : Int32} {I I1 : jI} {L : jL} (hG : gG aGI I) (g1 : gG aGI I1) (hJ : jJ I) (q : RD2 I I) (f : fr [19, 20, 22, 23, 5009, 5010, 5011, 5012, 5013, 5014, 5015] I I1) : jPM d 207 [.inr (31, 0), .inl (.inl a1), .inl (.inl a2)] (I1, L) (fun v σ => (∃ r, d207 a1 a2 I1 = some r ∧ v = some (.inl (.inl r.1)) ∧ σ.1 = r.2) ∧ fr [32] I1 σ.1) := by
  obtain ⟨r, r', -, e, -⟩ := lots_eq a1 a2 hG hJ (RD_frM hG q f rfl)
  exact jPM_and (D207 e ⟨r', e, rfl, rfl⟩) (Fx207 (fun _ I' L' f => f))
theorem Qq105 {a1 : Int32} {a2 : Int32} {x1 x2 : Int32} {I I1 I2 : jI} (hG : gG aGI I) (g1 : gG aGI I1) (hJ : jJ I) (q : RD2 I I) (q1 : (∃ r, d105 a1 a2 I = some r ∧ (some (.inl (.inl x1)) : Option jV) = some (.inl (.inl r.1)) ∧ I1 = r.2) ∧ fr [19, 20, 22, 23, 5009, 5010, 5011, 5012, 5013, 5014, 5015] I I1) (q2 : (∃ r, d207 a1 a2 I1 = some r ∧ (some (.inl (.inl x2)) : Option jV) = some (.inl (.inl r.1)) ∧ I2 = r.2) ∧ fr [32] I1 I2) : x1 = x2 ∧ RD2 I2 I2 := by
  obtain ⟨⟨s, c1, c2, c3⟩, f⟩ := q1
  obtain ⟨r, r', e, e', k, z⟩ := lots_eq a1 a2 hG hJ (RD_frM hG q f rfl)
  obtain ⟨⟨s', b1, b2, b3⟩, f2⟩ := q2
  rw [e] at c1
  rw [e'] at b1
  cases c1
  cases b1
  cases c2
  cases b2
  rw [← b3] at z
  rw [← c3] at z
  exact ⟨k, RD_frC g1 z f2 rfl⟩
theorem Pq77 {d : Nat} {a1 : Int32} {I : jI} {L : jL} (hG : gG aGI I) (hJ : jJ I) (hT : RT I) (q : RD2 I I) : jPM d 77 [.inr (0, 0), .inl (.inl a1)] (I, L) (fun v σ => (∃ r, d77 a1 I = some r ∧ v = some (.inl (.inl r.1)) ∧ σ.1 = r.2) ∧ fr [6, 12, 17, 18, 19, 20, 21, 22, 23, 1013, 4002, 4003, 4004, 5006, 5007, 5008, 5009, 5010, 5011, 5012, 5013, 5014, 5015] I σ.1) := by
  obtain ⟨r, r', e, -⟩ := house_eq2 a1 hG hG hJ hT rfl rfl q
  exact jPM_and (D77 e ⟨r, e, rfl, rfl⟩) (Fx77 (fun _ I' L' f => f))
theorem Pq150 {d : Nat} {a1 : Int32} {I I1 : jI} {L : jL} (hG : gG aGI I) (g1 : gG aGI I1) (hJ : jJ I) (hT : RT I) (q : RD2 I I) (f : fr [6, 12, 17, 18, 19, 20, 21, 22, 23, 1013, 4002, 4003, 4004, 5006, 5007, 5008, 5009, 5010, 5011, 5012, 5013, 5014, 5015] I I1) : jPM d 150 [.inr (31, 0), .inl (.inl a1)] (I1, L) (fun v σ => (∃ r, d150 a1 I1 = some r ∧ v = some (.inl (.inl r.1)) ∧ σ.1 = r.2) ∧ fr [32, 33, 34, 39, 40, 32001, 32002, 32003, 32013, 32015, 32016, 32017, 32018, 32019, 32021] I1 σ.1) := by
  obtain ⟨r, r', -, e, -⟩ := house_eq2 a1 hG g1 hJ hT (fr_arr f (fun _ => rfl) rfl) (fr_arr f (fun _ => rfl) rfl) (RD_frM hG q f rfl)
  exact jPM_and (D150 e ⟨r', e, rfl, rfl⟩) (Fx150 (fun _ I' L' f => f))
theorem Qq77 {a1 : Int32} {x1 x2 : Int32} {I I1 I2 : jI} (hG : gG aGI I) (g1 : gG aGI I1) (hJ : jJ I) (hT : RT I) (q : RD2 I I) (q1 : (∃ r, d77 a1 I = some r ∧ (some (.inl (.inl x1)) : Option jV) = some (.inl (.inl r.1)) ∧ I1 = r.2) ∧ fr [6, 12, 17, 18, 19, 20, 21, 22, 23, 1013, 4002, 4003, 4004, 5006, 5007, 5008, 5009, 5010, 5011, 5012, 5013, 5014, 5015] I I1) (q2 : (∃ r, d150 a1 I1 = some r ∧ (some (.inl (.inl x2)) : Option jV) = some (.inl (.inl r.1)) ∧ I2 = r.2) ∧ fr [32, 33, 34, 39, 40, 32001, 32002, 32003, 32013, 32015, 32016, 32017, 32018, 32019, 32021] I1 I2) : x1 = x2 ∧ RD2 I2 I2 := by
  obtain ⟨⟨s, c1, c2, c3⟩, f⟩ := q1
  obtain ⟨r, r', e, e', k, z⟩ := house_eq2 a1 hG g1 hJ hT (fr_arr f (fun _ => rfl) rfl) (fr_arr f (fun _ => rfl) rfl) (RD_frM hG q f rfl)
  obtain ⟨⟨s', b1, b2, b3⟩, f2⟩ := q2
  rw [e] at c1
  rw [e'] at b1
  cases c1
  cases b1
  cases c2
  cases b2
  rw [← b3] at z
  rw [← c3] at z
  exact ⟨k, RD_frC g1 z f2 rfl⟩
end
section
/-! off, lasts: weeks aside -/
noncomputable def asD (I Y : jI) (nd : Int32) : Prop := (∀ k, k < 10 → Y 32 0 (4603 + k) = I 23 6 k ∧ 0 ≤ (I 23 6 k).toInt) ∧ I 4 1 7 = nd ∧ Y 31 0 1 = nd
theorem aside_w {I Y : jI} {nd : Int32} (hn : 0 ≤ nd.toInt) (q : asD I Y nd) : ∃ r r', d13 6 (I 4 1 7) I = some r ∧ d167 4596 Y = some r' ∧ ((d14 6 r.2).1 = r'.1 ∧ r.1 = nd - (eatV 10 nd (I 23 6) 0).1 ∧ r.2 4 1 7 = nd) ∧ asD (d14 6 r.2).2 r'.2 nd ∧ r'.2 32 0 4600 = Y 32 0 4600 + (eatV 10 nd (I 23 6) 0).1 ∧ (r'.2 32 0 4 = Y 32 0 4) ∧ (0 ≤ (eatV 10 nd (I 23 6) 0).1.toInt ∧ (eatV 10 nd (I 23 6) 0).1.toInt ≤ nd.toInt) := by
  obtain ⟨q1, q2, q3⟩ := q
  have ev := eatV_le 10 nd (I 23 6) 0 hn (fun j _ b => (q1 j (by omega)).2)
  obtain ⟨r, r1, ⟨r2, r3⟩, r4⟩ := eat_c (a0 := 6) (nd := nd) (I := I) hn (fun k hk => (q1 k hk).2)
  obtain ⟨s, s1, s2, s3, s4⟩ := pass_m (a := 4596) ⟨by decide, by decide⟩ (b := 4596) rfl (I := Y)
  have x := eatV_ext 10 nd (fun k => Y 32 0 (4596 + 7 + k)) (I 23 6) 0 (fun j _ b => (q1 j (by omega)).1)
  rw [q3] at s2
  refine ⟨r, s, by rw [q2]; exact r1, s1, ⟨?_, r2, ?_⟩, ⟨fun k hk => ?_, ?_, ?_⟩, ?_, ?_, ev.1⟩
  · show r.2 23 6 0 = s.1
    rw [s2, r3]
    exact (x.2 0 (by decide) (by decide)).symm
  · rw [r4 4 1 7 (by decide), q2]
  · rw [off_c, s3, r3]
    unfold wkM
    rw [q3, if_neg (by omega), if_neg (by omega), if_neg (by omega), if_neg (by omega)]
    by_cases c : k < 9
    · rw [if_pos (by omega), if_pos c, show 4603 + k - 4596 - 6 = k + 1 by omega]
      exact ⟨x.2 (k + 1) (by omega) (by omega), (ev.2 (k + 1) (by omega) (by omega)).1⟩
    · rw [if_neg (by omega), if_pos (by omega), if_neg c, if_pos (by omega)]
      exact ⟨rfl, by decide⟩
  · rw [off_o (by decide), r4 4 1 7 (by decide), q2]
  · rw [s4 31 (by decide)]; exact q3
  · rw [s3]
    unfold wkM
    rw [q3, if_neg (by decide), if_neg (by decide), if_pos rfl, x.1]
  · rw [s3, wk_o (by decide)]
theorem lay_l : ∀ (N F : Nat) (x : Int32) (Y : jI), x.toInt + (N : Int) = 29 → 0 ≤ x.toInt → N < F → ∃ r, d185_2 F x Y = some r ∧ (∀ j, r 32 0 j = if 4596 + x.toNatClampNeg ≤ j ∧ j < 4625 then Y 32 0 (j - 4596) else Y 32 0 j) ∧ ∀ g, ¬ g = 32 → r g = Y g
  | _, 0, _, _, _, _, h => absurd h (by omega)
  | 0, F + 1, x, Y, hx, h0, _ => by
    have nx := cl_t h0
    rw [d185_2, if_pos (show (29 : Int32) ≤ x by rw [le_t]; show (29 : Int) ≤ _; omega)]
    exact ⟨_, rfl, fun j => by rw [if_neg (by omega)], fun _ _ => rfl⟩
  | N + 1, F + 1, x, Y, hx, h0, hF => by
    have nx := cl_t h0
    have e := i32_inc (x := x) (by omega)
    have nx1 := cl_t (x := x + 1) (by omega)
    have xn : (x + 1).toNatClampNeg = x.toNatClampNeg + 1 := by omega
    have ix : Int32.toNatClampNeg (4596 + x) = 4596 + x.toNatClampNeg := by rw [(ixa (a := 4596) (by decide) (by decide) h0 (by omega)).2]; rfl
    rw [d185_2, if_neg (show ¬ (29 : Int32) ≤ x by rw [le_t]; show ¬ (29 : Int) ≤ _; omega), ix]
    obtain ⟨r, r1, r2, r3⟩ := lay_l N F (x + 1) (jup Y 32 0 (4596 + x.toNatClampNeg) (Y 32 0 x.toNatClampNeg)) (by omega) (by omega) (by omega)
    refine ⟨r, r1, fun j => ?_, fun g h => (r3 g h).trans (jup_g h)⟩
    rw [r2, xn, jup_c, jup_c]
    by_cases c : 4596 + x.toNatClampNeg ≤ j ∧ j < 4625
    · rw [if_pos c]
      by_cases c2 : j = 4596 + x.toNatClampNeg
      · rw [if_neg (by omega), if_pos c2, show j - 4596 = x.toNatClampNeg by omega]
      · rw [if_pos (by omega), if_neg (by omega)]
    · rw [if_neg c, if_neg (by omega), if_neg (by omega)]
theorem lay_m {Y : jI} : ∃ r, d185 Y = some r ∧ (∀ j, j < 29 → r 32 0 (4596 + j) = Y 32 0 j) ∧ (∀ j, j < 4596 → r 32 0 j = Y 32 0 j) ∧ ∀ g, ¬ g = 32 → r g = Y g := by
  obtain ⟨r, r1, r2, r3⟩ := lay_l 29 70 0 Y (by decide) (by decide) (by decide)
  have c0 : Int32.toNatClampNeg 0 = 0 := rfl
  rw [c0] at r2
  unfold d185
  rw [r1]
  refine ⟨r, rfl, fun j hj => ?_, fun j hj => ?_, r3⟩
  · rw [r2, if_pos (by omega), show 4596 + j - 4596 = j by omega]
  · rw [r2, if_neg (by omega)]
theorem d11_c {I : jI} {j : Nat} (h : j < 10) : d11 6 1 I 23 6 j = I 23 1 j := by
  have c0 : Int32.toNatClampNeg 0 = 0 := rfl
  have c10 : Int32.toNatClampNeg 10 = 10 := rfl
  unfold d11 jcpy
  rw [c0, c10, if_pos ⟨rfl, rfl, by omega, by omega⟩, show 0 + (j - 0) = j by omega]
theorem aside_0 {I J Y : jI} {m : Nat} (c : cur I J m) (y1 : ∀ j, j < 29 → Y 32 0 (4596 + j) = J 32 0 j) (y3 : ∀ g, ¬ g = 32 → Y g = J g) : asD (d11 6 1 I) Y (I 4 1 7) := by
  refine ⟨fun k hk => ⟨?_, ?_⟩, ?_, ?_⟩
  · rw [show 4603 + k = 4596 + (7 + k) by omega, y1 _ (by omega), d11_c hk, c.1.2.1 k hk]
  · rw [d11_c hk]; exact c.2.2.1.1 k hk
  · rfl
  · rw [y3 31 (by decide)]; exact c.1.1.2.1
theorem lasts_l {nd : Int32} (hn : 0 ≤ nd.toInt ∧ nd.toInt ≤ 9) : ∀ (N F F' : Nat) (x : Int32) (I Y : jI), x.toInt + (N : Int) = 30 → 0 ≤ x.toInt → N < F → N < F' → asD I Y nd → Y 32 0 4600 = Y 32 0 4 → (0 ≤ (Y 32 0 4).toInt ∧ (Y 32 0 4).toInt ≤ 360) → ∃ r T T', d97_29 F x I = some (r, T) ∧ (d191_16 F' x Y = some (.inl (r, T')) ∨ (r = 30 ∧ d191_16 F' x Y = some (.inr T')))
  | _, 0, _, _, _, _, _, _, h, _, _, _, _ => absurd h (by omega)
  | _, _, 0, _, _, _, _, _, _, h, _, _, _ => absurd h (by omega)
  | 0, F + 1, F' + 1, x, I, Y, hx, h0, _, _, _, _, _ => by
    have e : x = 30 := eq_t.mpr (by show _ = (30 : Int); omega)
    rw [d97_29, d191_16, if_pos (show (30 : Int32) ≤ x by rw [e]; decide), if_pos (show (30 : Int32) ≤ x by rw [e]; decide)]
    exact ⟨_, _, _, rfl, Or.inr ⟨e, rfl⟩⟩
  | N + 1, F + 1, F' + 1, x, I, Y, hx, h0, hF, hF', q, hh, hb => by
    have e := i32_inc (x := x) (by omega)
    obtain ⟨r, r', e1, e2, ⟨e3, e4, e5⟩, e6, e7, e8, e9⟩ := aside_w hn.1 q
    have c4600 : Int32.toNatClampNeg 4600 = 4600 := rfl
    have c4 : Int32.toNatClampNeg 4 = 4 := rfl
    have s1 : (r'.2 32 0 4600).toInt = (Y 32 0 4).toInt + (eatV 10 nd (I 23 6) 0).1.toInt := by rw [e7, hh, i32_add (by omega)]
    have s2 : r.1.toInt = nd.toInt - (eatV 10 nd (I 23 6) 0).1.toInt := by rw [e4, i32_sub (by omega)]
    rw [d97_29, d191_16, if_neg (show ¬ (30 : Int32) ≤ x by rw [le_t]; show ¬ (30 : Int) ≤ _; omega), if_neg (show ¬ (30 : Int32) ≤ x by rw [le_t]; show ¬ (30 : Int) ≤ _; omega), e1, e2]
    dsimp only [Option.bind_some]
    rw [c4600, c4, e5, e8]
    by_cases z : (eatV 10 nd (I 23 6) 0).1.toInt = 0
    · rw [if_pos (show r.1 = nd from eq_t.mpr (by omega)), if_pos (show r'.2 32 0 4600 ≤ Y 32 0 4 by rw [le_t]; omega)]
      exact lasts_l hn N F F' (x + 1) _ _ (by omega) (by omega) (by omega) (by omega) e6 (by rw [e8]; exact eq_t.mpr (by omega)) (by rw [e8]; exact hb)
    · rw [if_neg (show ¬ r.1 = nd from fun w => by rw [w] at s2; omega), if_neg (show ¬ r'.2 32 0 4600 ≤ Y 32 0 4 by rw [le_t]; omega)]
      exact ⟨_, _, _, rfl, Or.inl rfl⟩
theorem lasts_an {I J : jI} (hG : gG aGI I) (q : RD2 I J) : ∃ r r', d97 I = some r ∧ d191 J = some r' ∧ r.1 = r'.1 := by
  have c := RD_cur hG q
  have c3 : J 31 0 3 = I 4 1 6 := c.1.1.1
  unfold d97 d191
  rw [c3]
  by_cases h2 : I 4 1 6 = 0
  · rw [if_pos h2, if_pos h2]
    exact ⟨_, _, rfl, rfl, rfl⟩
  · rw [if_neg h2, if_neg h2]
    obtain ⟨Y, y0, y1, y2, y3⟩ := lay_m (Y := J)
    have j4 : J 32 0 4 = I 4 1 12 := c.1.2.2.2 3 (by decide)
    obtain ⟨r, T, T', t1, t2⟩ := lasts_l (nd := I 4 1 7) c.2.2.2.1.1 30 70 70 0 _ _ (by decide) (by decide) (by decide) (by decide) (aside_0 c y1 y3) (by rw [show 4600 = 4596 + 4 from rfl, y1 4 (by decide), y2 4 (by decide)]) (by rw [y2 4 (by decide), j4]; exact c.2.2.2.1.2.2)
    rw [y0]
    dsimp only [Option.bind_some]
    rw [t1]
    rcases t2 with t2 | ⟨t2, t3⟩
    · rw [t2]
      exact ⟨_, _, rfl, rfl, rfl⟩
    · rw [t3]
      exact ⟨_, _, rfl, rfl, t2⟩
end
section
theorem RD_mid {W : List aR} {I I1 : jI} {L L1 : jL} (hw : rApart W rdM = true) (hG : gG aGI I) (q : RD2 I I) (h : gR W I L I1 L1) : RD2 I I1 := RD_cells hG q (fun _ _ _ _ => rfl) (fun g i j z => (h g i j (rApart_of hw z)).1)
theorem Pa97 {d : Nat} {I : jI} {L : jL} {K : jK} (hG : gG aGI I) (q : RD2 I I) (hK : jPM d 97 [.inr (0, 0)] (I, L) K) : jPM d 97 [.inr (0, 0)] (I, L) (fun v σ => (∃ r, d97 I = some r ∧ v = some (.inl (.inl r.1))) ∧ K v σ) := by
  obtain ⟨r, r', e, e', -⟩ := lasts_an hG q
  exact jPM_and (D97 e ⟨r, e, rfl⟩) hK
theorem Pa191 {d : Nat} {I I1 : jI} {L : jL} {K : jK} (hG : gG aGI I) (q : RD2 I I1) (hK : jPM d 191 [.inr (31, 0)] (I1, L) K) : jPM d 191 [.inr (31, 0)] (I1, L) (fun v σ => (∃ r, d191 I1 = some r ∧ v = some (.inl (.inl r.1))) ∧ K v σ) := by
  obtain ⟨r, r', e, e', -⟩ := lasts_an hG q
  exact jPM_and (D191 e' ⟨r', e', rfl⟩) hK
theorem Qa97 {x1 x2 : Int32} {I I1 : jI} (hG : gG aGI I) (q : RD2 I I1) (q1 : (∃ r, d97 I = some r ∧ (some (.inl (.inl x1)) : Option jV) = some (.inl (.inl r.1)))) (q2 : (∃ r, d191 I1 = some r ∧ (some (.inl (.inl x2)) : Option jV) = some (.inl (.inl r.1)))) : x1 = x2 := by
  obtain ⟨r, r', e, e', k⟩ := lasts_an hG q
  obtain ⟨s, c1, c2⟩ := q1
  obtain ⟨s', b1, b2⟩ := q2
  rw [e] at c1
  rw [e'] at b1
  cases c1
  cases b1
  cases c2
  cases b2
  exact k
end
