section
/-! the calls that change houses, as the law makes them -/
noncomputable def cdC : List Nat := [6, 18, 19, 20, 21, 22, 23, 5006, 5007, 5008, 5009, 5010, 5011, 5012, 5013, 5014, 5015]
noncomputable def cdM : List Nat := [32, 33, 34, 32001, 32002, 32003]
theorem cd_C {g i j : Nat} (h : gI rdC g i j) : jcd g j ∈ cdC := by
  obtain ⟨r, hr, e, -, -, a3, a4⟩ := h
  simp only [rdC, List.mem_cons, List.not_mem_nil, or_false] at hr
  rcases hr with rfl | rfl | rfl | rfl | rfl | rfl | rfl | rfl | rfl <;> cases e
  · have : j = 6 ∨ j = 7 ∨ j = 8 ∨ j = 9 ∨ j = 10 ∨ j = 11 ∨ j = 12 ∨ j = 13 ∨ j = 14 ∨ j = 15 := by simp at a3 a4; omega
    rcases this with rfl | rfl | rfl | rfl | rfl | rfl | rfl | rfl | rfl | rfl <;> decide
  · have : j = 9 ∨ j = 10 ∨ j = 11 ∨ j = 12 ∨ j = 13 ∨ j = 14 ∨ j = 15 := by simp at a3 a4; omega
    rcases this with rfl | rfl | rfl | rfl | rfl | rfl | rfl <;> decide
  all_goals simp [jcd, cdC]
theorem cd_M {g i j : Nat} (h : gI rdM g i j) : jcd g j ∈ cdM := by
  obtain ⟨r, hr, e, -, -, a3, a4⟩ := h
  simp only [rdM, List.mem_cons, List.not_mem_nil, or_false] at hr
  rcases hr with rfl | rfl | rfl | rfl <;> cases e
  · have : j = 1 ∨ j = 2 ∨ j = 3 := by simp at a3 a4; omega
    rcases this with rfl | rfl | rfl <;> decide
  all_goals simp [jcd, cdM]
theorem cd_no {A W : List Nat} (hw : A.all (fun c => !(jel c W)) = true) {c : Nat} (hc : c ∈ A) : jel c W = false := by
  have := List.all_eq_true.mp hw c hc
  cases e : jel c W with
  | false => rfl
  | true => rw [e] at this; cases this
theorem RD_frM {W : List Nat} {I J J' : jI} (hG : gG aGI I) (q : RD2 I J) (f : fr W J J') (hw : cdM.all (fun c => !(jel c W)) = true) : RD2 I J' := RD_cells hG q (fun _ _ _ _ => rfl) (fun g i j z => f g i j (cd_no hw (cd_M z)))
theorem RD_frC {W : List Nat} {I I' J : jI} (hG : gG aGI I) (q : RD2 I J) (f : fr W I I') (hw : cdC.all (fun c => !(jel c W)) = true) : RD2 I' J := RD_cells hG q (fun g i j z => f g i j (cd_no hw (cd_C z))) (fun _ _ _ _ => rfl)
theorem RD_fr {W : List Nat} {I I' : jI} (hG : gG aGI I) (q : RD2 I I) (f : fr W I I') (hw : (cdC ++ cdM).all (fun c => !(jel c W)) = true) : RD2 I' I' := RD_cells hG q (fun g i j z => f g i j (cd_no hw (List.mem_append_left _ (cd_C z)))) (fun g i j z => f g i j (cd_no hw (List.mem_append_right _ (cd_M z))))
theorem pKR {m : Nat} {c : aK} (h : aKP aGI m c) {d : Nat} {as : List jV} {I : jI} {L : jL} (has : aAs c.1 as) (hG : gG aGI I) : jPM d m as (I, L) (fun _ σ => gR c.2.2.1 I L σ.1 σ.2) := pK h has hG (fun _ _ _ _ r _ => r)
noncomputable def rtW : List aR := [(16, (0, 0), (0, 3)), (30, (0, 3), (0, 59)), (37, (0, 0), (0, 3)), (38, (0, 0), (0, 239))]
theorem RT_gR {W : List aR} {I I' : jI} {L L' : jL} (hw : rApart W rtW = true) (q : RT I) (h : gR W I L I' L') : RT I' := by
  have key : ∀ g i j, gI rtW g i j → I' g i j = I g i j := fun g i j z => (h g i j (rApart_of hw z)).1
  refine ⟨fun t ht => ?_, fun t j ht hj => ?_⟩
  · rw [key 37 0 t ⟨(37, (0, 0), (0, 3)), by decide, rfl, by simp, by simp, by simp, by simp; omega⟩, key 16 0 t ⟨(16, (0, 0), (0, 3)), by decide, rfl, by simp, by simp, by simp, by simp; omega⟩]
    exact q.1 t ht
  · rw [key 38 0 (60 * t + j) ⟨(38, (0, 0), (0, 239)), by decide, rfl, by simp, by simp, by simp; omega, by simp; omega⟩, key 30 t j ⟨(30, (0, 3), (0, 59)), by decide, rfl, by simp, by simp; omega, by simp, by simp; omega⟩]
    exact q.2 t j ht hj
theorem Pq81 {d : Nat} {a1 : Int32} {a2 : Int32} {I : jI} {L : jL} (hG : gG aGI I) (hJ : jJ I) (q : RD2 I I) : jPM d 81 [.inr (0, 0), .inl (.inl a1), .inl (.inl a2)] (I, L) (fun v σ => (∃ r, d81 a1 a2 I = some r ∧ v = some (.inl (.inl r.1)) ∧ σ.1 = r.2) ∧ fr [19, 20, 22, 23, 5009, 5010, 5011, 5012, 5013, 5014, 5015] I σ.1) := by
  obtain ⟨r, r', e, -⟩ := buy_eq a1 a2 hG q
  exact jPM_and (D81 e ⟨r, e, rfl, rfl⟩) (Fx81 (fun _ I' L' f => f))
theorem Pq166 {d : Nat} {a1 : Int32} {a2 : Int32} {I I1 : jI} {L : jL} (hG : gG aGI I) (g1 : gG aGI I1) (hJ : jJ I) (q : RD2 I I) (f : fr [19, 20, 22, 23, 5009, 5010, 5011, 5012, 5013, 5014, 5015] I I1) : jPM d 166 [.inr (31, 0), .inl (.inl a1), .inl (.inl a2)] (I1, L) (fun v σ => (∃ r, d166 a1 a2 I1 = some r ∧ v = some (.inl (.inl r.1)) ∧ σ.1 = r.2) ∧ fr [32] I1 σ.1) := by
  obtain ⟨r, r', -, e, -⟩ := buy_eq a1 a2 hG (RD_frM hG q f rfl)
  exact jPM_and (D166 e ⟨r', e, rfl, rfl⟩) (Fx166 (fun _ I' L' f => f))
theorem Qq81 {a1 : Int32} {a2 : Int32} {x1 x2 : Int32} {I I1 I2 : jI} (hG : gG aGI I) (g1 : gG aGI I1) (hJ : jJ I) (q : RD2 I I) (q1 : (∃ r, d81 a1 a2 I = some r ∧ (some (.inl (.inl x1)) : Option jV) = some (.inl (.inl r.1)) ∧ I1 = r.2) ∧ fr [19, 20, 22, 23, 5009, 5010, 5011, 5012, 5013, 5014, 5015] I I1) (q2 : (∃ r, d166 a1 a2 I1 = some r ∧ (some (.inl (.inl x2)) : Option jV) = some (.inl (.inl r.1)) ∧ I2 = r.2) ∧ fr [32] I1 I2) : x1 = x2 ∧ RD2 I2 I2 := by
  obtain ⟨⟨s, c1, c2, c3⟩, f⟩ := q1
  obtain ⟨r, r', e, e', k, z⟩ := buy_eq a1 a2 hG (RD_frM hG q f rfl)
  obtain ⟨⟨s', b1, b2, b3⟩, f2⟩ := q2
  rw [e] at c1
  rw [e'] at b1
  cases c1
  cases b1
  cases c2
  cases b2
  rw [← b3] at z
  rw [← c3] at z
  exact ⟨k, RD_frC g1 z f2 rfl⟩
theorem Pq82 {d : Nat} {I : jI} {L : jL} (hG : gG aGI I) (hJ : jJ I) (q : RD2 I I) : jPM d 82 [.inr (0, 0)] (I, L) (fun v σ => (∃ r, d82 I = some r ∧ v = some (.inl (.inl r.1)) ∧ σ.1 = r.2) ∧ fr [19, 20, 22, 23, 5009, 5010, 5011, 5012, 5013, 5014, 5015] I σ.1) := by
  obtain ⟨r, r', e, -⟩ := week_eq hG q
  exact jPM_and (D82 e ⟨r, e, rfl, rfl⟩) (Fx82 (fun _ I' L' f => f))
theorem Pq168 {d : Nat} {I I1 : jI} {L : jL} (hG : gG aGI I) (g1 : gG aGI I1) (hJ : jJ I) (q : RD2 I I) (f : fr [19, 20, 22, 23, 5009, 5010, 5011, 5012, 5013, 5014, 5015] I I1) : jPM d 168 [.inr (31, 0)] (I1, L) (fun v σ => (∃ r, d168 I1 = some r ∧ v = some (.inl (.inl r.1)) ∧ σ.1 = r.2) ∧ fr [32] I1 σ.1) := by
  obtain ⟨r, r', -, e, -⟩ := week_eq hG (RD_frM hG q f rfl)
  exact jPM_and (D168 e ⟨r', e, rfl, rfl⟩) (Fx168 (fun _ I' L' f => f))
theorem Qq82 {x1 x2 : Int32} {I I1 I2 : jI} (hG : gG aGI I) (g1 : gG aGI I1) (hJ : jJ I) (q : RD2 I I) (q1 : (∃ r, d82 I = some r ∧ (some (.inl (.inl x1)) : Option jV) = some (.inl (.inl r.1)) ∧ I1 = r.2) ∧ fr [19, 20, 22, 23, 5009, 5010, 5011, 5012, 5013, 5014, 5015] I I1) (q2 : (∃ r, d168 I1 = some r ∧ (some (.inl (.inl x2)) : Option jV) = some (.inl (.inl r.1)) ∧ I2 = r.2) ∧ fr [32] I1 I2) : x1 = x2 ∧ RD2 I2 I2 := by
  obtain ⟨⟨s, c1, c2, c3⟩, f⟩ := q1
  obtain ⟨r, r', e, e', k, z⟩ := week_eq hG (RD_frM hG q f rfl)
  obtain ⟨⟨s', b1, b2, b3⟩, f2⟩ := q2
  rw [e] at c1
  rw [e'] at b1
  cases c1
  cases b1
  cases c2
  cases b2
  rw [← b3] at z
  rw [← c3] at z
  exact ⟨k, RD_frC g1 z f2 rfl⟩
theorem Pq83 {d : Nat} {a1 : Int32} {I : jI} {L : jL} (hG : gG aGI I) (hJ : jJ I) (q : RD2 I I) : jPM d 83 [.inr (0, 0), .inl (.inl a1)] (I, L) (fun v σ => (∃ r, d83 a1 I = some r ∧ v = some (.inl (.inl r.1)) ∧ σ.1 = r.2) ∧ fr [19, 20, 22, 23, 5009, 5010, 5011, 5012, 5013, 5014, 5015] I σ.1) := by
  obtain ⟨r, r', e, -⟩ := shrink_eq a1 hG q
  exact jPM_and (D83 e ⟨r, e, rfl, rfl⟩) (Fx83 (fun _ I' L' f => f))
theorem Pq169 {d : Nat} {a1 : Int32} {I I1 : jI} {L : jL} (hG : gG aGI I) (g1 : gG aGI I1) (hJ : jJ I) (q : RD2 I I) (f : fr [19, 20, 22, 23, 5009, 5010, 5011, 5012, 5013, 5014, 5015] I I1) : jPM d 169 [.inr (31, 0), .inl (.inl a1)] (I1, L) (fun v σ => (∃ r, d169 a1 I1 = some r ∧ v = some (.inl (.inl r.1)) ∧ σ.1 = r.2) ∧ fr [32] I1 σ.1) := by
  obtain ⟨r, r', -, e, -⟩ := shrink_eq a1 hG (RD_frM hG q f rfl)
  exact jPM_and (D169 e ⟨r', e, rfl, rfl⟩) (Fx169 (fun _ I' L' f => f))
theorem Qq83 {a1 : Int32} {x1 x2 : Int32} {I I1 I2 : jI} (hG : gG aGI I) (g1 : gG aGI I1) (hJ : jJ I) (q : RD2 I I) (q1 : (∃ r, d83 a1 I = some r ∧ (some (.inl (.inl x1)) : Option jV) = some (.inl (.inl r.1)) ∧ I1 = r.2) ∧ fr [19, 20, 22, 23, 5009, 5010, 5011, 5012, 5013, 5014, 5015] I I1) (q2 : (∃ r, d169 a1 I1 = some r ∧ (some (.inl (.inl x2)) : Option jV) = some (.inl (.inl r.1)) ∧ I2 = r.2) ∧ fr [32] I1 I2) : x1 = x2 ∧ RD2 I2 I2 := by
  obtain ⟨⟨s, c1, c2, c3⟩, f⟩ := q1
  obtain ⟨r, r', e, e', k, z⟩ := shrink_eq a1 hG (RD_frM hG q f rfl)
  obtain ⟨⟨s', b1, b2, b3⟩, f2⟩ := q2
  rw [e] at c1
  rw [e'] at b1
  cases c1
  cases b1
  cases c2
  cases b2
  rw [← b3] at z
  rw [← c3] at z
  exact ⟨k, RD_frC g1 z f2 rfl⟩
theorem Pq84 {d : Nat} {a1 : Int32} {a2 : Int32} {I : jI} {L : jL} (hG : gG aGI I) (hJ : jJ I) (q : RD2 I I) : jPM d 84 [.inr (0, 0), .inl (.inl a1), .inl (.inl a2)] (I, L) (fun v σ => (∃ r, d84 a1 a2 I = some r ∧ v = some (.inl (.inl r.1)) ∧ σ.1 = r.2) ∧ fr [19, 20, 22, 23, 5009, 5010, 5011, 5012, 5013, 5014, 5015] I σ.1) := by
  obtain ⟨r, r', e, -⟩ := price_eq a1 a2 hG q
  exact jPM_and (D84 e ⟨r, e, rfl, rfl⟩) (Fx84 (fun _ I' L' f => f))
theorem Pq171 {d : Nat} {a1 : Int32} {a2 : Int32} {I I1 : jI} {L : jL} (hG : gG aGI I) (g1 : gG aGI I1) (hJ : jJ I) (q : RD2 I I) (f : fr [19, 20, 22, 23, 5009, 5010, 5011, 5012, 5013, 5014, 5015] I I1) : jPM d 171 [.inr (31, 0), .inl (.inl a1), .inl (.inl a2)] (I1, L) (fun v σ => (∃ r, d171 a1 a2 I1 = some r ∧ v = some (.inl (.inl r.1)) ∧ σ.1 = r.2) ∧ fr [32] I1 σ.1) := by
  obtain ⟨r, r', -, e, -⟩ := price_eq a1 a2 hG (RD_frM hG q f rfl)
  exact jPM_and (D171 e ⟨r', e, rfl, rfl⟩) (Fx171 (fun _ I' L' f => f))
theorem Qq84 {a1 : Int32} {a2 : Int32} {x1 x2 : Int32} {I I1 I2 : jI} (hG : gG aGI I) (g1 : gG aGI I1) (hJ : jJ I) (q : RD2 I I) (q1 : (∃ r, d84 a1 a2 I = some r ∧ (some (.inl (.inl x1)) : Option jV) = some (.inl (.inl r.1)) ∧ I1 = r.2) ∧ fr [19, 20, 22, 23, 5009, 5010, 5011, 5012, 5013, 5014, 5015] I I1) (q2 : (∃ r, d171 a1 a2 I1 = some r ∧ (some (.inl (.inl x2)) : Option jV) = some (.inl (.inl r.1)) ∧ I2 = r.2) ∧ fr [32] I1 I2) : x1 = x2 ∧ RD2 I2 I2 := by
  obtain ⟨⟨s, c1, c2, c3⟩, f⟩ := q1
  obtain ⟨r, r', e, e', k, z⟩ := price_eq a1 a2 hG (RD_frM hG q f rfl)
  obtain ⟨⟨s', b1, b2, b3⟩, f2⟩ := q2
  rw [e] at c1
  rw [e'] at b1
  cases c1
  cases b1
  cases c2
  cases b2
  rw [← b3] at z
  rw [← c3] at z
  exact ⟨k, RD_frC g1 z f2 rfl⟩
theorem Pq85 {d : Nat} {a1 : Int32} {I : jI} {L : jL} (hG : gG aGI I) (hJ : jJ I) (q : RD2 I I) : jPM d 85 [.inr (0, 0), .inl (.inl a1)] (I, L) (fun v σ => (∃ r, d85 a1 I = some r ∧ v = some (.inl (.inl r.1)) ∧ σ.1 = r.2) ∧ fr [19, 20, 22, 23, 5009, 5010, 5011, 5012, 5013, 5014, 5015] I σ.1) := by
  obtain ⟨r, r', e, -⟩ := card_eq a1 hG q
  exact jPM_and (D85 e ⟨r, e, rfl, rfl⟩) (Fx85 (fun _ I' L' f => f))
theorem Pq172 {d : Nat} {a1 : Int32} {I I1 : jI} {L : jL} (hG : gG aGI I) (g1 : gG aGI I1) (hJ : jJ I) (q : RD2 I I) (f : fr [19, 20, 22, 23, 5009, 5010, 5011, 5012, 5013, 5014, 5015] I I1) : jPM d 172 [.inr (31, 0), .inl (.inl a1)] (I1, L) (fun v σ => (∃ r, d172 a1 I1 = some r ∧ v = some (.inl (.inl r.1)) ∧ σ.1 = r.2) ∧ fr [32] I1 σ.1) := by
  obtain ⟨r, r', -, e, -⟩ := card_eq a1 hG (RD_frM hG q f rfl)
  exact jPM_and (D172 e ⟨r', e, rfl, rfl⟩) (Fx172 (fun _ I' L' f => f))
theorem Qq85 {a1 : Int32} {x1 x2 : Int32} {I I1 I2 : jI} (hG : gG aGI I) (g1 : gG aGI I1) (hJ : jJ I) (q : RD2 I I) (q1 : (∃ r, d85 a1 I = some r ∧ (some (.inl (.inl x1)) : Option jV) = some (.inl (.inl r.1)) ∧ I1 = r.2) ∧ fr [19, 20, 22, 23, 5009, 5010, 5011, 5012, 5013, 5014, 5015] I I1) (q2 : (∃ r, d172 a1 I1 = some r ∧ (some (.inl (.inl x2)) : Option jV) = some (.inl (.inl r.1)) ∧ I2 = r.2) ∧ fr [32] I1 I2) : x1 = x2 ∧ RD2 I2 I2 := by
  obtain ⟨⟨s, c1, c2, c3⟩, f⟩ := q1
  obtain ⟨r, r', e, e', k, z⟩ := card_eq a1 hG (RD_frM hG q f rfl)
  obtain ⟨⟨s', b1, b2, b3⟩, f2⟩ := q2
  rw [e] at c1
  rw [e'] at b1
  cases c1
  cases b1
  cases c2
  cases b2
  rw [← b3] at z
  rw [← c3] at z
  exact ⟨k, RD_frC g1 z f2 rfl⟩
theorem Pq86 {d : Nat} {a1 : Int32} {I : jI} {L : jL} (hG : gG aGI I) (hJ : jJ I) (q : RD2 I I) : jPM d 86 [.inr (0, 0), .inl (.inl a1)] (I, L) (fun v σ => (∃ r, d86 a1 I = some r ∧ v = some (.inl (.inl r.1)) ∧ σ.1 = r.2) ∧ fr [18, 19, 20, 21, 22, 23, 5006, 5007, 5008, 5009, 5010, 5011, 5012, 5013, 5014, 5015] I σ.1) := by
  obtain ⟨r, r', e, -⟩ := undo_eq a1 hG hJ q
  exact jPM_and (D86 e ⟨r, e, rfl, rfl⟩) (Fx86 (fun _ I' L' f => f))
theorem Pq173 {d : Nat} {a1 : Int32} {I I1 : jI} {L : jL} (hG : gG aGI I) (g1 : gG aGI I1) (hJ : jJ I) (q : RD2 I I) (f : fr [18, 19, 20, 21, 22, 23, 5006, 5007, 5008, 5009, 5010, 5011, 5012, 5013, 5014, 5015] I I1) : jPM d 173 [.inr (31, 0), .inl (.inl a1)] (I1, L) (fun v σ => (∃ r, d173 a1 I1 = some r ∧ v = some (.inl (.inl r.1)) ∧ σ.1 = r.2) ∧ fr [32] I1 σ.1) := by
  obtain ⟨r, r', -, e, -⟩ := undo_eq a1 hG hJ (RD_frM hG q f rfl)
  exact jPM_and (D173 e ⟨r', e, rfl, rfl⟩) (Fx173 (fun _ I' L' f => f))
theorem Qq86 {a1 : Int32} {x1 x2 : Int32} {I I1 I2 : jI} (hG : gG aGI I) (g1 : gG aGI I1) (hJ : jJ I) (q : RD2 I I) (q1 : (∃ r, d86 a1 I = some r ∧ (some (.inl (.inl x1)) : Option jV) = some (.inl (.inl r.1)) ∧ I1 = r.2) ∧ fr [18, 19, 20, 21, 22, 23, 5006, 5007, 5008, 5009, 5010, 5011, 5012, 5013, 5014, 5015] I I1) (q2 : (∃ r, d173 a1 I1 = some r ∧ (some (.inl (.inl x2)) : Option jV) = some (.inl (.inl r.1)) ∧ I2 = r.2) ∧ fr [32] I1 I2) : RD2 I2 I2 := by
  obtain ⟨⟨s, c1, c2, c3⟩, f⟩ := q1
  obtain ⟨r, r', e, e', z⟩ := undo_eq a1 hG hJ (RD_frM hG q f rfl)
  obtain ⟨⟨s', b1, b2, b3⟩, f2⟩ := q2
  rw [e] at c1
  rw [e'] at b1
  cases c1
  cases b1
  cases c2
  cases b2
  rw [← b3] at z
  rw [← c3] at z
  exact RD_frC g1 z f2 rfl
theorem Pq87 {d : Nat} {a1 : Int32} {I : jI} {L : jL} (hG : gG aGI I) (hJ : jJ I) (q : RD2 I I) : jPM d 87 [.inr (0, 0), .inl (.inl a1)] (I, L) (fun v σ => (∃ r, d87 a1 I = some r ∧ v = some (.inl (.inl r.1)) ∧ σ.1 = r.2) ∧ fr [6, 18, 19, 20, 21, 22, 23, 5006, 5007, 5008, 5009, 5010, 5011, 5012, 5013, 5014, 5015] I σ.1) := by
  obtain ⟨r, r', e, -⟩ := keep_eq a1 hG q
  exact jPM_and (D87 e ⟨r, e, rfl, rfl⟩) (Fx87 (fun _ I' L' f => f))
theorem Pq175 {d : Nat} {a1 : Int32} {I I1 : jI} {L : jL} (hG : gG aGI I) (g1 : gG aGI I1) (hJ : jJ I) (q : RD2 I I) (f : fr [6, 18, 19, 20, 21, 22, 23, 5006, 5007, 5008, 5009, 5010, 5011, 5012, 5013, 5014, 5015] I I1) : jPM d 175 [.inr (31, 0), .inl (.inl a1)] (I1, L) (fun v σ => (∃ r, d175 a1 I1 = some r ∧ v = some (.inl (.inl r.1)) ∧ σ.1 = r.2) ∧ fr [32] I1 σ.1) := by
  obtain ⟨r, r', -, e, -⟩ := keep_eq a1 hG (RD_frM hG q f rfl)
  exact jPM_and (D175 e ⟨r', e, rfl, rfl⟩) (Fx175 (fun _ I' L' f => f))
theorem Qq87 {a1 : Int32} {x1 x2 : Int32} {I I1 I2 : jI} (hG : gG aGI I) (g1 : gG aGI I1) (hJ : jJ I) (q : RD2 I I) (q1 : (∃ r, d87 a1 I = some r ∧ (some (.inl (.inl x1)) : Option jV) = some (.inl (.inl r.1)) ∧ I1 = r.2) ∧ fr [6, 18, 19, 20, 21, 22, 23, 5006, 5007, 5008, 5009, 5010, 5011, 5012, 5013, 5014, 5015] I I1) (q2 : (∃ r, d175 a1 I1 = some r ∧ (some (.inl (.inl x2)) : Option jV) = some (.inl (.inl r.1)) ∧ I2 = r.2) ∧ fr [32] I1 I2) : x1 = x2 ∧ RD2 I2 I2 := by
  obtain ⟨⟨s, c1, c2, c3⟩, f⟩ := q1
  obtain ⟨r, r', e, e', k, z⟩ := keep_eq a1 hG (RD_frM hG q f rfl)
  obtain ⟨⟨s', b1, b2, b3⟩, f2⟩ := q2
  rw [e] at c1
  rw [e'] at b1
  cases c1
  cases b1
  cases c2
  cases b2
  rw [← b3] at z
  rw [← c3] at z
  exact ⟨k, RD_frC g1 z f2 rfl⟩
theorem Pq88 {d : Nat} {a1 : Int32} {I : jI} {L : jL} (hG : gG aGI I) (hJ : jJ I) (q : RD2 I I) : jPM d 88 [.inr (0, 0), .inl (.inl a1)] (I, L) (fun v σ => (∃ r, d88 a1 I = some r ∧ v = some (.inl (.inl r.1)) ∧ σ.1 = r.2) ∧ fr [12, 18, 19, 20, 21, 22, 23, 1013, 5006, 5007, 5008, 5009, 5010, 5011, 5012, 5013, 5014, 5015] I σ.1) := by
  obtain ⟨r, r', e, -⟩ := on_eq a1 hG q
  exact jPM_and (D88 e ⟨r, e, rfl, rfl⟩) (Fx88 (fun _ I' L' f => f))
theorem Pq176 {d : Nat} {a1 : Int32} {I I1 : jI} {L : jL} (hG : gG aGI I) (g1 : gG aGI I1) (hJ : jJ I) (q : RD2 I I) (f : fr [12, 18, 19, 20, 21, 22, 23, 1013, 5006, 5007, 5008, 5009, 5010, 5011, 5012, 5013, 5014, 5015] I I1) : jPM d 176 [.inr (31, 0), .inl (.inl a1)] (I1, L) (fun v σ => (∃ r, d176 a1 I1 = some r ∧ v = some (.inl (.inl r.1)) ∧ σ.1 = r.2) ∧ fr [32, 39, 32013] I1 σ.1) := by
  obtain ⟨r, r', -, e, -⟩ := on_eq a1 hG (RD_frM hG q f rfl)
  exact jPM_and (D176 e ⟨r', e, rfl, rfl⟩) (Fx176 (fun _ I' L' f => f))
theorem Qq88 {a1 : Int32} {x1 x2 : Int32} {I I1 I2 : jI} (hG : gG aGI I) (g1 : gG aGI I1) (hJ : jJ I) (q : RD2 I I) (q1 : (∃ r, d88 a1 I = some r ∧ (some (.inl (.inl x1)) : Option jV) = some (.inl (.inl r.1)) ∧ I1 = r.2) ∧ fr [12, 18, 19, 20, 21, 22, 23, 1013, 5006, 5007, 5008, 5009, 5010, 5011, 5012, 5013, 5014, 5015] I I1) (q2 : (∃ r, d176 a1 I1 = some r ∧ (some (.inl (.inl x2)) : Option jV) = some (.inl (.inl r.1)) ∧ I2 = r.2) ∧ fr [32, 39, 32013] I1 I2) : x1 = x2 ∧ RD2 I2 I2 := by
  obtain ⟨⟨s, c1, c2, c3⟩, f⟩ := q1
  obtain ⟨r, r', e, e', k, z⟩ := on_eq a1 hG (RD_frM hG q f rfl)
  obtain ⟨⟨s', b1, b2, b3⟩, f2⟩ := q2
  rw [e] at c1
  rw [e'] at b1
  cases c1
  cases b1
  cases c2
  cases b2
  rw [← b3] at z
  rw [← c3] at z
  exact ⟨k, RD_frC g1 z f2 rfl⟩
theorem Pq105 {d : Nat} {a1 : Int32} {a2 : Int32} {I : jI} {L : jL} (hG : gG aGI I) (hJ : jJ I) (q : RD2 I I) : jPM d 105 [.inr (0, 0), .inl (.inl a1), .inl (.inl a2)] (I, L) (fun v σ => (∃ r, d105 a1 a2 I = some r ∧ v = some (.inl (.inl r.1)) ∧ σ.1 = r.2) ∧ fr [19, 20, 22, 23, 5009, 5010, 5011, 5012, 5013, 5014, 5015] I σ.1) := by
  obtain ⟨r, r', e, -⟩ := lots_eq a1 a2 hG hJ q
  exact jPM_and (D105 e ⟨r, e, rfl, rfl⟩) (Fx105 (fun _ I' L' f => f))
theorem Pq207 {d : Nat} {a1 : Int32} {a2 : Int32} {I I1 : jI} {L : jL} (hG : gG aGI I) (g1 : gG aGI I1) (hJ : jJ I) (q : RD2 I I) (f : fr [19, 20, 22, 23, 5009, 5010, 5011, 5012, 5013, 5014, 5015] I I1) : jPM d 207 [.inr (31, 0), .inl (.inl a1), .inl (.inl a2)] (I1, L) (fun v σ => (∃ r, d207 a1 a2 I1 = some r ∧ v = some (.inl (.inl r.1)) ∧ σ.1 = r.2) ∧ fr [32] I1 σ.1) := by
  obtain ⟨r, r', -, e, -⟩ := lots_eq a1 a2 hG hJ (RD_frM hG q f rfl)
  exact jPM_and (D207 e ⟨r', e, rfl, rfl⟩) (Fx207 (fun _ I' L' f => f))
theorem Qq105 {a1 : Int32} {a2 : Int32} {x1 x2 : Int32} {I I1 I2 : jI} (hG : gG aGI I) (g1 : gG aGI I1) (hJ : jJ I) (q : RD2 I I) (q1 : (∃ r, d105 a1 a2 I = some r ∧ (some (.inl (.inl x1)) : Option jV) = some (.inl (.inl r.1)) ∧ I1 = r.2) ∧ fr [19, 20, 22, 23, 5009, 5010, 5011, 5012, 5013, 5014, 5015] I I1) (q2 : (∃ r, d207 a1 a2 I1 = some r ∧ (some (.inl (.inl x2)) : Option jV) = some (.inl (.inl r.1)) ∧ I2 = r.2) ∧ fr [32] I1 I2) : x1 = x2 ∧ RD2 I2 I2 := by
  obtain ⟨⟨s, c1, c2, c3⟩, f⟩ := q1
  obtain ⟨r, r', e, e', k, z⟩ := lots_eq a1 a2 hG hJ (RD_frM hG q f rfl)
  obtain ⟨⟨s', b1, b2, b3⟩, f2⟩ := q2
  rw [e] at c1
  rw [e'] at b1
  cases c1
  cases b1
  cases c2
  cases b2
  rw [← b3] at z
  rw [← c3] at z
  exact ⟨k, RD_frC g1 z f2 rfl⟩
theorem Pq77 {d : Nat} {a1 : Int32} {I : jI} {L : jL} (hG : gG aGI I) (hJ : jJ I) (hT : RT I) (q : RD2 I I) : jPM d 77 [.inr (0, 0), .inl (.inl a1)] (I, L) (fun v σ => (∃ r, d77 a1 I = some r ∧ v = some (.inl (.inl r.1)) ∧ σ.1 = r.2) ∧ fr [6, 12, 17, 18, 19, 20, 21, 22, 23, 1013, 4002, 4003, 4004, 5006, 5007, 5008, 5009, 5010, 5011, 5012, 5013, 5014, 5015] I σ.1) := by
  obtain ⟨r, r', e, -⟩ := house_eq2 a1 hG hG hJ hT rfl rfl q
  exact jPM_and (D77 e ⟨r, e, rfl, rfl⟩) (Fx77 (fun _ I' L' f => f))
theorem Pq150 {d : Nat} {a1 : Int32} {I I1 : jI} {L : jL} (hG : gG aGI I) (g1 : gG aGI I1) (hJ : jJ I) (hT : RT I) (q : RD2 I I) (f : fr [6, 12, 17, 18, 19, 20, 21, 22, 23, 1013, 4002, 4003, 4004, 5006, 5007, 5008, 5009, 5010, 5011, 5012, 5013, 5014, 5015] I I1) : jPM d 150 [.inr (31, 0), .inl (.inl a1)] (I1, L) (fun v σ => (∃ r, d150 a1 I1 = some r ∧ v = some (.inl (.inl r.1)) ∧ σ.1 = r.2) ∧ fr [32, 33, 34, 39, 40, 32001, 32002, 32003, 32013, 32015, 32016, 32017, 32018, 32019, 32021] I1 σ.1) := by
  obtain ⟨r, r', -, e, -⟩ := house_eq2 a1 hG g1 hJ hT (fr_arr f (fun _ => rfl) rfl) (fr_arr f (fun _ => rfl) rfl) (RD_frM hG q f rfl)
  exact jPM_and (D150 e ⟨r', e, rfl, rfl⟩) (Fx150 (fun _ I' L' f => f))
theorem Qq77 {a1 : Int32} {x1 x2 : Int32} {I I1 I2 : jI} (hG : gG aGI I) (g1 : gG aGI I1) (hJ : jJ I) (hT : RT I) (q : RD2 I I) (q1 : (∃ r, d77 a1 I = some r ∧ (some (.inl (.inl x1)) : Option jV) = some (.inl (.inl r.1)) ∧ I1 = r.2) ∧ fr [6, 12, 17, 18, 19, 20, 21, 22, 23, 1013, 4002, 4003, 4004, 5006, 5007, 5008, 5009, 5010, 5011, 5012, 5013, 5014, 5015] I I1) (q2 : (∃ r, d150 a1 I1 = some r ∧ (some (.inl (.inl x2)) : Option jV) = some (.inl (.inl r.1)) ∧ I2 = r.2) ∧ fr [32, 33, 34, 39, 40, 32001, 32002, 32003, 32013, 32015, 32016, 32017, 32018, 32019, 32021] I1 I2) : x1 = x2 ∧ RD2 I2 I2 := by
  obtain ⟨⟨s, c1, c2, c3⟩, f⟩ := q1
  obtain ⟨r, r', e, e', k, z⟩ := house_eq2 a1 hG g1 hJ hT (fr_arr f (fun _ => rfl) rfl) (fr_arr f (fun _ => rfl) rfl) (RD_frM hG q f rfl)
  obtain ⟨⟨s', b1, b2, b3⟩, f2⟩ := q2
  rw [e] at c1
  rw [e'] at b1
  cases c1
  cases b1
  cases c2
  cases b2
  rw [← b3] at z
  rw [← c3] at z
  exact ⟨k, RD_frC g1 z f2 rfl⟩
end
section
/-! what is asked of a PACKET: the same on both sides -/
theorem card01 {I : jI} (hG : gG aGI I) : I 4 1 14 = 0 ∨ I 4 1 14 = 1 := by
  have f14 := hG (4, (0, 5), (14, 14), (0, 1)) (by decide) 1 14 (by simp) (by simp) (by simp) (by simp)
  have a : 0 ≤ (I 4 1 14).toInt := f14.1
  have b : (I 4 1 14).toInt ≤ 1 := f14.2
  have : (I 4 1 14).toInt = 0 ∨ (I 4 1 14).toInt = 1 := by omega
  rcases this with z | z
  · exact Or.inl (eq_t.mpr z)
  · exact Or.inr (eq_t.mpr z)
theorem cost_cm {I J : jI} {m : Nat} {i n : Int32} (hG : gG aGI I) (c : cur I J m) (h0 : 0 ≤ i.toInt) (hi : i.toNatClampNeg < m) : d153 0 i n J = d35 1 i n I := by
  obtain ⟨⟨-, -, ai, af⟩, ⟨-, hm⟩, -⟩ := c
  have ni := cl_t h0
  have i23 : Int32.toNatClampNeg ((0 + 23) + i) = 23 + i.toNatClampNeg := by rw [(ixa (a := 0 + 23) (by decide) (by decide) h0 (by omega)).2]; rfl
  have i6 : Int32.toNatClampNeg (0 + 6) = 1 + 5 := rfl
  unfold d153 d35
  rw [i23, i6, (ai _ hi).1.2, (ai _ hi).2.1, af 5 (by decide)]
  exact cost_m (card01 hG)
theorem got_cm {I J : jI} {m : Nat} {i : Int32} (c : cur I J m) (h0 : 0 ≤ i.toInt) (hi : i.toNatClampNeg < m) : d155 0 i J = d36 1 i I := by
  obtain ⟨⟨-, -, ai, af⟩, ⟨-, hm⟩, -⟩ := c
  have ni := cl_t h0
  have i17 : Int32.toNatClampNeg ((0 + 17) + i) = 17 + i.toNatClampNeg := by rw [(ixa (a := 0 + 17) (by decide) (by decide) h0 (by omega)).2]; rfl
  unfold d155 d36
  rw [i17, (ai _ hi).1.1, (ai _ hi).2.1]
  rfl
theorem cost_1 {k p c : Int32} (hp : 0 ≤ p.toInt ∧ p.toInt ≤ 99) : 0 ≤ (kost k 1 p c).toInt ∧ (kost k 1 p c).toInt ≤ 99 := by
  have one : (1 : Int32).toInt = 1 := rfl
  have e1 : (1 * p).toInt = p.toInt := by rw [i32_mul (by rw [one]; omega), one]; omega
  have e6 : 0 ≤ (d6 (1 * p) c zI).toInt ∧ (d6 (1 * p) c zI).toInt ≤ 99 := by
    unfold d6
    by_cases h : c = 0
    · rw [if_pos h, e1]; exact hp
    · rw [if_neg h]
      have three : (3 : Int32).toInt = 3 := rfl
      have four : (4 : Int32).toInt = 4 := rfl
      have e3 : (1 * p * 3).toInt = p.toInt * 3 := by rw [i32_mul (by rw [e1, three]; omega), e1, three]
      rw [td32 (by decide), e3, four, Int.tdiv_eq_ediv_of_nonneg (by omega)]
      omega
  have eh : ((1 - 1 / 3) * p).toInt = p.toInt := e1
  unfold kost d5
  by_cases h1 : k = 1
  · rw [if_pos h1]; exact e6
  rw [if_neg h1]
  by_cases h2 : k = 2
  · rw [if_pos h2, eh]; exact hp
  rw [if_neg h2]
  by_cases h3 : k = 3
  · have two : (2 : Int32).toInt = 2 := rfl
    rw [if_pos h3, td32 (by decide), e1, two, Int.tdiv_eq_ediv_of_nonneg (by omega)]
    omega
  rw [if_neg h3]
  by_cases h4 : k = 4
  · rw [if_pos h4]
    by_cases g : 0 < d6 (1 * p) c zI - 1
    · rw [if_pos g, i32_sub (by omega), one]
      rw [lt_t, i32_sub (by omega), one] at g
      have g : 0 < (d6 (1 * p) c zI).toInt - 1 := g
      omega
    · rw [if_neg g]; decide
  rw [if_neg h4]
  by_cases h5 : k = 5
  · rw [if_pos h5, eh]; exact hp
  rw [if_neg h5, e1]
  exact hp
theorem cost_b {I J : jI} {m : Nat} {i : Int32} (c : cur I J m) (hi : i.toNatClampNeg < m) : 0 ≤ (d35 1 i 1 I).toInt ∧ (d35 1 i 1 I).toInt ≤ 99 := cost_1 (c.2.2.2.1.2.1 _ hi).2
end
section
/-! looks -/
theorem nest {P Q : Prop} [Decidable P] [Decidable Q] {A : Type} {a b c e : A} : (if P then (if P then a else (if Q then a else b)) else (if Q then (if P then a else (if Q then a else b)) else (if P then c else (if Q then c else e)))) = if P then a else if Q then a else e := by
  by_cases p : P
  · rw [if_pos p, if_pos p, if_pos p]
  · rw [if_neg p, if_neg p]
    by_cases q : Q
    · rw [if_pos q, if_neg p, if_pos q, if_pos q]
    · rw [if_neg q, if_neg p, if_neg q, if_neg p, if_neg q]
noncomputable def lkC (x y : Int32) : Prop := (x = 1000000 ∧ y = 99999) ∨ (x = y ∧ 0 ≤ x.toInt ∧ x.toInt ≤ 99)
noncomputable def lkS (x y : Int32) : Prop := (x = 1000000 ∧ y = 99999) ∨ (x = y ∧ 0 ≤ x.toInt ∧ x.toInt ≤ 200)
theorem mul_c {c k : Int32} (hc : 0 ≤ c.toInt ∧ c.toInt ≤ 9) (hk : 0 ≤ k.toInt ∧ k.toInt ≤ 6) : 0 ≤ (c * k).toInt ∧ (c * k).toInt ≤ 54 := by
  have h1 : 0 ≤ c.toInt * k.toInt := Int.mul_nonneg hc.1 hk.1
  have h2 : c.toInt * k.toInt ≤ 9 * 6 := Int.mul_le_mul hc.2 hk.2 hk.1 (by decide)
  rw [i32_mul (by omega)]
  omega
theorem lks_l {I J : jI} {m : Nat} {c v : Int32} (hG : gG aGI I) (cu : cur I J m) (hc : 0 ≤ c.toInt ∧ c.toInt ≤ 9) : ∀ (N F F' : Nat) (b x y p q z : Int32), z.toInt + (N : Int) = (I 4 1 6).toInt → 0 ≤ z.toInt → N < F → N < F' → lkS x p → lkC y q → ∃ r t s, d98_50 c v I F b x y z = some (r, t) ∧ d192_50 c v J F' p b q z = some (s, r)
  | _, 0, _, _, _, _, _, _, _, _, _, h, _, _, _ => absurd h (by omega)
  | _, _, 0, _, _, _, _, _, _, _, _, _, h, _, _ => absurd h (by omega)
  | 0, F + 1, F' + 1, b, x, y, p, q, z, hz, h0, _, _, _, _ => by
    have c3 : J 31 0 3 = I 4 1 6 := cu.1.1.1
    rw [d98_50, d192_50, c3, if_pos (show I 4 1 6 ≤ z by rw [le_t]; omega), if_pos (show I 4 1 6 ≤ z by rw [le_t]; omega)]
    exact ⟨_, _, _, rfl, rfl⟩
  | N + 1, F + 1, F' + 1, b, x, y, p, q, z, hz, h0, hF, hF', hS, hC => by
    have c3 : J 31 0 3 = I 4 1 6 := cu.1.1.1
    have hp := gi_packets hG
    have e := i32_inc (x := z) (by omega)
    obtain ⟨hi, hi5, hm0⟩ := RD_hi cu (i := z) ⟨h0, by omega⟩
    have cb := cost_b cu hi
    have mb := mul_c hc (k := z + 1) ⟨by omega, by omega⟩
    have cM : (99999 : Int32).toInt = 99999 := rfl
    have cU : (1000000 : Int32).toInt = 1000000 := rfl
    have key : ∀ y q, lkC y q → ∃ r t s, (if x ≤ y + c * (z + 1) then d98_50 c v I F b x y (z + 1) else d98_50 c v I F (z + 1) (y + c * (z + 1)) y (z + 1)) = some (r, t) ∧ (if 99999 ≤ q then d192_50 c v J F' p b q (z + 1) else if p ≤ c * (z + 1) + q then d192_50 c v J F' p b q (z + 1) else d192_50 c v J F' (c * (z + 1) + q) (z + 1) q (z + 1)) = some (s, r) := by
      intro y q hC
      rcases hC with ⟨h1, h2⟩ | ⟨h1, h2, h3⟩
      · have ey : (y + c * (z + 1)).toInt = 1000000 + (c * (z + 1)).toInt := by rw [h1, i32_add (by rw [cU]; omega), cU]
        have hx : x.toInt ≤ 1000000 := by
          rcases hS with ⟨w, -⟩ | ⟨-, -, w⟩
          · rw [w, cU]; omega
          · omega
        rw [if_pos (show x ≤ y + c * (z + 1) by rw [le_t]; omega), if_pos (show (99999 : Int32) ≤ q by rw [h2]; decide)]
        exact lks_l hG cu hc N F F' b x y p q (z + 1) (by omega) (by omega) (by omega) (by omega) hS (Or.inl ⟨h1, h2⟩)
      · subst h1
        have ey : (y + c * (z + 1)).toInt = y.toInt + (c * (z + 1)).toInt := i32_add (by omega)
        rw [if_neg (show ¬ (99999 : Int32) ≤ y by rw [le_t, cM]; omega), Int32.add_comm (c * (z + 1)) y]
        rcases hS with ⟨w1, w2⟩ | ⟨w1, w2, w3⟩
        · rw [if_neg (show ¬ x ≤ y + c * (z + 1) by rw [le_t, w1, cU]; omega), if_neg (show ¬ p ≤ y + c * (z + 1) by rw [le_t, w2, cM]; omega)]
          exact lks_l hG cu hc N F F' _ _ y _ y (z + 1) (by omega) (by omega) (by omega) (by omega) (Or.inr ⟨rfl, by omega, by omega⟩) (Or.inr ⟨rfl, h2, h3⟩)
        · subst w1
          by_cases l : x ≤ y + c * (z + 1)
          · rw [if_pos l, if_pos l]
            exact lks_l hG cu hc N F F' _ _ y _ y (z + 1) (by omega) (by omega) (by omega) (by omega) (Or.inr ⟨rfl, w2, w3⟩) (Or.inr ⟨rfl, h2, h3⟩)
          · rw [if_neg l, if_neg l]
            exact lks_l hG cu hc N F F' _ _ y _ y (z + 1) (by omega) (by omega) (by omega) (by omega) (Or.inr ⟨rfl, by omega, by omega⟩) (Or.inr ⟨rfl, h2, h3⟩)
    rw [d98_50, d192_50, c3, if_neg (show ¬ I 4 1 6 ≤ z by rw [le_t]; omega), if_neg (show ¬ I 4 1 6 ≤ z by rw [le_t]; omega), got_cm cu h0 hi, cost_cm hG cu h0 hi, nest, nest]
    by_cases g : d36 1 z I < v
    · rw [if_pos g, if_pos g]
      exact key y q hC
    · rw [if_neg g, if_neg g]
      have cmp : (d35 1 z 1 I < y) ↔ ¬ (q ≤ d35 1 z 1 I) := by
        rw [lt_t, le_t]
        rcases hC with ⟨h1, h2⟩ | ⟨h1, h2, h3⟩
        · rw [h1, h2, cU, cM]; omega
        · rw [h1]; omega
      by_cases l : q ≤ d35 1 z 1 I
      · rw [if_pos l, if_neg (fun w => cmp.mp w l)]
        exact key y q hC
      · rw [if_neg l, if_pos (cmp.mpr l)]
        exact key _ _ (Or.inr ⟨rfl, cb.1, cb.2⟩)
theorem looks_an {I J : jI} (c v : Int32) (hG : gG aGI I) (q : RD2 I J) : ∃ r r', d98 c v I = some r ∧ d192 c v J = some r' ∧ r.1 = r'.1 := by
  have cu := RD_cur hG q
  have hp := gi_packets hG
  have c3 : J 31 0 3 = I 4 1 6 := cu.1.1.1
  have z9 : (9 : Int32).toInt = 9 := rfl
  have z1 : (1 : Int32).toInt = 1 := rfl
  unfold d98 d192
  rw [in_i, in_i, c3]
  by_cases h1 : 0 ≤ c.toInt ∧ c.toInt ≤ 9
  · rw [if_neg (show ¬ c < 0 by rw [lt0_t]; omega), if_neg (show ¬ (9 : Int32) < c by rw [lt_t, z9]; omega), if_pos (show (0 : Int64).toInt ≤ c.toInt ∧ c.toInt ≤ (9 : Int64).toInt from h1), if_neg one0]
    by_cases h2 : 1 ≤ v.toInt ∧ v.toInt ≤ 9
    · rw [if_neg (show ¬ v < 1 by rw [lt_t, z1]; omega), if_pos (show v ≤ 9 by rw [le_t, z9]; exact h2.2), if_pos (show (1 : Int64).toInt ≤ v.toInt ∧ v.toInt ≤ (9 : Int64).toInt from h2), if_neg one0]
      by_cases h3 : I 4 1 6 = 0
      · rw [if_pos h3, if_pos h3]
        exact ⟨_, _, rfl, rfl, rfl⟩
      · rw [if_neg h3, if_neg h3]
        have np := cl_t hp.1
        obtain ⟨r, t, s, e1, e2⟩ := lks_l (v := v) hG cu h1 (I 4 1 6).toNatClampNeg 70 70 (-9) 1000000 1000000 99999 99999 0 (by show (0 : Int) + _ = _; omega) (by decide) (by omega) (by omega) (Or.inl ⟨rfl, rfl⟩) (Or.inl ⟨rfl, rfl⟩)
        rw [e1, e2]
        dsimp only [Option.bind_some]
        by_cases h9 : r = -9
        · rw [if_pos h9, if_pos h9]
          exact ⟨_, _, rfl, rfl, h9⟩
        · rw [if_neg h9, if_neg h9]
          exact ⟨_, _, rfl, rfl, rfl⟩
    · rw [if_neg (show ¬ ((1 : Int64).toInt ≤ v.toInt ∧ v.toInt ≤ (9 : Int64).toInt) from h2), if_pos rfl]
      by_cases h4 : v < 1
      · rw [if_pos h4]
        exact ⟨_, _, rfl, rfl, rfl⟩
      · rw [if_neg h4, if_neg (show ¬ v ≤ 9 from fun z => by rw [le_t, z9] at z; rw [lt_t, z1] at h4; exact h2 ⟨by omega, z⟩)]
        exact ⟨_, _, rfl, rfl, rfl⟩
  · rw [if_neg (show ¬ ((0 : Int64).toInt ≤ c.toInt ∧ c.toInt ≤ (9 : Int64).toInt) from h1), if_pos rfl]
    by_cases h4 : c < 0
    · rw [if_pos h4]
      exact ⟨_, _, rfl, rfl, rfl⟩
    · rw [if_neg h4, if_pos (show (9 : Int32) < c by rw [lt_t, z9]; rw [lt0_t] at h4; omega)]
      exact ⟨_, _, rfl, rfl, rfl⟩
end
section
theorem RD_mid {W : List aR} {I I1 : jI} {L L1 : jL} (hw : rApart W rdM = true) (hG : gG aGI I) (q : RD2 I I) (h : gR W I L I1 L1) : RD2 I I1 := RD_cells hG q (fun _ _ _ _ => rfl) (fun g i j z => (h g i j (rApart_of hw z)).1)
theorem Pa98 {d : Nat} {a1 a2 : Int32} {I : jI} {L : jL} {K : jK} (hG : gG aGI I) (q : RD2 I I) (hK : jPM d 98 [.inr (0, 0), .inl (.inl a1), .inl (.inl a2)] (I, L) K) : jPM d 98 [.inr (0, 0), .inl (.inl a1), .inl (.inl a2)] (I, L) (fun v σ => (∃ r, d98 a1 a2 I = some r ∧ v = some (.inl (.inl r.1))) ∧ K v σ) := by
  obtain ⟨r, r', e, e', -⟩ := looks_an a1 a2 hG q
  exact jPM_and (D98 e ⟨r, e, rfl⟩) hK
theorem Pa192 {d : Nat} {a1 a2 : Int32} {I I1 : jI} {L : jL} {K : jK} (hG : gG aGI I) (q : RD2 I I1) (hK : jPM d 192 [.inr (31, 0), .inl (.inl a1), .inl (.inl a2)] (I1, L) K) : jPM d 192 [.inr (31, 0), .inl (.inl a1), .inl (.inl a2)] (I1, L) (fun v σ => (∃ r, d192 a1 a2 I1 = some r ∧ v = some (.inl (.inl r.1))) ∧ K v σ) := by
  obtain ⟨r, r', e, e', -⟩ := looks_an a1 a2 hG q
  exact jPM_and (D192 e' ⟨r', e', rfl⟩) hK
theorem Qa98 {a1 a2 : Int32} {x1 x2 : Int32} {I I1 : jI} (hG : gG aGI I) (q : RD2 I I1) (q1 : (∃ r, d98 a1 a2 I = some r ∧ (some (.inl (.inl x1)) : Option jV) = some (.inl (.inl r.1)))) (q2 : (∃ r, d192 a1 a2 I1 = some r ∧ (some (.inl (.inl x2)) : Option jV) = some (.inl (.inl r.1)))) : x1 = x2 := by
  obtain ⟨r, r', e, e', k⟩ := looks_an a1 a2 hG q
  obtain ⟨s, c1, c2⟩ := q1
  obtain ⟨s', b1, b2⟩ := q2
  rw [e] at c1
  rw [e'] at b1
  cases c1
  cases b1
  cases c2
  cases b2
  exact k
end
