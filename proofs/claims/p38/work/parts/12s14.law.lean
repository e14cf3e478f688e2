section
/-! the calls that change houses, as the law makes them -/
noncomputable def cdC : List Nat := [6, 18, 19, 20, 21, 22, 23, 5006, 5007, 5008, 5009, 5010, 5011, 5012, 5013, 5014, 5015]
noncomputable def cdM : List Nat := [32, 33, 34, 32001, 32002, 32003]
theorem cd_C {g i j : Nat} (h : gI rdC g i j) : jcd g j ∈ cdC := by
  obtain ⟨r, hr, e, -, -, a3, a4⟩ := h
  simp only [rdC, List.mem_cons, List.not_mem_nil, or_false] at hr
  rcases hr with rfl | rfl | rfl | rfl | rfl | rfl | rfl | rfl | rfl <;> cases e
  · have : j = 6 ∨ j = 7 ∨ j = 8 ∨ j = 9 ∨ j = 10 ∨ j = 11 ∨ j = 12 ∨ j = 13 ∨ j = 14 ∨ j = 15 := by simp at a3 a4; omega
    rcases this with rfl | rfl | rfl | rfl | rfl | rfl | rfl | rfl | rfl | rfl <;> decide
  · have : j = 9 ∨ j = 10 ∨ j = 11 ∨ j = 12 ∨ j = 13 ∨ j = 14 ∨ j = 15 := by simp at a3 a4; omega
    rcases this with rfl | rfl | rfl | rfl | rfl | rfl | rfl <;> decide
  all_goals simp [jcd, cdC]
theorem cd_M {g i j : Nat} (h : gI rdM g i j) : jcd g j ∈ cdM := by
  obtain ⟨r, hr, e, -, -, a3, a4⟩ := h
  simp only [rdM, List.mem_cons, List.not_mem_nil, or_false] at hr
  rcases hr with rfl | rfl | rfl | rfl <;> cases e
  · have : j = 1 ∨ j = 2 ∨ j = 3 := by simp at a3 a4; omega
    rcases this with rfl | rfl | rfl <;> decide
  all_goals simp [jcd, cdM]
theorem cd_no {A W : List Nat} (hw : A.all (fun c => !(jel c W)) = true) {c : Nat} (hc : c ∈ A) : jel c W = false := by
  have := List.all_eq_true.mp hw c hc
  cases e : jel c W with
  | false => rfl
  | true => rw [e] at this; cases this
theorem RD_frM {W : List Nat} {I J J' : jI} (hG : gG aGI I) (q : RD2 I J) (f : fr W J J') (hw : cdM.all (fun c => !(jel c W)) = true) : RD2 I J' := RD_cells hG q (fun _ _ _ _ => rfl) (fun g i j z => f g i j (cd_no hw (cd_M z)))
theorem RD_frC {W : List Nat} {I I' J : jI} (hG : gG aGI I) (q : RD2 I J) (f : fr W I I') (hw : cdC.all (fun c => !(jel c W)) = true) : RD2 I' J := RD_cells hG q (fun g i j z => f g i j (cd_no hw (cd_C z))) (fun _ _ _ _ => rfl)
theorem RD_fr {W : List Nat} {I I' : jI} (hG : gG aGI I) (q : RD2 I I) (f : fr W I I') (hw : (cdC ++ cdM).all (fun c => !(jel c W)) = true) : RD2 I' I' := RD_cells hG q (fun g i j z => f g i j (cd_no hw (List.mem_append_left _ (cd_C z)))) (fun g i j z => f g i j (cd_no hw (List.mem_append_right _ (cd_M z))))
theorem pKR {m : Nat} {c : aK} (h : aKP aGI m c) {d : Nat} {as : List jV} {I : jI} {L : jL} (has : aAs c.1 as) (hG : gG aGI I) : jPM d m as (I, L) (fun _ σ => gR c.2.2.1 I L σ.1 σ.2) := pK h has hG (fun _ _ _ _ r _ => r)
noncomputable def rtW : List aR := [(16, (0, 0), (0, 3)), (30, (0, 3), (0, 59)), (37, (0, 0), (0, 3)), (38, (0, 0), (0, 239))]
theorem RT_gR {W : List aR} {I I' : jI} {L L' : jL} (hw : rApart W rtW = true) (q : RT I) (h : gR W I L I' L') : RT I' := by
  have key : ∀ g i j, gI rtW g i j → I' g i j = I g i j := fun g i j z => (h g i j (rApart_of hw z)).1
  refine ⟨fun t ht => ?_, fun t j ht hj => ?_⟩
  · rw [key 37 0 t ⟨(37, (0, 0), (0, 3)), by decide, rfl, by simp, by simp, by simp, by simp; omega⟩, key 16 0 t ⟨(16, (0, 0), (0, 3)), by decide, rfl, by simp, by simp, by simp, by simp; omega⟩]
    exact q.1 t ht
  · rw [key 38 0 (60 * t + j) ⟨(38, (0, 0), (0, 239)), by decide, rfl, by simp, by simp, by simp; omega, by simp; omega⟩, key 30 t j ⟨(30, (0, 3), (0, 59)), by decide, rfl, by simp, by simp; omega, by simp, by simp; omega⟩]
    exact q.2 t j ht hj
theorem Pq81 {d : Nat} {a1 : Int32} {a2 : Int32} {I : jI} {L : jL} (hG : gG aGI I) (hJ : jJ I) (q : RD2 I I) : jPM d 81 [.inr (0, 0), .inl (.inl a1), .inl (.inl a2)] (I, L) (fun v σ => (∃ r, d81 a1 a2 I = some r ∧ v = some (.inl (.inl r.1)) ∧ σ.1 = r.2) ∧ fr [19, 20, 22, 23, 5009, 5010, 5011, 5012, 5013, 5014, 5015] I σ.1) := by
  obtain ⟨r, r', e, -⟩ := buy_eq a1 a2 hG q
  exact jPM_and (D81 e ⟨r, e, rfl, rfl⟩) (Fx81 (fun _ I' L' f => f))
theorem Pq166 {d : Nat} {a1 : Int32} {a2 : Int32} {I I1 : jI} {L : jL} (hG : gG aGI I) (g1 : gG aGI I1) (hJ : jJ I) (q : RD2 I I) (f : fr [19, 20, 22, 23, 5009, 5010, 5011, 5012, 5013, 5014, 5015] I I1) : jPM d 166 [.inr (31, 0), .inl (.inl a1), .inl (.inl a2)] (I1, L) (fun v σ => (∃ r, d166 a1 a2 I1 = some r ∧ v = some (.inl (.inl r.1)) ∧ σ.1 = r.2) ∧ fr [32] I1 σ.1) := by
  obtain ⟨r, r', -, e, -⟩ := buy_eq a1 a2 hG (RD_frM hG q f rfl)
  exact jPM_and (D166 e ⟨r', e, rfl, rfl⟩) (Fx166 (fun _ I' L' f => f))
theorem Qq81 {a1 : Int32} {a2 : Int32} {x1 x2 : Int32} {I I1 I2 : jI} (hG : gG aGI I) (g1 : gG aGI I1) (hJ : jJ I) (q : RD2 I I) (q1 : (∃ r, d81 a1 a2 I = some r ∧ (some (.inl (.inl x1)) : Option jV) = some (.inl (.inl r.1)) ∧ I1 = r.2) ∧ fr [19, 20, 22, 23, 5009, 5010, 5011, 5012, 5013, 5014, 5015] I I1) (q2 : (∃ r, d166 a1 a2 I1 = some r ∧ (some (.inl (.inl x2)) : Option jV) = some (.inl (.inl r.1)) ∧ I2 = r.2) ∧ fr [32] I1 I2) : x1 = x2 ∧ RD2 I2 I2 := by
  obtain ⟨⟨s, c1, c2, c3⟩, f⟩ := q1
  obtain ⟨r, r', e, e', k, z⟩ := buy_eq a1 a2 hG (RD_frM hG q f rfl)
  obtain ⟨⟨s', b1, b2, b3⟩, f2⟩ := q2
  rw [e] at c1
  rw [e'] at b1
  cases c1
  cases b1
  cases c2
  cases b2
  rw [← b3] at z
  rw [← c3] at z
  exact ⟨k, RD_frC g1 z f2 rfl⟩
theorem Pq82 {d : Nat} {I : jI} {L : jL} (hG : gG aGI I) (hJ : jJ I) (q : RD2 I I) : jPM d 82 [.inr (0, 0)] (I, L) (fun v σ => (∃ r, d82 I = some r ∧ v = some (.inl (.inl r.1)) ∧ σ.1 = r.2) ∧ fr [19, 20, 22, 23, 5009, 5010, 5011, 5012, 5013, 5014, 5015] I σ.1) := by
  obtain ⟨r, r', e, -⟩ := week_eq hG q
  exact jPM_and (D82 e ⟨r, e, rfl, rfl⟩) (Fx82 (fun _ I' L' f => f))
theorem Pq168 {d : Nat} {I I1 : jI} {L : jL} (hG : gG aGI I) (g1 : gG aGI I1) (hJ : jJ I) (q : RD2 I I) (f : fr [19, 20, 22, 23, 5009, 5010, 5011, 5012, 5013, 5014, 5015] I I1) : jPM d 168 [.inr (31, 0)] (I1, L) (fun v σ => (∃ r, d168 I1 = some r ∧ v = some (.inl (.inl r.1)) ∧ σ.1 = r.2) ∧ fr [32] I1 σ.1) := by
  obtain ⟨r, r', -, e, -⟩ := week_eq hG (RD_frM hG q f rfl)
  exact jPM_and (D168 e ⟨r', e, rfl, rfl⟩) (Fx168 (fun _ I' L' f => f))
theorem Qq82 {x1 x2 : Int32} {I I1 I2 : jI} (hG : gG aGI I) (g1 : gG aGI I1) (hJ : jJ I) (q : RD2 I I) (q1 : (∃ r, d82 I = some r ∧ (some (.inl (.inl x1)) : Option jV) = some (.inl (.inl r.1)) ∧ I1 = r.2) ∧ fr [19, 20, 22, 23, 5009, 5010, 5011, 5012, 5013, 5014, 5015] I I1) (q2 : (∃ r, d168 I1 = some r ∧ (some (.inl (.inl x2)) : Option jV) = some (.inl (.inl r.1)) ∧ I2 = r.2) ∧ fr [32] I1 I2) : x1 = x2 ∧ RD2 I2 I2 := by
  obtain ⟨⟨s, c1, c2, c3⟩, f⟩ := q1
  obtain ⟨r, r', e, e', k, z⟩ := week_eq hG (RD_frM hG q f rfl)
  obtain ⟨⟨s', b1, b2, b3⟩, f2⟩ := q2
  rw [e] at c1
  rw [e'] at b1
  cases c1
  cases b1
  cases c2
  cases b2
  rw [← b3] at z
  rw [← c3] at z
  exact ⟨k, RD_frC g1 z f2 rfl⟩
theorem Pq83 {d : Nat} {a1 : Int32} {I : jI} {L : jL} (hG : gG aGI I) (hJ : jJ I) (q : RD2 I I) : jPM d 83 [.inr (0, 0), .inl (.inl a1)] (I, L) (fun v σ => (∃ r, d83 a1 I = some r ∧ v = some (.inl (.inl r.1)) ∧ σ.1 = r.2) ∧ fr [19, 20, 22, 23, 5009, 5010, 5011, 5012, 5013, 5014, 5015] I σ.1) := by
  obtain ⟨r, r', e, -⟩ := shrink_eq a1 hG q
  exact jPM_and (D83 e ⟨r, e, rfl, rfl⟩) (Fx83 (fun _ I' L' f => f))
theorem Pq169 {d : Nat} {a1 : Int32} {I I1 : jI} {L : jL} (hG : gG aGI I) (g1 : gG aGI I1) (hJ : jJ I) (q : RD2 I I) (f : fr [19, 20, 22, 23, 5009, 5010, 5011, 5012, 5013, 5014, 5015] I I1) : jPM d 169 [.inr (31, 0), .inl (.inl a1)] (I1, L) (fun v σ => (∃ r, d169 a1 I1 = some r ∧ v = some (.inl (.inl r.1)) ∧ σ.1 = r.2) ∧ fr [32] I1 σ.1) := by
  obtain ⟨r, r', -, e, -⟩ := shrink_eq a1 hG (RD_frM hG q f rfl)
  exact jPM_and (D169 e ⟨r', e, rfl, rfl⟩) (Fx169 (fun _ I' L' f => f))
theorem Qq83 {a1 : Int32} {x1 x2 : Int32} {I I1 I2 : jI} (hG : gG aGI I) (g1 : gG aGI I1) (hJ : jJ I) (q : RD2 I I) (q1 : (∃ r, d83 a1 I = some r ∧ (some (.inl (.inl x1)) : Option jV) = some (.inl (.inl r.1)) ∧ I1 = r.2) ∧ fr [19, 20, 22, 23, 5009, 5010, 5011, 5012, 5013, 5014, 5015] I I1) (q2 : (∃ r, d169 a1 I1 = some r ∧ (some (.inl (.inl x2)) : Option jV) = some (.inl (.inl r.1)) ∧ I2 = r.2) ∧ fr [32] I1 I2) : x1 = x2 ∧ RD2 I2 I2 := by
  obtain ⟨⟨s, c1, c2, c3⟩, f⟩ := q1
  obtain ⟨r, r', e, e', k, z⟩ := shrink_eq a1 hG (RD_frM hG q f rfl)
  obtain ⟨⟨s', b1, b2, b3⟩, f2⟩ := q2
  rw [e] at c1
  rw [e'] at b1
  cases c1
  cases b1
  cases c2
  cases b2
  rw [← b3] at z
  rw [← c3] at z
  exact ⟨k, RD_frC g1 z f2 rfl⟩
theorem Pq84 {d : Nat} {a1 : Int32} {a2 : Int32} {I : jI} {L : jL} (hG : gG aGI I) (hJ : jJ I) (q : RD2 I I) : jPM d 84 [.inr (0, 0), .inl (.inl a1), .inl (.inl a2)] (I, L) (fun v σ => (∃ r, d84 a1 a2 I = some r ∧ v = some (.inl (.inl r.1)) ∧ σ.1 = r.2) ∧ fr [19, 20, 22, 23, 5009, 5010, 5011, 5012, 5013, 5014, 5015] I σ.1) := by
  obtain ⟨r, r', e, -⟩ := price_eq a1 a2 hG q
  exact jPM_and (D84 e ⟨r, e, rfl, rfl⟩) (Fx84 (fun _ I' L' f => f))
theorem Pq171 {d : Nat} {a1 : Int32} {a2 : Int32} {I I1 : jI} {L : jL} (hG : gG aGI I) (g1 : gG aGI I1) (hJ : jJ I) (q : RD2 I I) (f : fr [19, 20, 22, 23, 5009, 5010, 5011, 5012, 5013, 5014, 5015] I I1) : jPM d 171 [.inr (31, 0), .inl (.inl a1), .inl (.inl a2)] (I1, L) (fun v σ => (∃ r, d171 a1 a2 I1 = some r ∧ v = some (.inl (.inl r.1)) ∧ σ.1 = r.2) ∧ fr [32] I1 σ.1) := by
  obtain ⟨r, r', -, e, -⟩ := price_eq a1 a2 hG (RD_frM hG q f rfl)
  exact jPM_and (D171 e ⟨r', e, rfl, rfl⟩) (Fx171 (fun _ I' L' f => f))
theorem Qq84 {a1 : Int32} {a2 : Int32} {x1 x2 : Int32} {I I1 I2 : jI} (hG : gG aGI I) (g1 : gG aGI I1) (hJ : jJ I) (q : RD2 I I) (q1 : (∃ r, d84 a1 a2 I = some r ∧ (some (.inl (.inl x1)) : Option jV) = some (.inl (.inl r.1)) ∧ I1 = r.2) ∧ fr [19, 20, 22, 23, 5009, 5010, 5011, 5012, 5013, 5014, 5015] I I1) (q2 : (∃ r, d171 a1 a2 I1 = some r ∧ (some (.inl (.inl x2)) : Option jV) = some (.inl (.inl r.1)) ∧ I2 = r.2) ∧ fr [32] I1 I2) : x1 = x2 ∧ RD2 I2 I2 := by
  obtain ⟨⟨s, c1, c2, c3⟩, f⟩ := q1
  obtain ⟨r, r', e, e', k, z⟩ := price_eq a1 a2 hG (RD_frM hG q f rfl)
  obtain ⟨⟨s', b1, b2, b3⟩, f2⟩ := q2
  rw [e] at c1
  rw [e'] at b1
  cases c1
  cases b1
  cases c2
  cases b2
  rw [← b3] at z
  rw [← c3] at z
  exact ⟨k, RD_frC g1 z f2 rfl⟩
theorem Pq85 {d : Nat} {a1 : Int32} {I : jI} {L : jL} (hG : gG aGI I) (hJ : jJ I) (q : RD2 I I) : jPM d 85 [.inr (0, 0), .inl (.inl a1)] (I, L) (fun v σ => (∃ r, d85 a1 I = some r ∧ v = some (.inl (.inl r.1)) ∧ σ.1 = r.2) ∧ fr [19, 20, 22, 23, 5009, 5010, 5011, 5012, 5013, 5014, 5015] I σ.1) := by
  obtain ⟨r, r', e, -⟩ := card_eq a1 hG q
  exact jPM_and (D85 e ⟨r, e, rfl, rfl⟩) (Fx85 (fun _ I' L' f => f))
theorem Pq172 {d : Nat} {a1 : Int32} {I I1 : jI} {L : jL} (hG : gG aGI I) (g1 : gG aGI I1) (hJ : jJ I) (q : RD2 I I) (f : fr [19, 20, 22, 23, 5009, 5010, 5011, 5012, 5013, 5014, 5015] I I1) : jPM d 172 [.inr (31, 0), .inl (.inl a1)] (I1, L) (fun v σ => (∃ r, d172 a1 I1 = some r ∧ v = some (.inl (.inl r.1)) ∧ σ.1 = r.2) ∧ fr [32] I1 σ.1) := by
  obtain ⟨r, r', -, e, -⟩ := card_eq a1 hG (RD_frM hG q f rfl)
  exact jPM_and (D172 e ⟨r', e, rfl, rfl⟩) (Fx172 (fun _ I' L' f => f))
theorem Qq85 {a1 : Int32} {x1 x2 : Int32} {I I1 I2 : jI} (hG : gG aGI I) (g1 : gG aGI I1) (hJ : jJ I) (q : RD2 I I) (q1 : (∃ r, d85 a1 I = some r ∧ (some (.inl (.inl x1)) : Option jV) = some (.inl (.inl r.1)) ∧ I1 = r.2) ∧ fr [19, 20, 22, 23, 5009, 5010, 5011, 5012, 5013, 5014, 5015] I I1) (q2 : (∃ r, d172 a1 I1 = some r ∧ (some (.inl (.inl x2)) : Option jV) = some (.inl (.inl r.1)) ∧ I2 = r.2) ∧ fr [32] I1 I2) : x1 = x2 ∧ RD2 I2 I2 := by
  obtain ⟨⟨s, c1, c2, c3⟩, f⟩ := q1
  obtain ⟨r, r', e, e', k, z⟩ := card_eq a1 hG (RD_frM hG q f rfl)
  obtain ⟨⟨s', b1, b2, b3⟩, f2⟩ := q2
  rw [e] at c1
  rw [e'] at b1
  cases c1
  cases b1
  cases c2
  cases b2
  rw [← b3] at z
  rw [← c3] at z
  exact ⟨k, RD_frC g1 z f2 rfl⟩
theorem Pq86 {d : Nat} {a1 : Int32} {I : jI} {L : jL} (hG : gG aGI I) (hJ : jJ I) (q : RD2 I I) : jPM d 86 [.inr (0, 0), .inl (.inl a1)] (I, L) (fun v σ => (∃ r, d86 a1 I = some r ∧ v = some (.inl (.inl r.1)) ∧ σ.1 = r.2) ∧ fr [18, 19, 20, 21, 22, 23, 5006, 5007, 5008, 5009, 5010, 5011, 5012, 5013, 5014, 5015] I σ.1) := by
  obtain ⟨r, r', e, -⟩ := undo_eq a1 hG hJ q
  exact jPM_and (D86 e ⟨r, e, rfl, rfl⟩) (Fx86 (fun _ I' L' f => f))
theorem Pq173 {d : Nat} {a1 : Int32} {I I1 : jI} {L : jL} (hG : gG aGI I) (g1 : gG aGI I1) (hJ : jJ I) (q : RD2 I I) (f : fr [18, 19, 20, 21, 22, 23, 5006, 5007, 5008, 5009, 5010, 5011, 5012, 5013, 5014, 5015] I I1) : jPM d 173 [.inr (31, 0), .inl (.inl a1)] (I1, L) (fun v σ => (∃ r, d173 a1 I1 = some r ∧ v = some (.inl (.inl r.1)) ∧ σ.1 = r.2) ∧ fr [32] I1 σ.1) := by
  obtain ⟨r, r', -, e, -⟩ := undo_eq a1 hG hJ (RD_frM hG q f rfl)
  exact jPM_and (D173 e ⟨r', e, rfl, rfl⟩) (Fx173 (fun _ I' L' f => f))
theorem Qq86 {a1 : Int32} {x1 x2 : Int32} {I I1 I2 : jI} (hG : gG aGI I) (g1 : gG aGI I1) (hJ : jJ I) (q : RD2 I I) (q1 : (∃ r, d86 a1 I = some r ∧ (some (.inl (.inl x1)) : Option jV) = some (.inl (.inl r.1)) ∧ I1 = r.2) ∧ fr [18, 19, 20, 21, 22, 23, 5006, 5007, 5008, 5009, 5010, 5011, 5012, 5013, 5014, 5015] I I1) (q2 : (∃ r, d173 a1 I1 = some r ∧ (some (.inl (.inl x2)) : Option jV) = some (.inl (.inl r.1)) ∧ I2 = r.2) ∧ fr [32] I1 I2) : RD2 I2 I2 := by
  obtain ⟨⟨s, c1, c2, c3⟩, f⟩ := q1
  obtain ⟨r, r', e, e', z⟩ := undo_eq a1 hG hJ (RD_frM hG q f rfl)
  obtain ⟨⟨s', b1, b2, b3⟩, f2⟩ := q2
  rw [e] at c1
  rw [e'] at b1
  cases c1
  cases b1
  cases c2
  cases b2
  rw [← b3] at z
  rw [← c3] at z
  exact RD_frC g1 z f2 rfl
theorem Pq87 {d : Nat} {a1 : Int32} {I : jI} {L : jL} (hG : gG aGI I) (hJ : jJ I) (q : RD2 I I) : jPM d 87 [.inr (0, 0), .inl (.inl a1)] (I, L) (fun v σ => (∃ r, d87 a1 I = some r ∧ v = some (.inl (.inl r.1)) ∧ σ.1 = r.2) ∧ fr [6, 18, 19, 20, 21, 22, 23, 5006, 5007, 5008, 5009, 5010, 5011, 5012, 5013, 5014, 5015] I σ.1) := by
  obtain ⟨r, r', e, -⟩ := keep_eq a1 hG q
  exact jPM_and (D87 e ⟨r, e, rfl, rfl⟩) (Fx87 (fun _ I' L' f => f))
theorem Pq175 {d : Nat} {a1 : Int32} {I I1 : jI} {L : jL} (hG : gG aGI I) (g1 : gG aGI I1) (hJ : jJ I) (q : RD2 I I) (f : fr [6, 18, 19, 20, 21, 22, 23, 5006, 5007, 5008, 5009, 5010, 5011, 5012, 5013, 5014, 5015] I I1) : jPM d 175 [.inr (31, 0), .inl (.inl a1)] (I1, L) (fun v σ => (∃ r, d175 a1 I1 = some r ∧ v = some (.inl (.inl r.1)) ∧ σ.1 = r.2) ∧ fr [32] I1 σ.1) := by
  obtain ⟨r, r', -, e, -⟩ := keep_eq a1 hG (RD_frM hG q f rfl)
  exact jPM_and (D175 e ⟨r', e, rfl, rfl⟩) (Fx175 (fun _ I' L' f => f))
theorem Qq87 {a1 : Int32} {x1 x2 : Int32} {I I1 I2 : jI} (hG : gG aGI I) (g1 : gG aGI I1) (hJ : jJ I) (q : RD2 I I) (q1 : (∃ r, d87 a1 I = some r ∧ (some (.inl (.inl x1)) : Option jV) = some (.inl (.inl r.1)) ∧ I1 = r.2) ∧ fr [6, 18, 19, 20, 21, 22, 23, 5006, 5007, 5008, 5009, 5010, 5011, 5012, 5013, 5014, 5015] I I1) (q2 : (∃ r, d175 a1 I1 = some r ∧ (some (.inl (.inl x2)) : Option jV) = some (.inl (.inl r.1)) ∧ I2 = r.2) ∧ fr [32] I1 I2) : x1 = x2 ∧ RD2 I2 I2 := by
  obtain ⟨⟨s, c1, c2, c3⟩, f⟩ := q1
  obtain ⟨r, r', e, e', k, z⟩ := keep_eq a1 hG (RD_frM hG q f rfl)
  obtain ⟨⟨s', b1, b2, b3⟩, f2⟩ := q2
  rw [e] at c1
  rw [e'] at b1
  cases c1
  cases b1
  cases c2
  cases b2
  rw [← b3] at z
  rw [← c3] at z
  exact ⟨k, RD_frC g1 z f2 rfl⟩
theorem Pq88 {d : Nat} {a1 : Int32} {I : jI} {L : jL} (hG : gG aGI I) (hJ : jJ I) (q : RD2 I I) : jPM d 88 [.inr (0, 0), .inl (.inl a1)] (I, L) (fun v σ => (∃ r, d88 a1 I = some r ∧ v = some (.inl (.inl r.1)) ∧ σ.1 = r.2) ∧ fr [12, 18, 19, 20, 21, 22, 23, 1013, 5006, 5007, 5008, 5009, 5010, 5011, 5012, 5013, 5014, 5015] I σ.1) := by
  obtain ⟨r, r', e, -⟩ := on_eq a1 hG q
  exact jPM_and (D88 e ⟨r, e, rfl, rfl⟩) (Fx88 (fun _ I' L' f => f))
theorem Pq176 {d : Nat} {a1 : Int32} {I I1 : jI} {L : jL} (hG : gG aGI I) (g1 : gG aGI I1) (hJ : jJ I) (q : RD2 I I) (f : fr [12, 18, 19, 20, 21, 22, 23, 1013, 5006, 5007, 5008, 5009, 5010, 5011, 5012, 5013, 5014, 5015] I I1) : jPM d 176 [.inr (31, 0), .inl (.inl a1)] (I1, L) (fun v σ => (∃ r, d176 a1 I1 = some r ∧ v = some (.inl (.inl r.1)) ∧ σ.1 = r.2) ∧ fr [32, 39, 32013] I1 σ.1) := by
  obtain ⟨r, r', -, e, -⟩ := on_eq a1 hG (RD_frM hG q f rfl)
  exact jPM_and (D176 e ⟨r', e, rfl, rfl⟩) (Fx176 (fun _ I' L' f => f))
theorem Qq88 {a1 : Int32} {x1 x2 : Int32} {I I1 I2 : jI} (hG : gG aGI I) (g1 : gG aGI I1) (hJ : jJ I) (q : RD2 I I) (q1 : (∃ r, d88 a1 I = some r ∧ (some (.inl (.inl x1)) : Option jV) = some (.inl (.inl r.1)) ∧ I1 = r.2) ∧ fr [12, 18, 19, 20, 21, 22, 23, 1013, 5006, 5007, 5008, 5009, 5010, 5011, 5012, 5013, 5014, 5015] I I1) (q2 : (∃ r, d176 a1 I1 = some r ∧ (some (.inl (.inl x2)) : Option jV) = some (.inl (.inl r.1)) ∧ I2 = r.2) ∧ fr [32, 39, 32013] I1 I2) : x1 = x2 ∧ RD2 I2 I2 := by
  obtain ⟨⟨s, c1, c2, c3⟩, f⟩ := q1
  obtain ⟨r, r', e, e', k, z⟩ := on_eq a1 hG (RD_frM hG q f rfl)
  obtain ⟨⟨s', b1, b2, b3⟩, f2⟩ := q2
  rw [e] at c1
  rw [e'] at b1
  cases c1
  cases b1
  cases c2
  cases b2
  rw [← b3] at z
  rw [← c3] at z
  exact ⟨k, RD_frC g1 z f2 rfl⟩
theorem Pq105 {d : Nat} {a1 : Int32} {a2 : Int32} {I : jI} {L : jL} (hG : gG aGI I) (hJ : jJ I) (q : RD2 I I) : jPM d 105 [.inr (0, 0), .inl (.inl a1), .inl (.inl a2)] (I, L) (fun v σ => (∃ r, d105 a1 a2 I = some r ∧ v = some (.inl (.inl r.1)) ∧ σ.1 = r.2) ∧ fr [19, 20, 22, 23, 5009, 5010, 5011, 5012, 5013, 5014, 5015] I σ.1) := by
  obtain ⟨r, r', e, -⟩ := lots_eq a1 a2 hG hJ q
  exact jPM_and (D105 e ⟨r, e, rfl, rfl⟩) (Fx105 (fun _ I' L' f => f))
theorem Pq207 {d : Nat} {a1 : Int32} {a2 : Int32} {I I1 : jI} {L : jL} (hG : gG aGI I) (g1 : gG aGI I1) (hJ : jJ I) (q : RD2 I I) (f : fr [19, 20, 22, 23, 5009, 5010, 5011, 5012, 5013, 5014, 5015] I I1) : jPM d 207 [.inr (31, 0), .inl (.inl a1), .inl (.inl a2)] (I1, L) (fun v σ => (∃ r, d207 a1 a2 I1 = some r ∧ v = some (.inl (.inl r.1)) ∧ σ.1 = r.2) ∧ fr [32] I1 σ.1) := by
  obtain ⟨r, r', -, e, -⟩ := lots_eq a1 a2 hG hJ (RD_frM hG q f rfl)
  exact jPM_and (D207 e ⟨r', e, rfl, rfl⟩) (Fx207 (fun _ I' L' f => f))
theorem Qq105 {a1 : Int32} {a2 : Int32} {x1 x2 : Int32} {I I1 I2 : jI} (hG : gG aGI I) (g1 : gG aGI I1) (hJ : jJ I) (q : RD2 I I) (q1 : (∃ r, d105 a1 a2 I = some r ∧ (some (.inl (.inl x1)) : Option jV) = some (.inl (.inl r.1)) ∧ I1 = r.2) ∧ fr [19, 20, 22, 23, 5009, 5010, 5011, 5012, 5013, 5014, 5015] I I1) (q2 : (∃ r, d207 a1 a2 I1 = some r ∧ (some (.inl (.inl x2)) : Option jV) = some (.inl (.inl r.1)) ∧ I2 = r.2) ∧ fr [32] I1 I2) : x1 = x2 ∧ RD2 I2 I2 := by
  obtain ⟨⟨s, c1, c2, c3⟩, f⟩ := q1
  obtain ⟨r, r', e, e', k, z⟩ := lots_eq a1 a2 hG hJ (RD_frM hG q f rfl)
  obtain ⟨⟨s', b1, b2, b3⟩, f2⟩ := q2
  rw [e] at c1
  rw [e'] at b1
  cases c1
  cases b1
  cases c2
  cases b2
  rw [← b3] at z
  rw [← c3] at z
  exact ⟨k, RD_frC g1 z f2 rfl⟩
theorem Pq77 {d : Nat} {a1 : Int32} {I : jI} {L : jL} (hG : gG aGI I) (hJ : jJ I) (hT : RT I) (q : RD2 I I) : jPM d 77 [.inr (0, 0), .inl (.inl a1)] (I, L) (fun v σ => (∃ r, d77 a1 I = some r ∧ v = some (.inl (.inl r.1)) ∧ σ.1 = r.2) ∧ fr [6, 12, 17, 18, 19, 20, 21, 22, 23, 1013, 4002, 4003, 4004, 5006, 5007, 5008, 5009, 5010, 5011, 5012, 5013, 5014, 5015] I σ.1) := by
  obtain ⟨r, r', e, -⟩ := house_eq2 a1 hG hG hJ hT rfl rfl q
  exact jPM_and (D77 e ⟨r, e, rfl, rfl⟩) (Fx77 (fun _ I' L' f => f))
theorem Pq150 {d : Nat} {a1 : Int32} {I I1 : jI} {L : jL} (hG : gG aGI I) (g1 : gG aGI I1) (hJ : jJ I) (hT : RT I) (q : RD2 I I) (f : fr [6, 12, 17, 18, 19, 20, 21, 22, 23, 1013, 4002, 4003, 4004, 5006, 5007, 5008, 5009, 5010, 5011, 5012, 5013, 5014, 5015] I I1) : jPM d 150 [.inr (31, 0), .inl (.inl a1)] (I1, L) (fun v σ => (∃ r, d150 a1 I1 = some r ∧ v = some (.inl (.inl r.1)) ∧ σ.1 = r.2) ∧ fr [32, 33, 34, 39, 40, 32001, 32002, 32003, 32013, 32015, 32016, 32017, 32018, 32019, 32021] I1 σ.1) := by
  obtain ⟨r, r', -, e, -⟩ := house_eq2 a1 hG g1 hJ hT (fr_arr f (fun _ => rfl) rfl) (fr_arr f (fun _ => rfl) rfl) (RD_frM hG q f rfl)
  exact jPM_and (D150 e ⟨r', e, rfl, rfl⟩) (Fx150 (fun _ I' L' f => f))
theorem Qq77 {a1 : Int32} {x1 x2 : Int32} {I I1 I2 : jI} (hG : gG aGI I) (g1 : gG aGI I1) (hJ : jJ I) (hT : RT I) (q : RD2 I I) (q1 : (∃ r, d77 a1 I = some r ∧ (some (.inl (.inl x1)) : Option jV) = some (.inl (.inl r.1)) ∧ I1 = r.2) ∧ fr [6, 12, 17, 18, 19, 20, 21, 22, 23, 1013, 4002, 4003, 4004, 5006, 5007, 5008, 5009, 5010, 5011, 5012, 5013, 5014, 5015] I I1) (q2 : (∃ r, d150 a1 I1 = some r ∧ (some (.inl (.inl x2)) : Option jV) = some (.inl (.inl r.1)) ∧ I2 = r.2) ∧ fr [32, 33, 34, 39, 40, 32001, 32002, 32003, 32013, 32015, 32016, 32017, 32018, 32019, 32021] I1 I2) : x1 = x2 ∧ RD2 I2 I2 := by
  obtain ⟨⟨s, c1, c2, c3⟩, f⟩ := q1
  obtain ⟨r, r', e, e', k, z⟩ := house_eq2 a1 hG g1 hJ hT (fr_arr f (fun _ => rfl) rfl) (fr_arr f (fun _ => rfl) rfl) (RD_frM hG q f rfl)
  obtain ⟨⟨s', b1, b2, b3⟩, f2⟩ := q2
  rw [e] at c1
  rw [e'] at b1
  cases c1
  cases b1
  cases c2
  cases b2
  rw [← b3] at z
  rw [← c3] at z
  exact ⟨k, RD_frC g1 z f2 rfl⟩
end
section
noncomputable def an104 (a1 : Int32) (I : jI) : Int32 := (if a1 < 0 then (-1) else (if a1 ≤ 12 then (if (I 4 1 6) = 0 then (-4) else (1)) else (-1)))
set_option maxHeartbeats 4000000 in
set_option maxRecDepth 20000 in
theorem Vx104 {d : Nat} {k : jK} {a1 : Int32} {I : jI} {L : jL} (hk : ∀ (x : Int32) (I' : jI) (L' : jL), fr [] I I' → x = an104 a1 I → k (some (.inl (.inl x))) (I', L')) : jPM d 104 [.inr (0, 0), .inl (.inl a1)] (I, L) k := by
  refine pM (fun d n => ?_)
  refine pn_go [30] 400 ?_
  conv => whnf
  refine ⟨fun c1 => ?_, fun c1 => ?_⟩
  · conv => whnf
    exact hk _ _ _ fr_rf (by unfold an104; rw [if_pos c1])
  · conv => whnf
    refine ⟨fun c2 => ?_, fun c2 => ?_⟩
    · conv => whnf
      refine ⟨fun c3 => ?_, fun c3 => ?_⟩
      · conv => whnf
        refine FxL104_30 _ (fun _ _ _ I4 L4 f4 => ?_) _ _ _ _ _ fr_rf
        refine pn_go [30] 400 ?_
        conv => whnf
        refine Fx116 (fun I5 L5 f5 => ?_)
        conv => whnf
        exact hk _ _ _ (fr_then (by decide) (fr_then (by decide) fr_rf f4) f5) (by unfold an104; rw [if_neg c1, if_pos c2, if_neg c3])
      · conv => whnf
        exact hk _ _ _ fr_rf (by unfold an104; rw [if_neg c1, if_pos c2, if_pos c3])
    · conv => whnf
      exact hk _ _ _ fr_rf (by unfold an104; rw [if_neg c1, if_neg c2])
noncomputable def an178 (a1 : Int64) (a2 : Int64) (I : jI) : Int32 := (1)
set_option maxHeartbeats 4000000 in
set_option maxRecDepth 20000 in
theorem Vx178 {d : Nat} {k : jK} {a1 : Int64} {a2 : Int64} {I : jI} {L : jL} (hk : ∀ (x : Int32) (I' : jI) (L' : jL), fr [] I I' → x = an178 a1 a2 I → k (some (.inl (.inl x))) (I', L')) : jPM d 178 [.inr (31, 0), .inl (.inr a1), .inl (.inr a2)] (I, L) k := by
  refine pM (fun d n => ?_)
  refine pn_go [6] 400 ?_
  conv => whnf
  refine FxL178_6 _ (fun _ _ _ _ _ _ _ I1 L1 f1 => ?_) _ _ _ _ _ _ _ _ fr_rf
  refine pn_go [6] 400 ?_
  conv => whnf
  intro _
  conv => whnf
  intro _
  conv => whnf
  exact hk _ _ _ (fr_then (by decide) fr_rf f1) (rfl)
noncomputable def an204 (a1 : Int32) (a2 : Int32) (a3 : Int32) (I : jI) : Int32 := (1)
set_option maxHeartbeats 4000000 in
set_option maxRecDepth 20000 in
theorem Vx204 {d : Nat} {k : jK} {a1 : Int32} {a2 : Int32} {a3 : Int32} {I : jI} {L : jL} (hk : ∀ (x : Int32) (I' : jI) (L' : jL), fr [] I I' → x = an204 a1 a2 a3 I → k (some (.inl (.inl x))) (I', L')) : jPM d 204 [.inr (31, 0), .inl (.inl a1), .inl (.inl a2), .inl (.inl a3)] (I, L) k := by
  refine pM (fun d n => ?_)
  refine pn_go [9, 32] 400 ?_
  conv => whnf
  refine FxL204_9 _ (fun _ _ _ _ _ _ _ _ _ _ _ I1 L1 f1 => ?_) _ _ _ _ _ _ _ _ _ _ _ _ _ fr_rf
  refine pn_go [9, 32] 400 ?_
  conv => whnf
  refine Vx178 (fun x2 I2 L2 f2 e2 => ?_)
  conv => whnf
  exact hk _ _ _ (fr_then (by decide) (fr_then (by decide) fr_rf f1) f2) (e2.trans (by rfl))
noncomputable def an206 (a1 : Int32) (I : jI) : Int32 := (if (d124 (Int32.toInt64 a1) 0 12 I) = 0 then (-1) else (if (I 31 0 3) = 0 then (-4) else (1)))
set_option maxHeartbeats 4000000 in
set_option maxRecDepth 20000 in
theorem Vx206 {d : Nat} {k : jK} {a1 : Int32} {I : jI} {L : jL} (hk : ∀ (x : Int32) (I' : jI) (L' : jL), fr [] I I' → x = an206 a1 I → k (some (.inl (.inl x))) (I', L')) : jPM d 206 [.inr (31, 0), .inl (.inl a1)] (I, L) k := by
  refine pM (fun d n => ?_)
  refine pn_go [] 400 ?_
  conv => whnf
  refine D124 rfl ?_
  conv => whnf
  refine ⟨fun c1 => ?_, fun c1 => ?_⟩
  · conv => whnf
    refine ⟨fun c2 => ?_, fun c2 => ?_⟩
    · conv => whnf
      refine Vx204 (fun x3 I3 L3 f3 e3 => ?_)
      conv => whnf
      exact hk _ _ _ (fr_then (by decide) fr_rf f3) (e3.trans (by unfold an206; rw [if_neg c1, if_neg c2]; rfl))
    · conv => whnf
      exact hk _ _ _ fr_rf (by unfold an206; rw [if_neg c1, if_pos c2])
  · conv => whnf
    exact hk _ _ _ fr_rf (by unfold an206; rw [if_pos c1])
theorem mid_an {I J : jI} (n : Int32) (hG : gG aGI I) (q : RD2 I J) : an104 n I = an206 n J := by
  have c3 : J 31 0 3 = I 4 1 6 := (RD_cur hG q).1.1.1
  have z2 : (12 : Int32).toInt = 12 := rfl
  unfold an104 an206
  rw [in_i, c3]
  by_cases h1 : 0 ≤ n.toInt ∧ n.toInt ≤ 12
  · rw [if_neg (show ¬ n < 0 by rw [lt0_t]; omega), if_pos (show n ≤ 12 by rw [le_t, z2]; exact h1.2), if_pos (show (0 : Int64).toInt ≤ n.toInt ∧ n.toInt ≤ (12 : Int64).toInt from h1), if_neg one0]
  · rw [if_neg (show ¬ ((0 : Int64).toInt ≤ n.toInt ∧ n.toInt ≤ (12 : Int64).toInt) from h1), if_pos rfl]
    by_cases h3 : n < 0
    · rw [if_pos h3]
    · rw [if_neg h3, if_neg (show ¬ n ≤ 12 from fun z => by rw [le_t, z2] at z; rw [lt0_t] at h3; exact h1 ⟨by omega, z⟩)]
end
section
theorem RD_mid {W : List aR} {I I1 : jI} {L L1 : jL} (hw : rApart W rdM = true) (hG : gG aGI I) (q : RD2 I I) (h : gR W I L I1 L1) : RD2 I I1 := RD_cells hG q (fun _ _ _ _ => rfl) (fun g i j z => (h g i j (rApart_of hw z)).1)
theorem Pa104 {d : Nat} {a1 : Int32} {I : jI} {L : jL} {K : jK} (hG : gG aGI I) (q : RD2 I I) (hK : jPM d 104 [.inr (0, 0), .inl (.inl a1)] (I, L) K) : jPM d 104 [.inr (0, 0), .inl (.inl a1)] (I, L) (fun v σ => v = some (.inl (.inl (an104 a1 I))) ∧ K v σ) := by
  exact jPM_and (Vx104 (fun x I' L' _ e => by rw [e])) hK
theorem Pa206 {d : Nat} {a1 : Int32} {I I1 : jI} {L : jL} {K : jK} (hG : gG aGI I) (q : RD2 I I1) (hK : jPM d 206 [.inr (31, 0), .inl (.inl a1)] (I1, L) K) : jPM d 206 [.inr (31, 0), .inl (.inl a1)] (I1, L) (fun v σ => v = some (.inl (.inl (an206 a1 I1))) ∧ K v σ) := by
  exact jPM_and (Vx206 (fun x I' L' _ e => by rw [e])) hK
theorem Qa104 {a1 : Int32} {x1 x2 : Int32} {I I1 : jI} (hG : gG aGI I) (q : RD2 I I1) (q1 : (some (.inl (.inl x1)) : Option jV) = some (.inl (.inl (an104 a1 I)))) (q2 : (some (.inl (.inl x2)) : Option jV) = some (.inl (.inl (an206 a1 I1)))) : x1 = x2 := by
  cases q1
  cases q2
  exact mid_an a1 hG q
end
