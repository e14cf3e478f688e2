/-! the calls of 12s14 once more, with the longs left as they are; rate, odds, mid, upper, lower -/
theorem Pl81 {d : Nat} {a1 : Int32} {a2 : Int32} {I : jI} {L : jL} (hG : gG aGI I) (hJ : jJ I) (q : RD2 I I) : jPM d 81 [.inr (0, 0), .inl (.inl a1), .inl (.inl a2)] (I, L) (fun v σ => ((∃ r, d81 a1 a2 I = some r ∧ v = some (.inl (.inl r.1)) ∧ σ.1 = r.2) ∧ fr [19, 20, 22, 23, 5009, 5010, 5011, 5012, 5013, 5014, 5015] I σ.1) ∧ σ.2 = L) := by
  obtain ⟨r, r', e, -⟩ := buy_eq a1 a2 hG q
  exact jPM_and (jPM_and (D81 e ⟨r, e, rfl, rfl⟩) (Fx81 (fun _ I' L' f => f))) (D81 e rfl)
theorem Pl166 {d : Nat} {a1 : Int32} {a2 : Int32} {I I1 : jI} {L : jL} (hG : gG aGI I) (g1 : gG aGI I1) (hJ : jJ I) (q : RD2 I I) (f : fr [19, 20, 22, 23, 5009, 5010, 5011, 5012, 5013, 5014, 5015] I I1) : jPM d 166 [.inr (31, 0), .inl (.inl a1), .inl (.inl a2)] (I1, L) (fun v σ => ((∃ r, d166 a1 a2 I1 = some r ∧ v = some (.inl (.inl r.1)) ∧ σ.1 = r.2) ∧ fr [32] I1 σ.1) ∧ σ.2 = L) := by
  obtain ⟨r, r', -, e, -⟩ := buy_eq a1 a2 hG (RD_frM hG q f rfl)
  exact jPM_and (jPM_and (D166 e ⟨r', e, rfl, rfl⟩) (Fx166 (fun _ I' L' f => f))) (D166 e rfl)
theorem Pl82 {d : Nat} {I : jI} {L : jL} (hG : gG aGI I) (hJ : jJ I) (q : RD2 I I) : jPM d 82 [.inr (0, 0)] (I, L) (fun v σ => ((∃ r, d82 I = some r ∧ v = some (.inl (.inl r.1)) ∧ σ.1 = r.2) ∧ fr [19, 20, 22, 23, 5009, 5010, 5011, 5012, 5013, 5014, 5015] I σ.1) ∧ σ.2 = L) := by
  obtain ⟨r, r', e, -⟩ := week_eq hG q
  exact jPM_and (jPM_and (D82 e ⟨r, e, rfl, rfl⟩) (Fx82 (fun _ I' L' f => f))) (D82 e rfl)
theorem Pl168 {d : Nat} {I I1 : jI} {L : jL} (hG : gG aGI I) (g1 : gG aGI I1) (hJ : jJ I) (q : RD2 I I) (f : fr [19, 20, 22, 23, 5009, 5010, 5011, 5012, 5013, 5014, 5015] I I1) : jPM d 168 [.inr (31, 0)] (I1, L) (fun v σ => ((∃ r, d168 I1 = some r ∧ v = some (.inl (.inl r.1)) ∧ σ.1 = r.2) ∧ fr [32] I1 σ.1) ∧ σ.2 = L) := by
  obtain ⟨r, r', -, e, -⟩ := week_eq hG (RD_frM hG q f rfl)
  exact jPM_and (jPM_and (D168 e ⟨r', e, rfl, rfl⟩) (Fx168 (fun _ I' L' f => f))) (D168 e rfl)
theorem Pl83 {d : Nat} {a1 : Int32} {I : jI} {L : jL} (hG : gG aGI I) (hJ : jJ I) (q : RD2 I I) : jPM d 83 [.inr (0, 0), .inl (.inl a1)] (I, L) (fun v σ => ((∃ r, d83 a1 I = some r ∧ v = some (.inl (.inl r.1)) ∧ σ.1 = r.2) ∧ fr [19, 20, 22, 23, 5009, 5010, 5011, 5012, 5013, 5014, 5015] I σ.1) ∧ σ.2 = L) := by
  obtain ⟨r, r', e, -⟩ := shrink_eq a1 hG q
  exact jPM_and (jPM_and (D83 e ⟨r, e, rfl, rfl⟩) (Fx83 (fun _ I' L' f => f))) (D83 e rfl)
theorem Pl169 {d : Nat} {a1 : Int32} {I I1 : jI} {L : jL} (hG : gG aGI I) (g1 : gG aGI I1) (hJ : jJ I) (q : RD2 I I) (f : fr [19, 20, 22, 23, 5009, 5010, 5011, 5012, 5013, 5014, 5015] I I1) : jPM d 169 [.inr (31, 0), .inl (.inl a1)] (I1, L) (fun v σ => ((∃ r, d169 a1 I1 = some r ∧ v = some (.inl (.inl r.1)) ∧ σ.1 = r.2) ∧ fr [32] I1 σ.1) ∧ σ.2 = L) := by
  obtain ⟨r, r', -, e, -⟩ := shrink_eq a1 hG (RD_frM hG q f rfl)
  exact jPM_and (jPM_and (D169 e ⟨r', e, rfl, rfl⟩) (Fx169 (fun _ I' L' f => f))) (D169 e rfl)
theorem Pl84 {d : Nat} {a1 : Int32} {a2 : Int32} {I : jI} {L : jL} (hG : gG aGI I) (hJ : jJ I) (q : RD2 I I) : jPM d 84 [.inr (0, 0), .inl (.inl a1), .inl (.inl a2)] (I, L) (fun v σ => ((∃ r, d84 a1 a2 I = some r ∧ v = some (.inl (.inl r.1)) ∧ σ.1 = r.2) ∧ fr [19, 20, 22, 23, 5009, 5010, 5011, 5012, 5013, 5014, 5015] I σ.1) ∧ σ.2 = L) := by
  obtain ⟨r, r', e, -⟩ := price_eq a1 a2 hG q
  exact jPM_and (jPM_and (D84 e ⟨r, e, rfl, rfl⟩) (Fx84 (fun _ I' L' f => f))) (D84 e rfl)
theorem Pl171 {d : Nat} {a1 : Int32} {a2 : Int32} {I I1 : jI} {L : jL} (hG : gG aGI I) (g1 : gG aGI I1) (hJ : jJ I) (q : RD2 I I) (f : fr [19, 20, 22, 23, 5009, 5010, 5011, 5012, 5013, 5014, 5015] I I1) : jPM d 171 [.inr (31, 0), .inl (.inl a1), .inl (.inl a2)] (I1, L) (fun v σ => ((∃ r, d171 a1 a2 I1 = some r ∧ v = some (.inl (.inl r.1)) ∧ σ.1 = r.2) ∧ fr [32] I1 σ.1) ∧ σ.2 = L) := by
  obtain ⟨r, r', -, e, -⟩ := price_eq a1 a2 hG (RD_frM hG q f rfl)
  exact jPM_and (jPM_and (D171 e ⟨r', e, rfl, rfl⟩) (Fx171 (fun _ I' L' f => f))) (D171 e rfl)
theorem Pl85 {d : Nat} {a1 : Int32} {I : jI} {L : jL} (hG : gG aGI I) (hJ : jJ I) (q : RD2 I I) : jPM d 85 [.inr (0, 0), .inl (.inl a1)] (I, L) (fun v σ => ((∃ r, d85 a1 I = some r ∧ v = some (.inl (.inl r.1)) ∧ σ.1 = r.2) ∧ fr [19, 20, 22, 23, 5009, 5010, 5011, 5012, 5013, 5014, 5015] I σ.1) ∧ σ.2 = L) := by
  obtain ⟨r, r', e, -⟩ := card_eq a1 hG q
  exact jPM_and (jPM_and (D85 e ⟨r, e, rfl, rfl⟩) (Fx85 (fun _ I' L' f => f))) (D85 e rfl)
theorem Pl172 {d : Nat} {a1 : Int32} {I I1 : jI} {L : jL} (hG : gG aGI I) (g1 : gG aGI I1) (hJ : jJ I) (q : RD2 I I) (f : fr [19, 20, 22, 23, 5009, 5010, 5011, 5012, 5013, 5014, 5015] I I1) : jPM d 172 [.inr (31, 0), .inl (.inl a1)] (I1, L) (fun v σ => ((∃ r, d172 a1 I1 = some r ∧ v = some (.inl (.inl r.1)) ∧ σ.1 = r.2) ∧ fr [32] I1 σ.1) ∧ σ.2 = L) := by
  obtain ⟨r, r', -, e, -⟩ := card_eq a1 hG (RD_frM hG q f rfl)
  exact jPM_and (jPM_and (D172 e ⟨r', e, rfl, rfl⟩) (Fx172 (fun _ I' L' f => f))) (D172 e rfl)
theorem Pl86 {d : Nat} {a1 : Int32} {I : jI} {L : jL} (hG : gG aGI I) (hJ : jJ I) (q : RD2 I I) : jPM d 86 [.inr (0, 0), .inl (.inl a1)] (I, L) (fun v σ => ((∃ r, d86 a1 I = some r ∧ v = some (.inl (.inl r.1)) ∧ σ.1 = r.2) ∧ fr [18, 19, 20, 21, 22, 23, 5006, 5007, 5008, 5009, 5010, 5011, 5012, 5013, 5014, 5015] I σ.1) ∧ σ.2 = L) := by
  obtain ⟨r, r', e, -⟩ := undo_eq a1 hG hJ q
  exact jPM_and (jPM_and (D86 e ⟨r, e, rfl, rfl⟩) (Fx86 (fun _ I' L' f => f))) (D86 e rfl)
theorem Pl173 {d : Nat} {a1 : Int32} {I I1 : jI} {L : jL} (hG : gG aGI I) (g1 : gG aGI I1) (hJ : jJ I) (q : RD2 I I) (f : fr [18, 19, 20, 21, 22, 23, 5006, 5007, 5008, 5009, 5010, 5011, 5012, 5013, 5014, 5015] I I1) : jPM d 173 [.inr (31, 0), .inl (.inl a1)] (I1, L) (fun v σ => ((∃ r, d173 a1 I1 = some r ∧ v = some (.inl (.inl r.1)) ∧ σ.1 = r.2) ∧ fr [32] I1 σ.1) ∧ σ.2 = L) := by
  obtain ⟨r, r', -, e, -⟩ := undo_eq a1 hG hJ (RD_frM hG q f rfl)
  exact jPM_and (jPM_and (D173 e ⟨r', e, rfl, rfl⟩) (Fx173 (fun _ I' L' f => f))) (D173 e rfl)
theorem Pl87 {d : Nat} {a1 : Int32} {I : jI} {L : jL} (hG : gG aGI I) (hJ : jJ I) (q : RD2 I I) : jPM d 87 [.inr (0, 0), .inl (.inl a1)] (I, L) (fun v σ => ((∃ r, d87 a1 I = some r ∧ v = some (.inl (.inl r.1)) ∧ σ.1 = r.2) ∧ fr [6, 18, 19, 20, 21, 22, 23, 5006, 5007, 5008, 5009, 5010, 5011, 5012, 5013, 5014, 5015] I σ.1) ∧ σ.2 = L) := by
  obtain ⟨r, r', e, -⟩ := keep_eq a1 hG q
  exact jPM_and (jPM_and (D87 e ⟨r, e, rfl, rfl⟩) (Fx87 (fun _ I' L' f => f))) (D87 e rfl)
theorem Pl175 {d : Nat} {a1 : Int32} {I I1 : jI} {L : jL} (hG : gG aGI I) (g1 : gG aGI I1) (hJ : jJ I) (q : RD2 I I) (f : fr [6, 18, 19, 20, 21, 22, 23, 5006, 5007, 5008, 5009, 5010, 5011, 5012, 5013, 5014, 5015] I I1) : jPM d 175 [.inr (31, 0), .inl (.inl a1)] (I1, L) (fun v σ => ((∃ r, d175 a1 I1 = some r ∧ v = some (.inl (.inl r.1)) ∧ σ.1 = r.2) ∧ fr [32] I1 σ.1) ∧ σ.2 = L) := by
  obtain ⟨r, r', -, e, -⟩ := keep_eq a1 hG (RD_frM hG q f rfl)
  exact jPM_and (jPM_and (D175 e ⟨r', e, rfl, rfl⟩) (Fx175 (fun _ I' L' f => f))) (D175 e rfl)
theorem Pl88 {d : Nat} {a1 : Int32} {I : jI} {L : jL} (hG : gG aGI I) (hJ : jJ I) (q : RD2 I I) : jPM d 88 [.inr (0, 0), .inl (.inl a1)] (I, L) (fun v σ => ((∃ r, d88 a1 I = some r ∧ v = some (.inl (.inl r.1)) ∧ σ.1 = r.2) ∧ fr [12, 18, 19, 20, 21, 22, 23, 1013, 5006, 5007, 5008, 5009, 5010, 5011, 5012, 5013, 5014, 5015] I σ.1) ∧ σ.2 = L) := by
  obtain ⟨r, r', e, -⟩ := on_eq a1 hG q
  exact jPM_and (jPM_and (D88 e ⟨r, e, rfl, rfl⟩) (Fx88 (fun _ I' L' f => f))) (D88 e rfl)
theorem Pl176 {d : Nat} {a1 : Int32} {I I1 : jI} {L : jL} (hG : gG aGI I) (g1 : gG aGI I1) (hJ : jJ I) (q : RD2 I I) (f : fr [12, 18, 19, 20, 21, 22, 23, 1013, 5006, 5007, 5008, 5009, 5010, 5011, 5012, 5013, 5014, 5015] I I1) : jPM d 176 [.inr (31, 0), .inl (.inl a1)] (I1, L) (fun v σ => ((∃ r, d176 a1 I1 = some r ∧ v = some (.inl (.inl r.1)) ∧ σ.1 = r.2) ∧ fr [32, 39, 32013] I1 σ.1) ∧ σ.2 = L) := by
  obtain ⟨r, r', -, e, -⟩ := on_eq a1 hG (RD_frM hG q f rfl)
  exact jPM_and (jPM_and (D176 e ⟨r', e, rfl, rfl⟩) (Fx176 (fun _ I' L' f => f))) (D176 e rfl)
theorem Pl105 {d : Nat} {a1 : Int32} {a2 : Int32} {I : jI} {L : jL} (hG : gG aGI I) (hJ : jJ I) (q : RD2 I I) : jPM d 105 [.inr (0, 0), .inl (.inl a1), .inl (.inl a2)] (I, L) (fun v σ => ((∃ r, d105 a1 a2 I = some r ∧ v = some (.inl (.inl r.1)) ∧ σ.1 = r.2) ∧ fr [19, 20, 22, 23, 5009, 5010, 5011, 5012, 5013, 5014, 5015] I σ.1) ∧ σ.2 = L) := by
  obtain ⟨r, r', e, -⟩ := lots_eq a1 a2 hG hJ q
  exact jPM_and (jPM_and (D105 e ⟨r, e, rfl, rfl⟩) (Fx105 (fun _ I' L' f => f))) (D105 e rfl)
theorem Pl207 {d : Nat} {a1 : Int32} {a2 : Int32} {I I1 : jI} {L : jL} (hG : gG aGI I) (g1 : gG aGI I1) (hJ : jJ I) (q : RD2 I I) (f : fr [19, 20, 22, 23, 5009, 5010, 5011, 5012, 5013, 5014, 5015] I I1) : jPM d 207 [.inr (31, 0), .inl (.inl a1), .inl (.inl a2)] (I1, L) (fun v σ => ((∃ r, d207 a1 a2 I1 = some r ∧ v = some (.inl (.inl r.1)) ∧ σ.1 = r.2) ∧ fr [32] I1 σ.1) ∧ σ.2 = L) := by
  obtain ⟨r, r', -, e, -⟩ := lots_eq a1 a2 hG hJ (RD_frM hG q f rfl)
  exact jPM_and (jPM_and (D207 e ⟨r', e, rfl, rfl⟩) (Fx207 (fun _ I' L' f => f))) (D207 e rfl)
theorem Pl77 {d : Nat} {a1 : Int32} {I : jI} {L : jL} (hG : gG aGI I) (hJ : jJ I) (hT : RT I) (q : RD2 I I) : jPM d 77 [.inr (0, 0), .inl (.inl a1)] (I, L) (fun v σ => ((∃ r, d77 a1 I = some r ∧ v = some (.inl (.inl r.1)) ∧ σ.1 = r.2) ∧ fr [6, 12, 17, 18, 19, 20, 21, 22, 23, 1013, 4002, 4003, 4004, 5006, 5007, 5008, 5009, 5010, 5011, 5012, 5013, 5014, 5015] I σ.1) ∧ σ.2 = L) := by
  obtain ⟨r, r', e, -⟩ := house_eq2 a1 hG hG hJ hT rfl rfl q
  exact jPM_and (jPM_and (D77 e ⟨r, e, rfl, rfl⟩) (Fx77 (fun _ I' L' f => f))) (D77 e rfl)
theorem Pl150 {d : Nat} {a1 : Int32} {I I1 : jI} {L : jL} (hG : gG aGI I) (g1 : gG aGI I1) (hJ : jJ I) (hT : RT I) (q : RD2 I I) (f : fr [6, 12, 17, 18, 19, 20, 21, 22, 23, 1013, 4002, 4003, 4004, 5006, 5007, 5008, 5009, 5010, 5011, 5012, 5013, 5014, 5015] I I1) : jPM d 150 [.inr (31, 0), .inl (.inl a1)] (I1, L) (fun v σ => ((∃ r, d150 a1 I1 = some r ∧ v = some (.inl (.inl r.1)) ∧ σ.1 = r.2) ∧ fr [32, 33, 34, 39, 40, 32001, 32002, 32003, 32013, 32015, 32016, 32017, 32018, 32019, 32021] I1 σ.1) ∧ σ.2 = L) := by
  obtain ⟨r, r', -, e, -⟩ := house_eq2 a1 hG g1 hJ hT (fr_arr f (fun _ => rfl) rfl) (fr_arr f (fun _ => rfl) rfl) (RD_frM hG q f rfl)
  exact jPM_and (jPM_and (D150 e ⟨r', e, rfl, rfl⟩) (Fx150 (fun _ I' L' f => f))) (D150 e rfl)
noncomputable def rlC : List aR := [(0, (0, 0), (15, 16))]
noncomputable def rlM : List aR := [(31, (0, 0), (11, 12))]
theorem RL_mid {W : List aR} {I I1 : jI} {L L1 : jL} (hw : rApart W rlM = true) (q : RLo L L) (h : gR W I L I1 L1) : RLo L L1 := by
  refine ⟨?_, ?_⟩
  · rw [(h 31 0 11 (rApart_of hw ⟨(31, (0, 0), (11, 12)), by decide, rfl, by decide, by decide, by decide, by decide⟩)).2]; exact q.1
  · rw [(h 31 0 12 (rApart_of hw ⟨(31, (0, 0), (11, 12)), by decide, rfl, by decide, by decide, by decide, by decide⟩)).2]; exact q.2
theorem RL_end {W : List aR} {I I1 : jI} {L L1 : jL} (hw : rApart W rlC = true) (q : RLo L L1) (h : gR W I L I1 L1) : RLo L1 L1 := by
  refine ⟨?_, ?_⟩
  · rw [q.1, (h 0 0 15 (rApart_of hw ⟨(0, (0, 0), (15, 16)), by decide, rfl, by decide, by decide, by decide, by decide⟩)).2]
  · rw [q.2, (h 0 0 16 (rApart_of hw ⟨(0, (0, 0), (15, 16)), by decide, rfl, by decide, by decide, by decide, by decide⟩)).2]
theorem RL_gR {W : List aR} {I I1 : jI} {L L1 : jL} (h1 : rApart W rlC = true) (h2 : rApart W rlM = true) (q : RLo L L) (h : gR W I L I1 L1) : RLo L1 L1 := RL_end h1 (RL_mid h2 q h) h
theorem RL_is {L L1 L2 : jL} (q : RLo L L) (h1 : L1 = L) (h2 : L2 = L1) : RLo L2 L2 := by subst h1; subst h2; exact q
theorem Pw90 {d : Nat} {a1 : Int32} {I : jI} {L : jL} {K : jK} (hG : gG aGI I) (q : RD2 I I) (hL : RLo L L) (hK : jPM d 90 [.inr (0, 0), .inl (.inl a1)] (I, L) K) : jPM d 90 [.inr (0, 0), .inl (.inl a1)] (I, L) (fun v σ => (∃ r, d90 a1 I L = some r ∧ σ.2 = r.2) ∧ K v σ) := by
  obtain ⟨r, r', e, e', -⟩ := rate_eq2 L L a1 hG q hL
  exact jPM_and (D90 e ⟨r, e, rfl⟩) hK
theorem Pw179 {d : Nat} {a1 : Int32} {I I1 : jI} {L L1 : jL} {K : jK} (hG : gG aGI I) (q : RD2 I I1) (hL : RLo L L1) (hK : jPM d 179 [.inr (31, 0), .inl (.inl a1)] (I1, L1) K) : jPM d 179 [.inr (31, 0), .inl (.inl a1)] (I1, L1) (fun v σ => (∃ r, d179 a1 I1 L1 = some r ∧ σ.2 = r.2) ∧ K v σ) := by
  obtain ⟨r, r', e, e', -⟩ := rate_eq2 L L1 a1 hG q hL
  exact jPM_and (D179 e' ⟨r', e', rfl⟩) hK
theorem Qw90 {a1 : Int32} {I I1 : jI} {L L1 L2 : jL} (hG : gG aGI I) (q : RD2 I I1) (hL : RLo L L1) (q1 : ∃ r, d90 a1 I L = some r ∧ L1 = r.2) (q2 : ∃ r, d179 a1 I1 L1 = some r ∧ L2 = r.2) : RLo L1 L2 := by
  obtain ⟨r, r', e, e', k⟩ := rate_eq2 L L1 a1 hG q hL
  obtain ⟨s, c1, c2⟩ := q1
  obtain ⟨s', b1, b2⟩ := q2
  rw [e] at c1
  rw [e'] at b1
  cases c1
  cases b1
  rw [c2, b2]
  exact k.2
theorem Pw103 {d : Nat} {a1 : Int32} {a2 : Int32} {I : jI} {L : jL} {K : jK} (hG : gG aGI I) (q : RD2 I I) (hL : RLo L L) (hK : jPM d 103 [.inr (0, 0), .inl (.inl a1), .inl (.inl a2)] (I, L) K) : jPM d 103 [.inr (0, 0), .inl (.inl a1), .inl (.inl a2)] (I, L) (fun v σ => (∃ r, d103 a1 a2 I L = some r ∧ σ.2 = r.2) ∧ K v σ) := by
  obtain ⟨r, r', e, e', -⟩ := odds_eq2 L L a1 a2 hG q hL
  exact jPM_and (D103 e ⟨r, e, rfl⟩) hK
theorem Pw205 {d : Nat} {a1 : Int32} {a2 : Int32} {I I1 : jI} {L L1 : jL} {K : jK} (hG : gG aGI I) (q : RD2 I I1) (hL : RLo L L1) (hK : jPM d 205 [.inr (31, 0), .inl (.inl a1), .inl (.inl a2)] (I1, L1) K) : jPM d 205 [.inr (31, 0), .inl (.inl a1), .inl (.inl a2)] (I1, L1) (fun v σ => (∃ r, d205 a1 a2 I1 L1 = some r ∧ σ.2 = r.2) ∧ K v σ) := by
  obtain ⟨r, r', e, e', -⟩ := odds_eq2 L L1 a1 a2 hG q hL
  exact jPM_and (D205 e' ⟨r', e', rfl⟩) hK
theorem Qw103 {a1 : Int32} {a2 : Int32} {I I1 : jI} {L L1 L2 : jL} (hG : gG aGI I) (q : RD2 I I1) (hL : RLo L L1) (q1 : ∃ r, d103 a1 a2 I L = some r ∧ L1 = r.2) (q2 : ∃ r, d205 a1 a2 I1 L1 = some r ∧ L2 = r.2) : RLo L1 L2 := by
  obtain ⟨r, r', e, e', k⟩ := odds_eq2 L L1 a1 a2 hG q hL
  obtain ⟨s, c1, c2⟩ := q1
  obtain ⟨s', b1, b2⟩ := q2
  rw [e] at c1
  rw [e'] at b1
  cases c1
  cases b1
  rw [c2, b2]
  exact k
theorem Pw104 {d : Nat} {a1 : Int32} {I : jI} {L : jL} {K : jK} (hG : gG aGI I) (q : RD2 I I) (hL : RLo L L) (hK : jPM d 104 [.inr (0, 0), .inl (.inl a1)] (I, L) K) : jPM d 104 [.inr (0, 0), .inl (.inl a1)] (I, L) (fun v σ => (∃ r, d104 a1 I L = some r ∧ σ.2 = r.2) ∧ K v σ) := by
  obtain ⟨r, r', e, e', -⟩ := mid_eq2 L L a1 hG q hL
  exact jPM_and (D104 e ⟨r, e, rfl⟩) hK
theorem Pw206 {d : Nat} {a1 : Int32} {I I1 : jI} {L L1 : jL} {K : jK} (hG : gG aGI I) (q : RD2 I I1) (hL : RLo L L1) (hK : jPM d 206 [.inr (31, 0), .inl (.inl a1)] (I1, L1) K) : jPM d 206 [.inr (31, 0), .inl (.inl a1)] (I1, L1) (fun v σ => (∃ r, d206 a1 I1 L1 = some r ∧ σ.2 = r.2) ∧ K v σ) := by
  obtain ⟨r, r', e, e', -⟩ := mid_eq2 L L1 a1 hG q hL
  exact jPM_and (D206 e' ⟨r', e', rfl⟩) hK
theorem Qw104 {a1 : Int32} {I I1 : jI} {L L1 L2 : jL} (hG : gG aGI I) (q : RD2 I I1) (hL : RLo L L1) (q1 : ∃ r, d104 a1 I L = some r ∧ L1 = r.2) (q2 : ∃ r, d206 a1 I1 L1 = some r ∧ L2 = r.2) : RLo L1 L2 := by
  obtain ⟨r, r', e, e', k⟩ := mid_eq2 L L1 a1 hG q hL
  obtain ⟨s, c1, c2⟩ := q1
  obtain ⟨s', b1, b2⟩ := q2
  rw [e] at c1
  rw [e'] at b1
  cases c1
  cases b1
  rw [c2, b2]
  exact k
theorem Pv107 {d : Nat} {I : jI} {L : jL} {K : jK} (hK : jPM d 107 [.inr (0, 0)] (I, L) K) : jPM d 107 [.inr (0, 0)] (I, L) (fun v σ => v = some (.inl (.inr (L 0 0 15))) ∧ K v σ) := jPM_and (D107 rfl rfl) hK
theorem Pv209 {d : Nat} {I : jI} {L : jL} {K : jK} (hK : jPM d 209 [.inr (31, 0)] (I, L) K) : jPM d 209 [.inr (31, 0)] (I, L) (fun v σ => v = some (.inl (.inr (L 31 0 11))) ∧ K v σ) := jPM_and (D209 rfl rfl) hK
theorem Qv107 {x1 x2 : Int64} {L L1 : jL} (h : RLo L L1) (q1 : (some (.inl (.inr x1)) : Option jV) = some (.inl (.inr (L 0 0 15)))) (q2 : (some (.inl (.inr x2)) : Option jV) = some (.inl (.inr (L1 31 0 11)))) : lg_cmp x1 x2 = 0 := by
  cases q1
  cases q2
  rw [h.1, cmp_lg]
  exact cmpI_0.mpr rfl
theorem Pv108 {d : Nat} {I : jI} {L : jL} {K : jK} (hK : jPM d 108 [.inr (0, 0)] (I, L) K) : jPM d 108 [.inr (0, 0)] (I, L) (fun v σ => v = some (.inl (.inr (L 0 0 16))) ∧ K v σ) := jPM_and (D108 rfl rfl) hK
theorem Pv210 {d : Nat} {I : jI} {L : jL} {K : jK} (hK : jPM d 210 [.inr (31, 0)] (I, L) K) : jPM d 210 [.inr (31, 0)] (I, L) (fun v σ => v = some (.inl (.inr (L 31 0 12))) ∧ K v σ) := jPM_and (D210 rfl rfl) hK
theorem Qv108 {x1 x2 : Int64} {L L1 : jL} (h : RLo L L1) (q1 : (some (.inl (.inr x1)) : Option jV) = some (.inl (.inr (L 0 0 16)))) (q2 : (some (.inl (.inr x2)) : Option jV) = some (.inl (.inr (L1 31 0 12)))) : lg_cmp x1 x2 = 0 := by
  cases q1
  cases q2
  rw [h.2, cmp_lg]
  exact cmpI_0.mpr rfl
