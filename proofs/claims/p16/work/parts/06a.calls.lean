/-! the small machine is sound: what its methods come to, the great one's come to -/
noncomputable def jWPM : Nat → jQ
  | 0 => fun _ _ _ _ => False
  | d + 1 => fun m as σ k => match Nat.ble (jlen (jent as)) (jmi m).2.2.1 with
    | true => jWB (jWPM d) k none (jco m) (0, jpad (jmi m).2.2.1 (jent as), [], σ)
    | false => False
noncomputable def jwd (m : Nat) : List Cond := Cond.code (jmi m).1 (jmi m).2.1 (jmi m).2.2.1 (jmi m).2.2.2.1 :: jtb
noncomputable def jroom (d : Nat) : Room := { frames := d, cells := 0, slots := 0, locals := 60 * d }
noncomputable def jU (dC : Nat → ClassId) (dI : Nat → Nat → Nat) (cy : Nat → ClassId) (ρ : Nat → Nat → Nat) (σ : jS) (sz : Nat) (U : State) : Prop :=
  U.heap.size = sz ∧ va_P (dC, dI) vwCl (jws cy ρ σ) U.heap ∧ va_K (dC, dI) vwCl (jtys cy) U ∧ va_D (fun _ => True) (jws cy ρ σ) ∧ (∀ w ∈ jnl, va_Nw w U) ∧ va_Z "LargerPacket" "LETTERS" "[I" (.ref (ρ 900 0)) (va_A (jws cy ρ σ) sz) U U.heap ∧ va_T .int (ρ 900 0) 6 (fun j => .int (jletters j)) (va_A (jws cy ρ σ) sz) U U.heap
noncomputable def jB (dC : Nat → ClassId) (dI : Nat → Nat → Nat) (cy : Nat → ClassId) (ρ : Nat → Nat → Nat) (A : Nat → Prop) (u : jS) (t : State) : Prop := va_P (dC, dI) vwCl (jws cy ρ u) t.heap ∧ va_D A (jws cy ρ u)
noncomputable def jQc (rz : Nat) (dC : Nat → ClassId) (dI : Nat → Nat → Nat) (cy : Nat → ClassId) (ρ : Nat → Nat → Nat) (A : Nat → Prop) (kk : jK) : Array Value → State → Outcome → State → Prop := match rz with
  | 0 => va_Qi (fun r (u : jS) => kk (some (.inl (.inl r))) u) (jB dC dI cy ρ A) A
  | 1 => va_Qi (fun r (u : jS) => kk (some (.inl (.inl r))) u) (jB dC dI cy ρ A) A
  | 2 => va_Ql (fun r (u : jS) => kk (some (.inl (.inr r))) u) (jB dC dI cy ρ A) A
  | _ => va_Qv (fun (u : jS) => kk none u) (jB dC dI cy ρ A) A
/-- every method, at depth d, keeps what the small machine says of it -/
noncomputable def jMet (l : Launch) (d : Nat) : Prop := ∀ m, m < 218 → ∀ (dC : Nat → ClassId) (dI : Nat → Nat → Nat) (cy : Nat → ClassId) (ρ : Nat → Nat → Nat) (σ : jS) (as : List jV) (kk : jK) (sz : Nat), (∀ v ∈ as, jok v) → jWPM d m as σ kk →
  Met l (jmi m).1 (jwd m) (jroom d) (va_Pc (as.map (jcv ρ)) (jU dC dI cy ρ σ sz)) (jQc (jmi m).2.2.2.2.1 dC dI cy ρ (va_A (jws cy ρ σ) sz) kk) 0 0 (va_A (jws cy ρ σ) sz)
theorem jblind (as : List Value) (dC : Nat → ClassId) (dI : Nat → Nat → Nat) (cy : Nat → ClassId) (ρ : Nat → Nat → Nat) (σ : jS) (sz : Nat) : FrameBlind (va_Pc as (jU dC dI cy ρ σ sz)) := by
  intro a U g mk q
  obtain ⟨q0, q1, q2, q3, q4, q5, q6, q7⟩ := q
  refine ⟨q0, q1, q2, va_K.moved (u := U) (U := U.calling g mk a) (Vm.Alike.refl U.vm) q3, q4, fun w hw => ?_, va_Z.moved (u := U) (U := U.calling g mk a) (Vm.Alike.refl U.vm) q6, va_T.moved (u := U) (U := U.calling g mk a) (Vm.Alike.refl U.vm) q7⟩
  obtain ⟨_, _, _, _, _, _, rfl⟩ := jnl_fl w hw
  exact va_Nw.same rfl (rfl : U.vm = (U.calling g mk a).vm) (q5 _ hw)
theorem jgoodin (m : Nat) (hm : m < 218) : GoodIn jtb (jwd m) := by
  intro w hw
  have h1 : w ∈ jtb := by
    rcases List.mem_cons.mp hw with h | h
    · rw [h]; exact (jm_ok m hm).1
    · exact h
  exact ⟨h1, good_of_word (jtb_good w h1)⟩
theorem jtake_spec : ∀ (n : Nat) (st acc as t : List jV), jtake n st acc = some (as, t) → ∃ pre : List jV, st = pre ++ t ∧ pre.length = n ∧ as = pre.reverse ++ acc
  | 0, st, acc, as, t, h => by
    cases h
    exact ⟨[], rfl, rfl, rfl⟩
  | n + 1, [], _, _, _, h => by cases h
  | n + 1, v :: st, acc, as, t, h => by
    obtain ⟨pre, h1, h2, h3⟩ := jtake_spec n st (v :: acc) as t h
    exact ⟨v :: pre, by rw [h1]; rfl, by simp [h2], by rw [h3]; simp⟩
theorem jcat_sum (ρ : Nat → Nat → Nat) : ∀ t : List jV, ((t.map (jcv ρ)).map fun v => v.category).sum = jcat t
  | [] => rfl
  | v :: t => by
    have := jcat_sum ρ t
    simp only [List.map_cons, List.sum_cons, jcat, jcv_cat] at this ⊢
    omega
noncomputable def jres (ρ : Nat → Nat → Nat) (v : Option jV) : List Value := match v with
  | none => []
  | some x => [jcv ρ x]
section JC
variable {p : Program} {l : Launch} {e : Env} {R : Room} {s : State} {m : MethodId} {args : Array Value} {below : List Frame} {meth : Method} {c : Code} {H : Heap} {locs : List Loc} {cells slots : Nat} {Q : State → Prop}
variable {cc : ByteArray} {pc : Nat} {ls : Array Slot} {dC : Nat → ClassId} {dI : Nat → Nat → Nat} {cy : Nat → ClassId} {ρ : Nat → Nat → Nat} {A : Nat → Prop} {on nL d : Nat} {scr : Option (Nat × (Nat → Int32))} {σ : jS}
theorem jr_free (CX : jCx p s m args c dC dI cy ρ A on cc nL scr) (hw : jWd dC dI cy ρ A s.heap H locs σ) : ∀ q, va_A (jws cy ρ σ) H.size q → A q := by
  intro q h
  rcases h with ⟨k, x, h⟩ | h
  · exact hw.2.1.2 k (q, x) h
  · exact CX.2.2.2.2.2.2.1 q (Nat.le_trans hw.2.2.1 h)
theorem jr_pre (CX : jCx p s m args c dC dI cy ρ A on cc nL scr) (hw : jWd dC dI cy ρ A s.heap H locs σ) (U : State) (hU : U.heap = H) (hW : s.WarmedH U.vm) : jU dC dI cy ρ σ H.size U := by
  have hF := jr_free CX hw
  obtain ⟨hx, hb, hml, hown, hts, hK, hA, hN, hZ, hT, hX⟩ := CX
  obtain ⟨hP, hD, hS⟩ := hw
  refine ⟨by rw [hU], by rw [hU]; exact hP, va_K.moved hW.alike hK, hD.weaken (fun _ _ _ _ => trivial), fun w h => ?_, ?_, ?_⟩
  · obtain ⟨_, _, _, _, _, _, rfl⟩ := jnl_fl w h
    exact va_Nw.warmF hW (hN _ h)
  · rw [hU]; exact ((hZ.kept (H1 := H) (fun a h1 h2 => hS.2.1 a h1 h2)).narrow hF).moved hW.alike
  · rw [hU]; exact ((hT.kept (H1 := H) (fun a h1 h2 => hS.2.1 a h1 h2)).narrow hF).moved hW.alike
/-- behind a call, by the kind of its answer -/
theorem jr_behind (CX : jCx p s m args c dC dI cy ρ A on cc nL scr) (hw : jWd dC dI cy ρ A s.heap H locs σ) {rz : Nat} {kk : jK} {rest st0 : List Value} {a : Array Value}
    (hr : va_Run p l e R s m args below meth c H locs cells slots 0 0 (F0 m pc ls st0) rest (jQc rz dC dI cy ρ (va_A (jws cy ρ σ) H.size) kk a) (va_A (jws cy ρ σ) H.size))
    (cont : ∀ (v : Option jV) (σ' : jS) (H1 : Heap) (locs1 : List Loc), kk v σ' → (∀ x, v = some x → jok x) → jWd dC dI cy ρ A s.heap H1 locs1 σ' → W p l e R s m args below meth c H1 locs1 cells slots Q (F0 m (pc + 3) ls (jres ρ v ++ rest))) : W p l e R s m args below meth c H locs cells slots Q (F0 m pc ls st0) := by
  have hF := jr_free CX hw
  obtain ⟨hP, hD, hS⟩ := hw
  have hB : ∀ (u : jS) (t : State) (H1 : Heap) (locs1 : List Loc), t.heap = H1 → jB dC dI cy ρ (va_A (jws cy ρ σ) H.size) u t → va_S A s.heap H1 locs1 → jWd dC dI cy ρ A s.heap H1 locs1 u := fun u t H1 locs1 ht hB hS => ⟨by rw [← ht]; exact hB.1, hB.2.weaken (fun _ _ _ h => hF _ h), hS⟩
  rcases rz with _ | _ | _ | rz
  · exact va_calli (a := a) hr hS (fun q _ h => hF q h) hF (fun r u t H1 locs1 ht hvm hk hb _ _ hS => cont (some (.inl (.inl r))) u H1 locs1 hk (fun x hx => by cases hx; trivial) (hB u t H1 locs1 ht hb hS))
  · exact va_calli (a := a) hr hS (fun q _ h => hF q h) hF (fun r u t H1 locs1 ht hvm hk hb _ _ hS => cont (some (.inl (.inl r))) u H1 locs1 hk (fun x hx => by cases hx; trivial) (hB u t H1 locs1 ht hb hS))
  · exact va_calll (a := a) hr hS (fun q _ h => hF q h) hF (fun r u t H1 locs1 ht hvm hk hb _ _ hS => cont (some (.inl (.inr r))) u H1 locs1 hk (fun x hx => by cases hx; trivial) (hB u t H1 locs1 ht hb hS))
  · exact va_callv (a := a) hr hS (fun q _ h => hF q h) hF (fun u t H1 locs1 ht hvm hk hb _ _ hS => cont none u H1 locs1 hk (fun x hx => by cases hx) (hB u t H1 locs1 ht hb hS))
theorem jr_callV (CX : jCx p s m args c dC dI cy ρ A on cc nL scr) (hw : jWd dC dI cy ρ A s.heap H locs σ) (IH : jMet l d) (hR : d + 1 ≤ R.frames ∧ 60 * (d + 1) ≤ R.locals ∧ cells ≤ R.cells ∧ slots ≤ R.slots) {idx mm na ci g n : Nat} {fs : List jF} (hl : (on, idx, mm, na, ci) ∈ jvl) (hn : n < (jSh g).1) (hsh : (jSh g).2 = .inl (ci, fs)) {as rest : List jV} {kk : jK} (has : ∀ v ∈ as, jok v) (hlen : as.length + 1 = na) (hcall : jWPM d mm (.inr (g, n) :: as) σ kk) (hcat : jcat rest ≤ 8) (hls : ls.size = nL) (hdg : decode cc pc = .ok (.invokevirtual idx, 3))
    (cont : ∀ (v : Option jV) (σ' : jS) (H1 : Heap) (locs1 : List Loc), kk v σ' → (∀ x, v = some x → jok x) → jWd dC dI cy ρ A s.heap H1 locs1 σ' → W p l e R s m args below meth c H1 locs1 cells slots Q (F0 m (pc + 3) ls (jres ρ v ++ rest.map (jcv ρ)))) : W p l e R s m args below meth c H locs cells slots Q (F0 m pc ls ((as.map (jcv ρ)).reverse ++ .ref (ρ g n) :: rest.map (jcv ρ))) := by
  refine jr_behind CX hw ?_ cont (a := (Value.ref (ρ g n) :: as.map (jcv ρ)).toArray) (rz := (jmi mm).2.2.2.2.1)
  have hpre := jr_pre CX hw
  obtain ⟨hx, hb, hml, hown, hts, hK, hA, hN, hZ, hT, hX⟩ := CX
  obtain ⟨hP, hD, hS⟩ := hw
  obtain ⟨hmm, w1, w2, w3, hna, T, N, hc⟩ := jvl_ok _ hl
  obtain ⟨m1, m2, m3, m4, m5, m6, m7⟩ := jm_ok mm hmm
  obtain ⟨q0, -, hq⟩ := jws_get cy ρ σ hn
  have he : (jws cy ρ σ)[q0]? = some (ρ g n, .inr (ci, jfs ρ σ g n 0 fs)) := by rw [hq]; simp only [jce, hsh]
  have hG := jgoodin mm hmm
  have hGV : GoodIn jtb (wsV (jown on) idx (jmi mm).1.cls (jmi mm).1 (jwd mm)) := by
    intro w hw
    unfold wsV at hw
    rcases List.mem_append.mp hw with h | h
    · have : w ∈ jtb := by
        simp only [List.mem_cons, List.not_mem_nil, or_false] at h
        rcases h with rfl | rfl | rfl | rfl
        · exact w1
        · exact w2
        · exact w3
        · exact m4
      exact ⟨this, good_of_word (jtb_good w this)⟩
    · exact hG w h
  exact va_runV (As := as.map (jcv ρ)) (rest := rest.map (jcv ρ)) (b := ρ g n) (C := (jmi mm).1.cls) ⟨hx, hb, hml, hown, hts⟩ (IH mm hmm dC dI cy ρ σ (.inr (g, n) :: as) kk H.size (fun v hv => (List.mem_cons.mp hv).elim (fun h => by rw [h]; exact Or.inl hn) (has v)) hcall) (cwV (jmi mm).2.2.2.2.2.2 hts hGV rfl rfl rfl ⟨rfl, m5⟩ ⟨hR.1, by show 8 + ((jmi mm).2.2.1 + 11) + 60 * d ≤ R.locals; omega⟩)
    ⟨jblind _ _ _ _ _ _ _, va_recv hK hP hc he, fun U hU hW => ⟨rfl, hpre U hU hW⟩⟩ rfl (by rw [List.length_map]; simp only at hna; omega) hls rfl (lv_room (by rw [jcat_sum]; exact hcat)) hdg ⟨hR.2.2.1, hR.2.2.2⟩
theorem jr_callS (CX : jCx p s m args c dC dI cy ρ A on cc nL scr) (hw : jWd dC dI cy ρ A s.heap H locs σ) (IH : jMet l d) (hR : d + 1 ≤ R.frames ∧ 60 * (d + 1) ≤ R.locals ∧ cells ≤ R.cells ∧ slots ≤ R.slots) {idx mm na : Nat} (hl : (on, idx, mm, na) ∈ jsl) {as rest : List jV} {kk : jK} (has : ∀ v ∈ as, jok v) (hlen : as.length = na) (hcall : jWPM d mm as σ kk) (hcat : jcat rest ≤ 8) (hls : ls.size = nL) (hdg : decode cc pc = .ok (.invokestatic idx, 3))
    (cont : ∀ (v : Option jV) (σ' : jS) (H1 : Heap) (locs1 : List Loc), kk v σ' → (∀ x, v = some x → jok x) → jWd dC dI cy ρ A s.heap H1 locs1 σ' → W p l e R s m args below meth c H1 locs1 cells slots Q (F0 m (pc + 3) ls (jres ρ v ++ rest.map (jcv ρ)))) : W p l e R s m args below meth c H locs cells slots Q (F0 m pc ls ((as.map (jcv ρ)).reverse ++ rest.map (jcv ρ))) := by
  refine jr_behind CX hw ?_ cont (a := (as.map (jcv ρ)).toArray) (rz := (jmi mm).2.2.2.2.1)
  have hpre := jr_pre CX hw
  obtain ⟨hx, hb, hml, hown, hts, hK, hA, hN, hZ, hT, hX⟩ := CX
  obtain ⟨hP, hD, hS⟩ := hw
  obtain ⟨hmm, w1, w2, hna⟩ := jsl_ok _ hl
  obtain ⟨m1, m2, m3, m4, m5, m6, m7⟩ := jm_ok mm hmm
  have hG := jgoodin mm hmm
  have hGS : GoodIn jtb (va_wsS (jown on) idx (jmi mm).1 (jwd mm)) := by
    intro w hw
    unfold va_wsS at hw
    rcases List.mem_append.mp hw with h | h
    · have : w ∈ jtb := by
        simp only [List.mem_cons, List.not_mem_nil, or_false] at h
        rcases h with rfl | rfl | rfl
        · exact w1
        · exact w2
        · exact m4
      exact ⟨this, good_of_word (jtb_good w this)⟩
    · exact hG w h
  exact va_runS (As := as.map (jcv ρ)) (rest := rest.map (jcv ρ)) ⟨hx, hb, hml, hown, hts⟩ (IH mm hmm dC dI cy ρ σ as kk H.size has hcall) (va_cwS (jmi mm).2.2.2.2.2.2 hts hGS rfl rfl rfl m5 ⟨hR.1, by show 8 + ((jmi mm).2.2.1 + 11) + 60 * d ≤ R.locals; omega⟩)
    ⟨jblind _ _ _ _ _ _ _, fun U hU hW => ⟨rfl, hpre U hU hW⟩⟩ rfl (by rw [List.length_map]; simp only at hna; omega) hls rfl (lv_room (by rw [jcat_sum]; exact hcat)) hdg ⟨hR.2.2.1, hR.2.2.2⟩
end JC
