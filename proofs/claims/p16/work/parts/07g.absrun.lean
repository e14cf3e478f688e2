/-! the interval run as a whole -/
noncomputable def aAs : List aA → List jV → Prop
  | [], [] => True
  | a :: s, x :: t => (match x with
    | .inl (.inl x) => a.1 = 0 ∧ a.2.2.1 ≤ x.toInt ∧ x.toInt ≤ a.2.2.2
    | .inl (.inr x) => a.1 = 1 ∧ a.2.2.1 ≤ x.toInt ∧ x.toInt ≤ a.2.2.2
    | .inr q => a.1 = 2 ∧ a.2.1 = q.1 ∧ a.2.2.1 ≤ q.2 ∧ (q.2 : Int) ≤ a.2.2.2) ∧ aAs s t
  | _, _ => False
noncomputable def aRv (r : Nat × (Int × Int)) (v : Option jV) : Prop := match r.1 with
  | 0 => v = none
  | 1 => ∃ x : Int32, v = some (.inl (.inl x)) ∧ r.2.1 ≤ x.toInt ∧ x.toInt ≤ r.2.2
  | _ => ∃ x : Int64, v = some (.inl (.inr x)) ∧ r.2.1 ≤ x.toInt ∧ x.toInt ≤ r.2.2
/-- a contract holds -/
noncomputable def aKP (gi : List aG) (m : Nat) (c : aK) : Prop := ∀ d, c.2.2.2 ≤ d → ∀ (as : List jV) (I : Nat → Nat → Nat → Int32) (L : Nat → Nat → Nat → Int64), aAs c.1 as → gG gi I → ∀ k : jK, (∀ v I' L', gG gi I' → gR c.2.2.1 I L I' L' → aRv c.2.1 v → k v (I', L')) → jWPM d m as (I, L) k
theorem gR_rf {W : List aR} {I : Nat → Nat → Nat → Int32} {L : Nat → Nat → Nat → Int64} : gR W I L I L := fun _ _ _ _ => ⟨rfl, rfl⟩
theorem aWs_in {V W : List aR} (h : aWs V W = true) {g i j : Nat} (hv : gI V g i j) : gI W g i j := by
  obtain ⟨r, hr, h1, h2, h3, h4, h5⟩ := hv
  have := List.all_eq_true.mp h r hr
  rw [← h1]
  exact aww_ok ⟨h2, h3⟩ ⟨h4, h5⟩ W this
theorem gR_tr {V W : List aR} {I0 I I' : Nat → Nat → Nat → Int32} {L0 L L' : Nat → Nat → Nat → Int64} (h : gR W I0 L0 I L) (h' : gR V I L I' L') (hw : aWs V W = true) : gR W I0 L0 I' L' := fun g i j hn => by
  have h1 := h g i j hn
  have h2 := h' g i j (fun q => hn (aWs_in hw q))
  exact ⟨h2.1.trans h1.1, h2.2.trans h1.2⟩
theorem aarg_ok {v : Nat → Int} {E : aE} (hE : gE v E) : ∀ {a : List aA} {s : List aV} {x : List jV}, aarg E a s = true → gS v (alen E) s x → aAs a x
  | [], [], [], _, _ => trivial
  | [], [], x :: t, _, h => False.elim h
  | [], s :: ss, _, h, _ => by cases h
  | a :: as, [], _, h, _ => by cases h
  | a :: as, s :: ss, [], _, h => False.elim h
  | a :: as, s :: ss, x :: t, h, hS => by
    unfold aarg at h
    rw [Bool.and_eq_true] at h
    refine ⟨?_, aarg_ok hE h.2 hS.2⟩
    have h1 := h.1
    have h2 := hS.1
    rcases s with ((s | s) | s) | ⟨g, s⟩
    · obtain ⟨z, rfl, -, hz⟩ := gV_i h2
      simp only [Bool.and_eq_true] at h1
      obtain ⟨h3, h4⟩ := h1
      split at h4
      · rename_i q hq
        have := aiv_ok hE hq
        exact ⟨Nat.eq_of_beq_eq_true h3, ain_ok h4 (by omega)⟩
      · cases h4
    · obtain ⟨z, rfl, hz⟩ := gV_q h2
      simp only [Bool.and_eq_true] at h1
      refine ⟨Nat.eq_of_beq_eq_true h1.1, ain_ok h1.2 ?_⟩
      rw [hz]
      unfold cmpI
      split
      · decide
      · split <;> decide
    · obtain ⟨z, rfl, -, hz⟩ := gV_l h2
      simp only [Bool.and_eq_true] at h1
      obtain ⟨h3, h4⟩ := h1
      split at h4
      · rename_i q hq
        have := aiv_ok hE hq
        exact ⟨Nat.eq_of_beq_eq_true h3, ain_ok h4 (by omega)⟩
      · cases h4
    · obtain ⟨z, rfl, -, hz⟩ := gV_r h2
      simp only [Bool.and_eq_true] at h1
      obtain ⟨h3, h4, h5⟩ := h1
      split at h5
      · rename_i q hq
        have := aiv_ok hE hq
        exact ⟨Nat.eq_of_beq_eq_true h3, Nat.eq_of_beq_eq_true h4, ain_ok h5 (by omega)⟩
      · cases h5
theorem afnd_ok {E : aE} {W : List aR} {q n : Nat} {as : List aV} : ∀ {l : List aK} {c : aK}, afnd E W q n as l = some c → c ∈ l ∧ aarg E c.1 as = true ∧ aWs c.2.2.1 W = true ∧ c.2.2.2 + n ≤ q
  | [], _, h => by cases h
  | e :: t, c, h => by
    unfold afnd at h
    split at h
    · rename_i hc
      cases h
      exact ⟨List.mem_cons_self, hc⟩
    · obtain ⟨h1, h2⟩ := afnd_ok h
      exact ⟨List.mem_cons_of_mem _ h1, h2⟩
theorem atake_ok {v : Nat → Int} {n : Nat} : ∀ {k : Nat} {st acc as t : List aV} {jt jacc : List jV}, atake k st acc = some (as, t) → gS v n st jt → gS v n acc jacc → ∃ jas jt', jtake k jt jacc = some (jas, jt') ∧ gS v n as jas ∧ gS v n t jt'
  | 0, st, acc, as, t, jt, jacc, h, h1, h2 => by
    cases h
    exact ⟨jacc, jt, rfl, h2, h1⟩
  | k + 1, [], _, _, _, _, _, h, _, _ => by cases h
  | k + 1, s :: st, acc, as, t, jt, jacc, h, h1, h2 => by
    obtain ⟨x, jt1, rfl, h3, h4⟩ := gS_c h1
    exact atake_ok (k := k) (st := st) (acc := s :: acc) h h4 (jacc := x :: jacc) ⟨h3, h2⟩
theorem aent_ok {v : Nat → Int} {n : Nat} : ∀ {as : List aV} {jas : List jV}, gS v n as jas → gL v n (aent as) (jent jas)
  | [], [], _ => trivial
  | [], x :: t, h => False.elim h
  | a :: s, [], h => False.elim h
  | .inl (.inl a) :: s, x :: t, h => by
    obtain ⟨z, rfl⟩ := gV_ii h.1
    exact ⟨fun w hw => by cases hw; exact ⟨_, rfl, h.1⟩, aent_ok h.2⟩
  | .inl (.inr a) :: s, x :: t, h => by
    obtain ⟨z, rfl, -, -⟩ := gV_l h.1
    exact ⟨fun w hw => by cases hw; exact ⟨_, rfl, h.1⟩, fun w hw => (by cases hw), aent_ok h.2⟩
  | .inr (g, a) :: s, x :: t, h => by
    obtain ⟨z, rfl, -, -⟩ := gV_r h.1
    exact ⟨fun w hw => by cases hw; exact ⟨_, rfl, h.1⟩, aent_ok h.2⟩
theorem apad_ok {v : Nat → Int} {n : Nat} : ∀ (k : Nat) {a : List (Option aV)} {x : List (Option jV)}, gL v n a x → gL v n (apad k a) (jpad k x)
  | 0, _, _, _ => trivial
  | k + 1, [], [], h => ⟨fun w hw => (by cases hw), apad_ok k (a := []) (x := []) trivial⟩
  | k + 1, [], x :: t, h => False.elim h
  | k + 1, a :: s, [], h => False.elim h
  | k + 1, a :: s, x :: t, h => ⟨h.1, apad_ok k h.2⟩
noncomputable abbrev jFr : Type := Nat × Nat × List (Option jV) × List jV
noncomputable def gF (v : Nat → Int) (n : Nat) : List aFr → List jFr → Prop
  | [], [] => True
  | a :: s, x :: t => (a.1 = x.1 ∧ a.2.1 = x.2.1 ∧ gL v n a.2.2.1 x.2.2.1 ∧ gS v n a.2.2.2 x.2.2.2) ∧ gF v n s t
  | _, _ => False
theorem gF_x {v v' : Nat → Int} {n n' : Nat} (hx : gX n v v') (hn : n ≤ n') : ∀ {a : List aFr} {x : List jFr}, gF v n a x → gF v' n' a x
  | [], [], _ => trivial
  | [], x :: t, h => False.elim h
  | a :: s, [], h => False.elim h
  | a :: s, x :: t, h => ⟨⟨h.1.1, h.1.2.1, gL_x hx hn h.1.2.2.1, gS_x hx hn h.1.2.2.2⟩, gF_x hx hn h.2⟩
theorem gF_len {v : Nat → Int} {n : Nat} : ∀ {a : List aFr} {x : List jFr}, gF v n a x → x.length = a.length
  | [], [], _ => rfl
  | [], x :: t, h => False.elim h
  | a :: s, [], h => False.elim h
  | a :: s, x :: t, h => by simp [gF_len h.2]
noncomputable def kont (d : Nat) (k0 : jK) : List jFr → jK
  | [] => k0
  | f :: t => fun v σ => jWB (jWPM (d + 1)) (kont (d + 1) k0 t) none (jco f.1) (f.2.1, f.2.2.1, jopt v f.2.2.2, σ)
/-- locals by places -/
theorem gL_of {v : Nat → Int} {n : Nat} : ∀ {a : List (Option aV)} {x : List (Option jV)}, jlen x = asz a → (∀ k w, aget a k = some w → ∃ y, jget x k = some y ∧ gV v n w y) → gL v n a x
  | [], [], _, _ => trivial
  | [], x :: t, h, _ => by simp [jlen, asz] at h
  | a :: s, [], h, _ => by simp [jlen, asz] at h
  | a :: s, x :: t, h, hh => ⟨fun w hw => hh 0 w hw, gL_of (by simp [jlen, asz] at h; exact h) (fun k w hw => hh (k + 1) w hw)⟩
theorem aput_sz : ∀ (l : List (Option aV)) (j : Nat) (v : Option aV), asz (aput l j v) = asz l
  | [], _, _ => rfl
  | _ :: _, 0, _ => rfl
  | _ :: t, j + 1, v => by show _ + 1 = _ + 1; rw [aput_sz t j v]
theorem aput_get : ∀ (l : List (Option aV)) (j : Nat) (v : Option aV) (i : Nat), aget (aput l j v) i = if i = j ∧ j < asz l then v else aget l i
  | [], _, _, _ => by simp [aput, aget, asz]
  | _ :: _, 0, _, 0 => by simp [aput, aget, asz]
  | _ :: _, 0, _, i + 1 => by simp [aput, aget]
  | _ :: _, j + 1, _, 0 => by simp [aput, aget]
  | _ :: t, j + 1, v, i + 1 => by
    show aget (aput t j v) i = _
    rw [aput_get t j v i]
    simp [asz, aget]
theorem aget_lt : ∀ {l : List (Option aV)} {i : Nat} {w : aV}, aget l i = some w → i < asz l
  | [], _, _, h => by cases h
  | _ :: t, 0, _, _ => by simp [asz]
  | _ :: t, i + 1, w, h => by have := aget_lt (l := t) (i := i) h; simp [asz]; omega
noncomputable def aBd (ls : List (Option aV)) (jl : List (Option jV)) (a : Nat × (Int × Int)) : Prop := (∀ x, aget ls a.1 = some (.inl (.inl (.inl x))) → ∃ z : Int32, jget jl a.1 = some (.inl (.inl z)) ∧ a.2.1 ≤ z.toInt ∧ z.toInt ≤ a.2.2) ∧ (∀ x, aget ls a.1 = some (.inl (.inr x)) → ∃ z : Int64, jget jl a.1 = some (.inl (.inr z)) ∧ a.2.1 ≤ z.toInt ∧ z.toInt ≤ a.2.2)
theorem agl_ok {v : Nat → Int} {E : aE} {ls : List (Option aV)} {jl : List (Option jV)} (hE : gE v E) : ∀ (an : List (Nat × (Int × Int))) (S : List Nat) {E' : aE} {ls' : List (Option aV)}, agl E ls an = some (E', ls') → (∀ a ∈ an, aBd ls jl a) → (∀ k w, k ∉ S → (∀ a ∈ an, a.1 ≠ k) → aget ls k = some w → ∃ y, jget jl k = some y ∧ gV v (alen E) w y) →
    ∃ v', gX (alen E) v v' ∧ gE v' E' ∧ alen E ≤ alen E' ∧ asz ls' = asz ls ∧ ∀ k w, k ∉ S → aget ls' k = some w → ∃ y, jget jl k = some y ∧ gV v' (alen E') w y
  | [], S, E', ls', h, _, hk => by
    cases h
    exact ⟨v, gX.rf, hE, Nat.le_refl _, rfl, fun k w hS hw => hk k w hS (fun a ha => by cases ha) hw⟩
  | a :: r, S, E', ls', h, hB, hk => by
    unfold agl at h
    split at h
    · rename_i E1 ls1 h1
      obtain ⟨v1, g1, g2, g3, g4, g5⟩ := agl_ok hE r (a.1 :: S) h1 (fun b hb => hB b (List.mem_cons_of_mem _ hb)) (fun k w hS hr hw => hk k w (fun q => hS (List.mem_cons_of_mem _ q)) (fun b hb => (List.mem_cons.mp hb).elim (fun e => by rw [e]; exact fun e2 => hS (by rw [e2]; exact List.mem_cons_self)) (hr b)) hw)
      have hBa := hB a List.mem_cons_self
      split at h
      · rename_i x x1 hx hx1
        split at h
        · split at h
          · cases h
            obtain ⟨z, hz, hb⟩ := hBa.1 x hx
            have hxx : gX (alen E1) v1 (vup v1 (alen E1) z.toInt) := vup_x
            refine ⟨vup v1 (alen E1) z.toInt, g1.tr hxx g3, gE_new g2 hb, by rw [alen_app]; omega, by rw [aput_sz]; exact g4, fun k w hS hw => ?_⟩
            rw [aput_get] at hw
            split at hw
            · rename_i hc
              cases hw
              rw [hc.1]
              exact ⟨_, hz, by rw [alen_app]; simp only; omega, vup_n.symm⟩
            · rename_i hc
              have hne : k ≠ a.1 := fun e => hc ⟨e, by rw [← e]; exact aget_lt hw⟩
              obtain ⟨y, h2, h3⟩ := g5 k w (fun q => (List.mem_cons.mp q).elim (fun e => hne e) hS) hw
              exact ⟨y, h2, gV_x hxx (by rw [alen_app]; omega) h3⟩
          · cases h
        · cases h
      · rename_i x x1 hx hx1
        split at h
        · split at h
          · cases h
            obtain ⟨z, hz, hb⟩ := hBa.2 x hx
            have hxx : gX (alen E1) v1 (vup v1 (alen E1) z.toInt) := vup_x
            refine ⟨vup v1 (alen E1) z.toInt, g1.tr hxx g3, gE_new g2 hb, by rw [alen_app]; omega, by rw [aput_sz]; exact g4, fun k w hS hw => ?_⟩
            rw [aput_get] at hw
            split at hw
            · rename_i hc
              cases hw
              rw [hc.1]
              exact ⟨_, hz, by rw [alen_app]; simp only; omega, vup_n.symm⟩
            · rename_i hc
              have hne : k ≠ a.1 := fun e => hc ⟨e, by rw [← e]; exact aget_lt hw⟩
              obtain ⟨y, h2, h3⟩ := g5 k w (fun q => (List.mem_cons.mp q).elim (fun e => hne e) hS) hw
              exact ⟨y, h2, gV_x hxx (by rw [alen_app]; omega) h3⟩
          · cases h
        · cases h
      · cases h
    · cases h
theorem agl_oth {E : aE} {ls : List (Option aV)} : ∀ (an : List (Nat × (Int × Int))) {E' : aE} {ls' : List (Option aV)}, agl E ls an = some (E', ls') → asz ls' = asz ls ∧ (∀ k, (∀ a ∈ an, a.1 ≠ k) → aget ls' k = aget ls k) ∧ ∀ k, ((∃ x, aget ls k = some (.inl (.inl (.inl x)))) → ∃ x, aget ls' k = some (.inl (.inl (.inl x)))) ∧ ((∃ x, aget ls k = some (.inl (.inr x))) → ∃ x, aget ls' k = some (.inl (.inr x)))
  | [], E', ls', h => by
    cases h
    exact ⟨rfl, fun _ _ => rfl, fun _ => ⟨fun q => q, fun q => q⟩⟩
  | a :: r, E', ls', h => by
    unfold agl at h
    split at h
    · rename_i E1 ls1 h1
      obtain ⟨g1, g2, g3⟩ := agl_oth r h1
      split at h
      · rename_i x x1 hx hx1
        split at h
        · split at h
          · cases h
            refine ⟨by rw [aput_sz]; exact g1, fun k hk => ?_, fun k => ?_⟩
            · rw [aput_get, if_neg (fun q => hk a List.mem_cons_self q.1.symm)]
              exact g2 k (fun b hb => hk b (List.mem_cons_of_mem _ hb))
            · rw [aput_get]
              split
              · rename_i hc
                rw [hc.1]
                exact ⟨fun _ => ⟨_, rfl⟩, fun ⟨y, hy⟩ => by rw [hx] at hy; cases hy⟩
              · exact g3 k
          · cases h
        · cases h
      · rename_i x x1 hx hx1
        split at h
        · split at h
          · cases h
            refine ⟨by rw [aput_sz]; exact g1, fun k hk => ?_, fun k => ?_⟩
            · rw [aput_get, if_neg (fun q => hk a List.mem_cons_self q.1.symm)]
              exact g2 k (fun b hb => hk b (List.mem_cons_of_mem _ hb))
            · rw [aput_get]
              split
              · rename_i hc
                rw [hc.1]
                exact ⟨fun ⟨y, hy⟩ => (by rw [hx] at hy; cases hy), fun _ => ⟨_, rfl⟩⟩
              · exact g3 k
          · cases h
        · cases h
      · cases h
    · cases h
/-- the bounds at the first coming to a loop's head -/
theorem agl_bd {v : Nat → Int} {E : aE} {ls : List (Option aV)} {jl : List (Option jV)} (hE : gE v E) (hL : gL v (alen E) ls jl) : ∀ (an : List (Nat × (Int × Int))) {E' : aE} {ls' : List (Option aV)}, agl E ls an = some (E', ls') → ∀ a ∈ an, aBd ls jl a
  | [], _, _, _, a, ha => by cases ha
  | b :: r, E', ls', h, a, ha => by
    unfold agl at h
    split at h
    · rename_i E1 ls1 h1
      rcases List.mem_cons.mp ha with rfl | ha
      · split at h
        · rename_i x x1 hx hx1
          split at h
          · rename_i q hq
            split at h
            · rename_i hi
              have h2 := aiv_ok hE hq
              refine ⟨fun y hy => ?_, fun y hy => by rw [hx] at hy; cases hy⟩
              obtain ⟨z, hz, hv⟩ := gL_get hL hx
              obtain ⟨z, rfl, -, hz2⟩ := gV_i hv
              exact ⟨z, hz, ain_ok hi (by omega)⟩
            · cases h
          · cases h
        · rename_i x x1 hx hx1
          split at h
          · rename_i q hq
            split at h
            · rename_i hi
              have h2 := aiv_ok hE hq
              refine ⟨fun y hy => (by rw [hx] at hy; cases hy), fun y hy => ?_⟩
              obtain ⟨z, hz, hv⟩ := gL_get hL hx
              obtain ⟨z, rfl, -, hz2⟩ := gV_l hv
              exact ⟨z, hz, ain_ok hi (by omega)⟩
            · cases h
          · cases h
        · cases h
      · exact agl_bd hE hL r h1 a ha
    · cases h
