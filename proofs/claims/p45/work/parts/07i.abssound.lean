theorem gE_x {v v' : Nat → Int} {E : aE} (hE : gE v E) (hx : gX (alen E) v v') : gE v' E := ⟨by rw [hx 0 hE.2.1]; exact hE.1, hE.2.1, fun s q hq => by rw [hx s (aat_lt hq)]; exact hE.2.2 s q hq⟩
theorem aat_some : ∀ {E : aE} {s : Nat}, s < alen E → ∃ q, aat E s = some q
  | [], s, h => absurd h (Nat.not_lt_zero _)
  | p :: _, 0, _ => ⟨p, rfl⟩
  | _ :: t, s + 1, h => aat_some (E := t) (s := s) (by simp [alen] at h; omega)
/-- a loop's head, made general, still holds of the state -/
theorem agen_ok {gi : List aG} {W : List aR} {I0 : Nat → Nat → Nat → Int32} {L0 : Nat → Nat → Nat → Int64} {v : Nat → Int} {a : aAn} {E : aE} {ls : List (Option aV)} {st : List aV} {ch : aH} {A' : aS} {μ : aL} {jl : List (Option jV)} {jt : List jV} {I : Nat → Nat → Nat → Int32} {L : Nat → Nat → Nat → Int64} (h : agen gi a (E, ls, st, ch) = some (A', μ)) (hA : gA gi W I0 L0 v (E, ls, st, ch) jl jt I L) : ∃ (v1 : Nat → Int) (E1 : aE) (ls1 : List (Option aV)), gX (alen E) v v1 ∧ gA gi W I0 L0 v1 A' jl jt I L ∧ alen E ≤ alen A'.1 ∧ μ.1 < alen A'.1 ∧ agl E ls a.1 = some (E1, ls1) ∧
    (match a.2.1 with
      | .inl k => A' = (E1, ls1, [], akp a.2.2.2 ch) ∧ aget ls1 k = some (.inl (.inl (.inl μ))) ∧ μ.1 < alen E1
      | .inr (g, i, j) => A' = (E1 ++ [agi g ((i : Int), (i : Int)) ((j : Int), (j : Int)) gi], ls1, [], ((g, (0, (i : Int)), (0, (j : Int))), (alen E1, 0)) :: akp a.2.2.2 ch) ∧ μ = (alen E1, 0)) := by
  obtain ⟨hE, hL, hS, hH, hG, hR⟩ := hA
  dsimp only at hE hL hS hH
  unfold agen at h
  dsimp only at h
  split at h
  · rename_i E1 ls1 hg
    have hjt := gS_n hS
    subst hjt
    obtain ⟨v1, f1, f2, f3, f4, f5⟩ := agl_ok (jl := jl) hE a.1 [] hg (agl_bd hE hL a.1 hg) (fun k w _ _ hw => gL_get hL hw)
    have hL1 : gL v1 (alen E1) ls1 jl := gL_of (by rw [gL_len hL, f4]) (fun k w hw => f5 k w List.not_mem_nil hw)
    revert h
    cases han : a.2.1 with
    | inl k =>
      intro h
      dsimp only at h
      split at h
      · rename_i x hx hany
        cases h
        obtain ⟨y, hy, hv⟩ := gL_get hL1 hx
        have hlt : μ.1 < alen E1 := (gV_lt hv)
        exact ⟨v1, E1, ls1, f1, ⟨f2, hL1, trivial, fun e he => gH_x f1 f3 hH e (akp_mem he).1, hG, hR⟩, f3, hlt, hg, rfl, hx, hlt⟩
      · cases h
    | inr q =>
      obtain ⟨g, i, j⟩ := q
      intro h
      dsimp only at h
      cases h
      have hb := agi_ok (g := g) (i := i) (j := j) (p := ((i : Int), (i : Int))) (q := ((j : Int), (j : Int))) (I := I) (by simp) (by simp) gi hG
      have hxx : gX (alen E1) v1 (vup v1 (alen E1) (I g i j).toInt) := vup_x
      refine ⟨vup v1 (alen E1) (I g i j).toInt, E1, ls1, f1.tr hxx f3, ⟨gE_new f2 hb, ?_, trivial, ?_, hG, hR⟩, ?_, ?_, hg, rfl, rfl⟩
      · show gL _ (alen (E1 ++ [_])) ls1 jl
        exact gL_x hxx (by rw [alen_app]; omega) hL1
      · show gH _ (alen (E1 ++ [_])) _ I
        intro e he
        rcases List.mem_cons.mp he with rfl | he
        rotate_left
        · exact gH_x (f1.tr hxx f3) (by rw [alen_app]; omega) hH e (akp_mem he).1
        have hv0 : vup v1 (alen E1) (I g i j).toInt 0 = 0 := (gE_new f2 hb).1
        refine ⟨⟨?_, ?_, ?_⟩, fun i' j' hi' hj' => ?_⟩
        · rw [alen_app]; simp only; omega
        · rw [alen_app]; simp only; omega
        · rw [alen_app]; simp only; omega
        · unfold vv at hi' hj'
          dsimp only at hi' hj' ⊢
          rw [hv0] at hi' hj'
          have e1 : i' = i := by omega
          have e2 : j' = j := by omega
          rw [e1, e2]
          exact vup_n.symm
      · show _ ≤ alen (E1 ++ [_]); rw [alen_app]; omega
      · show _ < alen (E1 ++ [_]); rw [alen_app]; show alen E1 < _; omega
  · cases h
noncomputable def mms (up : Bool) (lo hi z : Int) : Int := match up with
  | true => hi - z
  | false => z - lo
theorem aRv1 {r : Nat × (Int × Int)} {x : Int32} (h : r.1 = 1) (hx : r.2.1 ≤ x.toInt ∧ x.toInt ≤ r.2.2) : aRv r (some (.inl (.inl x))) := by
  unfold aRv; rw [h]; exact ⟨x, rfl, hx⟩
theorem aRv2 {r : Nat × (Int × Int)} {x : Int64} (h : r.1 = 2) (hx : r.2.1 ≤ x.toInt ∧ x.toInt ≤ r.2.2) : aRv r (some (.inl (.inr x))) := by
  unfold aRv; rw [h]; exact ⟨x, rfl, hx⟩
theorem ares_ok {res : Nat × (Int × Int)} {z : Nat} {v : Nat → Int} {E : aE} {a : aL} {x : Int} (hE : gE v E) (hx : x = vv v a) (h : ares res z E a = true) : res.1 = z ∧ res.2.1 ≤ x ∧ x ≤ res.2.2 := by
  unfold ares at h
  rw [Bool.and_eq_true] at h
  obtain ⟨h1, h2⟩ := h
  split at h2
  · rename_i q hq
    have := aiv_ok hE hq
    exact ⟨Nat.eq_of_beq_eq_true h1, ain_ok h2 (by omega)⟩
  · cases h2
theorem gF_n {v : Nat → Int} {n : Nat} {x : List jFr} (h : gF v n [] x) : x = [] := by
  cases x with
  | nil => rfl
  | cons a t => exact False.elim h
theorem gF_c {v : Nat → Int} {n : Nat} {a : aFr} {s : List aFr} {x : List jFr} (h : gF v n (a :: s) x) : ∃ f t, x = f :: t ∧ (a.1 = f.1 ∧ a.2.1 = f.2.1 ∧ gL v n a.2.2.1 f.2.2.1 ∧ gS v n a.2.2.2 f.2.2.2) ∧ gF v n s t := by
  cases x with
  | nil => exact False.elim h
  | cons f t => exact ⟨f, t, rfl, h.1, h.2⟩
theorem afl_ok {fr : List aFr} {ac : List aAc} {e : aAc} (h : e ∈ afl fr ac) : e ∈ ac ∧ e.2.2.1.length ≤ fr.length := by
  obtain ⟨h1, h2⟩ := List.mem_filter.mp h
  exact ⟨h1, Nat.le_of_ble_eq_true h2⟩
set_option maxHeartbeats 4000000 in
set_option maxRecDepth 100000 in
theorem arun_sound {gi : List aG} {W : List aR} {ct : Nat → List aK} {ann : Nat → Nat → Option aAn} {il : Nat → Bool} {res : Nat × (Int × Int)} {q : Nat} {I0 : Nat → Nat → Nat → Int32} {L0 : Nat → Nat → Nat → Int64} {k0 : jK} (hct : ∀ m c, c ∈ ct m → aKP gi m c) (hk0 : ∀ v I' L', gG gi I' → gR W I0 L0 I' L' → aRv res v → k0 v (I', L')) : ∀ (n : Nat) (b : Bool) (fr : List aFr) (m pc : Nat) (A : aS) (ac : List aAc), arun gi W ct ann il res q n b fr m pc A ac = true → ∀ (d : Nat) (cf : List jFr) (v : Nat → Int) (jl : List (Option jV)) (jt : List jV) (I : Nat → Nat → Nat → Int32) (L : Nat → Nat → Nat → Int64), q ≤ d + fr.length → gF v (alen A.1) fr cf → gA gi W I0 L0 v A jl jt I L → (∀ e ∈ ac, aHy gi W I0 L0 k0 d cf v (alen A.1) e) → jWB (jWPM d) (kont d k0 cf) none (jco m) (pc, jl, jt, I, L)
  | 0, _, _, _, _, _, _, h => by cases h
  | n + 1, false, fr, m, pc, (E, ls, st, ch), ac, h => by
    intro d cf v jl jt I L hq hF hA hac
    unfold arun at h
    split at h
    · rename_i e he
      obtain ⟨e1, e2, e3, e4⟩ := aact_ok he
      have := aback_ok (hac e e1) e4 (gF_len hF) h hA
      rw [e2, e3] at this
      exact this
    · split at h
      · rename_i a ha
        split at h
        · rename_i A' μ hg
          obtain ⟨v1, E1, ls1, f1, f2, f3, f4, f5, f6⟩ := agen_ok hg hA
          obtain ⟨⟨lo, hi⟩, hμ⟩ := aat_some f4
          have hiv : aiv A'.1 μ = some (lo + μ.2, hi + μ.2) := by unfold aiv; rw [hμ]
          have claim : ∀ (N : Nat) (v' : Nat → Int) (jl' : List (Option jV)) (jt' : List jV) (I' : Nat → Nat → Nat → Int32) (L' : Nat → Nat → Nat → Int64), gX (alen E) v v' → gA gi W I0 L0 v' A' jl' jt' I' L' → mms a.2.2.1 (lo + μ.2) (hi + μ.2) (vv v' μ) ≤ (N : Int) → jWB (jWPM d) (kont d k0 cf) none (jco m) (pc, jl', jt', I', L') := by
            intro N
            induction N with
            | zero =>
              intro v' jl' jt' I' L' x1 x2 x3
              refine arun_sound hct hk0 n true fr m pc A' _ h d cf v' jl' jt' I' L' hq (gF_x x1 f3 hF) x2 (fun e he => ?_)
              rcases List.mem_cons.mp he with rfl | he
              · refine ⟨v', E, ls, ch, E1, ls1, by dsimp only; rw [gF_len hF]; exact Nat.le_refl _, gX.rf, Nat.le_refl _, gE_x hA.1 x1, f3, f5, ⟨fun k w hw => by obtain ⟨y, hy, hv⟩ := gL_get hA.2.1 hw; exact gV_lt hv, fun q hq => (hA.2.2.2.1 q hq).1⟩, f6, ?_⟩
                intro v'' jl'' jt'' I'' L'' y1 y2 y3
                exfalso
                have b1 := aiv_ok x2.1 hiv
                have b2 := aiv_ok y2.1 hiv
                dsimp only at y3
                revert x3 y3
                cases a.2.2.1 with
                | true => intro x3 y3; have y3 : vv v' μ < vv v'' μ := y3; have x3 : hi + μ.2 - vv v' μ ≤ ((0 : Nat) : Int) := x3; simp only at b1 b2; omega
                | false => intro x3 y3; have y3 : vv v'' μ < vv v' μ := y3; have x3 : vv v' μ - (lo + μ.2) ≤ ((0 : Nat) : Int) := x3; simp only at b1 b2; omega
              · exact aHy_x (hac e he) x1 f3
            | succ N ih =>
              intro v' jl' jt' I' L' x1 x2 x3
              refine arun_sound hct hk0 n true fr m pc A' _ h d cf v' jl' jt' I' L' hq (gF_x x1 f3 hF) x2 (fun e he => ?_)
              rcases List.mem_cons.mp he with rfl | he
              · refine ⟨v', E, ls, ch, E1, ls1, by dsimp only; rw [gF_len hF]; exact Nat.le_refl _, gX.rf, Nat.le_refl _, gE_x hA.1 x1, f3, f5, ⟨fun k w hw => by obtain ⟨y, hy, hv⟩ := gL_get hA.2.1 hw; exact gV_lt hv, fun q hq => (hA.2.2.2.1 q hq).1⟩, f6, ?_⟩
                intro v'' jl'' jt'' I'' L'' y1 y2 y3
                have b1 := aiv_ok x2.1 hiv
                have b2 := aiv_ok y2.1 hiv
                dsimp only at y3 ⊢
                rw [gF_len hF, Nat.sub_self, Nat.add_zero, List.drop_zero]
                refine ih v'' jl'' jt'' I'' L'' (x1.tr y1 (Nat.le_refl _)) y2 ?_
                revert x3 y3
                cases a.2.2.1 with
                | true => intro x3 y3; have y3 : vv v' μ < vv v'' μ := y3; have x3 : hi + μ.2 - vv v' μ ≤ ((N + 1 : Nat) : Int) := x3; show hi + μ.2 - vv v'' μ ≤ _; simp only at b1 b2; omega
                | false => intro x3 y3; have y3 : vv v'' μ < vv v' μ := y3; have x3 : vv v' μ - (lo + μ.2) ≤ ((N + 1 : Nat) : Int) := x3; show vv v'' μ - (lo + μ.2) ≤ _; simp only at b1 b2; omega
              · exact aHy_x (hac e he) x1 f3
          refine claim (mms a.2.2.1 (lo + μ.2) (hi + μ.2) (vv v1 μ)).toNat v1 jl jt I L f1 f2 ?_
          have b1 := aiv_ok f2.1 hiv
          cases a.2.2.1 with
          | true => show hi + μ.2 - vv v1 μ ≤ (((hi + μ.2 - vv v1 μ).toNat : Nat) : Int); simp only at b1; omega
          | false => show vv v1 μ - (lo + μ.2) ≤ (((vv v1 μ - (lo + μ.2)).toNat : Nat) : Int); simp only at b1; omega
        · cases h
      · exact arun_sound hct hk0 n true fr m pc (E, ls, st, ch) ac h d cf v jl jt I L hq hF hA hac
  | n + 1, true, fr, m, pc, (E, ls, st, ch), ac, h => by
    intro d cf v jl jt I L hq hF hA hac
    obtain ⟨hE, hL, hS, hH, hG, hR⟩ := id hA
    refine jWB_step ?_
    show jst _ _ _ _ (pc, jl, jt, I, L) _
    unfold jst
    dsimp only
    unfold arun at h
    split at h
    · cases h
    · rename_i i ln np rA rB rC rL rS hj
      rw [hj]
      dsimp only
      have hgo : ∀ l, astep gi W i np rA rB rC rL rS E ls st ch = some l → l.all (fun y => arun gi W ct ann il res q n false fr m y.1 y.2 ac) = true → jstep (jWPM d) (kont d k0 cf) none i np rA rB rC rL rS jl jt I L (jWB (jWPM d) (kont d k0 cf) none (jco m)) := by
        intro l hl hall
        refine astep_sound hE hL hS hH hG hR hl (fun y hy v' jl' jt' I' L' x1 x2 x3 => ?_)
        exact arun_sound hct hk0 n false fr m y.1 y.2 ac (List.all_eq_true.mp hall y hy) d cf v' jl' jt' I' L' hq (gF_x x1 x2 hF) x3 (fun e he => aHy_x (hac e he) x1 x2)
      -- a call, once its contract is known
      have hcall : ∀ (as t : List aV) (c : aK) (jas jt' : List jV), c ∈ ct rA → aarg E c.1 as = true → aWs c.2.2.1 W = true → c.2.2.2 + fr.length ≤ q → gS v (alen E) as jas → gS v (alen E) t jt' → (match c.2.1.1 with
          | 0 => arun gi W ct ann il res q n false fr m np (E, ls, t, adrop c.2.2.1 ch) ac
          | 1 => arun gi W ct ann il res q n false fr m np (E ++ [c.2.1.2], ls, .inl (.inl (.inl (alen E, 0))) :: t, adrop c.2.2.1 ch) ac
          | _ => arun gi W ct ann il res q n false fr m np (E ++ [c.2.1.2], ls, .inl (.inr (alen E, 0)) :: t, adrop c.2.2.1 ch) ac) = true → jWPM d rA jas (I, L) (fun w σ' => jWB (jWPM d) (kont d k0 cf) none (jco m) (np, jl, jopt w jt', σ')) := by
        intro as t c jas jt' c1 c2 c3 c4 s1 s2 hr
        refine hct rA c c1 d (by omega) jas I L (aarg_ok hE c2 s1) hG _ (fun w I' L' r1 r2 r3 => ?_)
        have hH' := gH_drop hH r2
        have hR' := gR_tr hR r2 c3
        unfold aRv at r3
        split at hr
        · rename_i hz
          rw [hz] at r3
          subst r3
          exact arun_sound hct hk0 n false fr m np _ ac hr d cf v jl jt' I' L' hq hF ⟨hE, hL, s2, hH', r1, hR'⟩ hac
        · rename_i hz
          rw [hz] at r3
          obtain ⟨x, rfl, hx⟩ := r3
          have hxx : gX (alen E) v (vup v (alen E) x.toInt) := vup_x
          have hle : alen E ≤ alen (E ++ [c.2.1.2]) := by rw [alen_app]; omega
          exact arun_sound hct hk0 n false fr m np _ ac hr d cf (vup v (alen E) x.toInt) jl (.inl (.inl x) :: jt') I' L' hq (gF_x hxx hle hF) ⟨gE_new hE hx, gL_x hxx hle hL, ⟨⟨by dsimp only; rw [alen_app]; omega, vup_n.symm⟩, gS_x hxx hle s2⟩, gH_x hxx hle hH', r1, hR'⟩ (fun e he => aHy_x (hac e he) hxx hle)
        · rename_i hz0 hz1
          have r3 : ∃ x : Int64, w = some (.inl (.inr x)) ∧ c.2.1.2.1 ≤ x.toInt ∧ x.toInt ≤ c.2.1.2.2 := by
            split at r3
            · rename_i hz; exact absurd hz hz0
            · rename_i hz; exact absurd hz hz1
            · exact r3
          obtain ⟨x, rfl, hx⟩ := r3
          have hxx : gX (alen E) v (vup v (alen E) x.toInt) := vup_x
          have hle : alen E ≤ alen (E ++ [c.2.1.2]) := by rw [alen_app]; omega
          exact arun_sound hct hk0 n false fr m np _ ac hr d cf (vup v (alen E) x.toInt) jl (.inl (.inr x) :: jt') I' L' hq (gF_x hxx hle hF) ⟨gE_new hE hx, gL_x hxx hle hL, ⟨⟨by dsimp only; rw [alen_app]; omega, vup_n.symm⟩, gS_x hxx hle s2⟩, gH_x hxx hle hH', r1, hR'⟩ (fun e he => aHy_x (hac e he) hxx hle)
      -- a call, its body gone into
      have hinl : ∀ (as t : List aV) (jas jt' : List jV), fr.length + 1 ≤ q → Nat.ble (asz (aent as)) (jmi rA).2.2.1 = true → gS v (alen E) as jas → gS v (alen E) t jt' → arun gi W ct ann il res q n false ((m, np, ls, t) :: fr) rA 0 (E, apad (jmi rA).2.2.1 (aent as), [], ch) ac = true → jWPM d rA jas (I, L) (fun w σ' => jWB (jWPM d) (kont d k0 cf) none (jco m) (np, jl, jopt w jt', σ')) := by
        intro as t jas jt' c1 c2 s1 s2 hr
        obtain ⟨d', rfl⟩ : ∃ d', d = d' + 1 := ⟨d - 1, by omega⟩
        unfold jWPM
        try dsimp only
        have hent := aent_ok s1
        rw [gL_len hent, c2]
        exact arun_sound hct hk0 n false ((m, np, ls, t) :: fr) rA 0 _ ac hr d' ((m, np, jl, jt') :: cf) v _ [] I L (by simp; omega) ⟨⟨rfl, rfl, hL, s2⟩, hF⟩ ⟨hE, apad_ok _ hent, trivial, hH, hG, hR⟩ (fun e he => aHy_in (hac e he))
      split at h
      · -- ireturn
        split at h
        · rename_i a
          rw [Bool.and_eq_true] at h
          obtain ⟨y, jt1, rfl, hy, hS1⟩ := gS_c hS
          have hj1 := gS_n hS1
          subst hj1
          obtain ⟨x, rfl, hx1, hx2⟩ := gV_i hy
          have hkk : kont d k0 cf (some (.inl (.inl x))) (I, L) := by
            have h2 := h.2
            split at h2
            · have hcf := gF_n hF
              subst hcf
              obtain ⟨r1, r2⟩ := ares_ok hE hx2 h2
              exact hk0 _ _ _ hG hR (aRv1 r1 r2)
            · rename_i m' np' ls' st' fr'
              obtain ⟨⟨fm, fp, fl, fs⟩, cf', rfl, ⟨k1, k2, k3, k4⟩, hF'⟩ := gF_c hF
              dsimp only at k1 k2 k3 k4
              subst k1; subst k2
              exact arun_sound hct hk0 n false fr' m' np' _ _ h2 (d + 1) cf' v fl (.inl (.inl x) :: fs) I L (by simp at hq; omega) hF' ⟨hE, k3, ⟨⟨hx1, hx2⟩, k4⟩, hH, hG, hR⟩ (fun e he => aHy_out (hac e (afl_ok he).1) (by rw [gF_len hF']; exact (afl_ok he).2))
          have h1 := h.1
          rcases rA with _ | rA
          · exact hkk
          · exact ⟨abool_ok hE hx2 h1, hkk⟩
        · cases h
      · -- lreturn
        split at h
        · rename_i a
          obtain ⟨y, jt1, rfl, hy, hS1⟩ := gS_c hS
          have hj1 := gS_n hS1
          subst hj1
          obtain ⟨x, rfl, hx1, hx2⟩ := gV_l hy
          have hkk : kont d k0 cf (some (.inl (.inr x))) (I, L) := by
            have h2 := h
            split at h2
            · have hcf := gF_n hF
              subst hcf
              obtain ⟨r1, r2⟩ := ares_ok hE hx2 h2
              exact hk0 _ _ _ hG hR (aRv2 r1 r2)
            · rename_i m' np' ls' st' fr'
              obtain ⟨⟨fm, fp, fl, fs⟩, cf', rfl, ⟨k1, k2, k3, k4⟩, hF'⟩ := gF_c hF
              dsimp only at k1 k2 k3 k4
              subst k1; subst k2
              exact arun_sound hct hk0 n false fr' m' np' _ _ h2 (d + 1) cf' v fl (.inl (.inr x) :: fs) I L (by simp at hq; omega) hF' ⟨hE, k3, ⟨⟨hx1, hx2⟩, k4⟩, hH, hG, hR⟩ (fun e he => aHy_out (hac e (afl_ok he).1) (by rw [gF_len hF']; exact (afl_ok he).2))
          exact hkk
        · cases h
      · -- return
        split at h
        · have hj1 := gS_n hS
          subst hj1
          have hcf := gF_n hF
          subst hcf
          show k0 none (I, L)
          refine hk0 _ _ _ hG hR ?_
          unfold aRv
          rw [Nat.eq_of_beq_eq_true h]
          exact rfl
        · rename_i m' np' ls' st' fr'
          have hj1 := gS_n hS
          subst hj1
          obtain ⟨⟨fm, fp, fl, fs⟩, cf', rfl, ⟨k1, k2, k3, k4⟩, hF'⟩ := gF_c hF
          dsimp only at k1 k2 k3 k4
          subst k1; subst k2
          exact arun_sound hct hk0 n false fr' m' np' _ _ h (d + 1) cf' v fl fs I L (by simp at hq; omega) hF' ⟨hE, k3, k4, hH, hG, hR⟩ (fun e he => aHy_out (hac e (afl_ok he).1) (by rw [gF_len hF']; exact (afl_ok he).2))
        · cases h
      · -- invokevirtual
        split at h
        · rename_i g x as t ht
          obtain ⟨jas, jt', j1, s1, s2⟩ := atake_ok (jacc := []) ht hS trivial
          obtain ⟨y, jas', rfl, hy, s3⟩ := gS_c s1
          obtain ⟨z, rfl, -, -⟩ := gV_r hy
          split at h
          · rename_i b1 b2
            dsimp only [jstep]
            rw [j1]
            dsimp only
            rw [b1, show Nat.ble (jcat jt') 8 = true by rw [← gS_cat s2]; exact b2]
            dsimp only
            split at h
            · rename_i c hc
              obtain ⟨c1, c2, c3, c4⟩ := afnd_ok hc
              exact hcall _ t c _ jt' c1 c2 c3 c4 s1 s2 h
            · split at h
              · rename_i i1 i2 i3
                exact hinl _ t _ jt' (Nat.le_of_ble_eq_true i2) i3 s1 s2 h
              · cases h
          · cases h
        · cases h
      · -- invokestatic
        split at h
        · split at h
          · rename_i l hl
            exact hgo l hl h
          · cases h
        · rename_i h997
          split at h
          · rename_i as t ht
            obtain ⟨jas, jt', j1, s1, s2⟩ := atake_ok (jacc := []) ht hS trivial
            split at h
            · rename_i b2
              have hlt : rA < 997 := by
                rcases Nat.lt_or_ge rA 997 with q9 | q9
                · exact q9
                · rw [Nat.ble_eq_true_of_le q9] at h997; cases h997
              have n1 : Nat.beq rA 999 = false := by
                cases hb : Nat.beq rA 999 with
                | false => rfl
                | true => have := Nat.eq_of_beq_eq_true hb; omega
              have n2 : Nat.beq rA 998 = false := by
                cases hb : Nat.beq rA 998 with
                | false => rfl
                | true => have := Nat.eq_of_beq_eq_true hb; omega
              have n3 : Nat.beq rA 997 = false := by
                cases hb : Nat.beq rA 997 with
                | false => rfl
                | true => have := Nat.eq_of_beq_eq_true hb; omega
              dsimp only [jstep]
              rw [n1]
              dsimp only
              rw [n2]
              dsimp only
              rw [n3]
              dsimp only
              rw [j1]
              dsimp only
              rw [show Nat.ble (jcat jt') 8 = true by rw [← gS_cat s2]; exact b2]
              dsimp only
              split at h
              · rename_i c hc
                obtain ⟨c1, c2, c3, c4⟩ := afnd_ok hc
                exact hcall _ t c _ jt' c1 c2 c3 c4 s1 s2 h
              · split at h
                · rename_i i1 i2 i3
                  exact hinl _ t _ jt' (Nat.le_of_ble_eq_true i2) i3 s1 s2 h
                · cases h
            · cases h
          · cases h
      · split at h
        · rename_i l hl
          exact hgo l hl h
        · cases h
/-- the entry: every argument a symbol of its own -/
noncomputable def ae0 : List aA → aE → aE × List aV
  | [], E => (E, [])
  | a :: t, E => if a.2.2.1 = a.2.2.2 then (match ae0 t E with
    | (E', vs) => (E', (match a.1 with
      | 0 => .inl (.inl (.inl (0, a.2.2.1)))
      | 1 => .inl (.inr (0, a.2.2.1))
      | _ => .inr (a.2.1, (0, a.2.2.1))) :: vs)) else (match ae0 t (E ++ [a.2.2]) with
    | (E', vs) => (E', (match a.1 with
      | 0 => .inl (.inl (.inl (alen E, 0)))
      | 1 => .inl (.inr (alen E, 0))
      | _ => .inr (a.2.1, (alen E, 0))) :: vs))
noncomputable def achk (gi : List aG) (ct : Nat → List aK) (ann : Nat → Nat → Option aAn) (il : Nat → Bool) (n m : Nat) (c : aK) : Bool := match ae0 c.1 [(0, 0)] with
  | (E, vs) => Nat.ble (asz (aent vs)) (jmi m).2.2.1 && (Nat.ble 1 c.2.2.2 && arun gi c.2.2.1 ct ann il c.2.1 (c.2.2.2 - 1) n false [] m 0 (E, apad (jmi m).2.2.1 (aent vs), [], []) [])
theorem ae0_ok : ∀ (as : List aA) (js : List jV) (E : aE) (v : Nat → Int), gE v E → aAs as js → ∃ v', gX (alen E) v v' ∧ gE v' (ae0 as E).1 ∧ alen E ≤ alen (ae0 as E).1 ∧ gS v' (alen (ae0 as E).1) (ae0 as E).2 js
  | [], [], E, v, hE, _ => ⟨v, gX.rf, hE, Nat.le_refl _, trivial⟩
  | [], x :: t, _, _, _, h => False.elim h
  | a :: as, [], _, _, _, h => False.elim h
  | a :: as, x :: t, E, v, hE, h => by
    by_cases heq : a.2.2.1 = a.2.2.2
    · obtain ⟨v', g1, g2, g3, g4⟩ := ae0_ok as t E v hE h.2
      have hc : ∀ z : Int, a.2.2.1 ≤ z ∧ z ≤ a.2.2.2 → z = vv v' (0, a.2.2.1) := fun z hz => by unfold vv; rw [g2.1]; simp only; omega
      have h1 := h.1
      unfold ae0
      rw [if_pos heq]
      refine ⟨v', g1, g2, g3, ?_⟩
      rcases x with (x | x) | x
      · obtain ⟨h2, h3⟩ := h1
        simp only [h2]
        exact ⟨⟨g2.2.1, hc _ h3⟩, g4⟩
      · obtain ⟨h2, h3⟩ := h1
        simp only [h2]
        exact ⟨⟨g2.2.1, hc _ h3⟩, g4⟩
      · obtain ⟨h2, h5, h3⟩ := h1
        simp only [h2]
        exact ⟨⟨g2.2.1, h5.symm, hc _ h3⟩, g4⟩
    have key : ∀ z : Int, a.2.2.1 ≤ z ∧ z ≤ a.2.2.2 → ∃ v', gX (alen E) v v' ∧ gE v' (ae0 as (E ++ [a.2.2])).1 ∧ alen E < alen (ae0 as (E ++ [a.2.2])).1 ∧ vv v' (alen E, 0) = z ∧ gS v' (alen (ae0 as (E ++ [a.2.2])).1) (ae0 as (E ++ [a.2.2])).2 t := by
      intro z hz
      obtain ⟨v', g1, g2, g3, g4⟩ := ae0_ok as t (E ++ [a.2.2]) (vup v (alen E) z) (gE_new hE hz) h.2
      have hx : gX (alen E) v (vup v (alen E) z) := vup_x
      have hl : alen (E ++ [a.2.2]) = alen E + 1 := alen_app _ _
      refine ⟨v', hx.tr g1 (by omega), g2, by omega, ?_, g4⟩
      rw [gX_vv g1 (by simp only; omega)]
      exact vup_n
    have h1 := h.1
    unfold ae0
    rw [if_neg heq]
    rcases x with (x | x) | x
    · obtain ⟨h2, h3⟩ := h1
      obtain ⟨v', g1, g2, g3, g4, g5⟩ := key x.toInt h3
      refine ⟨v', g1, g2, by simp only; omega, ?_⟩
      simp only [h2]
      exact ⟨⟨g3, g4.symm⟩, g5⟩
    · obtain ⟨h2, h3⟩ := h1
      obtain ⟨v', g1, g2, g3, g4, g5⟩ := key x.toInt h3
      refine ⟨v', g1, g2, by simp only; omega, ?_⟩
      simp only [h2]
      exact ⟨⟨g3, g4.symm⟩, g5⟩
    · obtain ⟨h2, h4, h3⟩ := h1
      obtain ⟨v', g1, g2, g3, g4, g5⟩ := key x.2 h3
      refine ⟨v', g1, g2, by simp only; omega, ?_⟩
      simp only [h2]
      exact ⟨⟨g3, h4.symm, g4.symm⟩, g5⟩
/-- a contract that the interval run passes holds -/
theorem achk_ok {gi : List aG} {ct : Nat → List aK} {ann : Nat → Nat → Option aAn} {il : Nat → Bool} {n m : Nat} {c : aK} (hct : ∀ m c, c ∈ ct m → aKP gi m c) (h : achk gi ct ann il n m c = true) : aKP gi m c := by
  intro d hd as I L has hG k hk
  unfold achk at h
  obtain ⟨v, g1, g2, g3, g4⟩ := ae0_ok c.1 as [(0, 0)] (fun _ => 0) ⟨rfl, by decide, fun s q hq => by
    match s, hq with
    | 0, hq => cases hq; simp
    | s + 1, hq => cases hq⟩ has
  generalize he : ae0 c.1 [(0, 0)] = EV at h g2 g3 g4
  obtain ⟨E, vs⟩ := EV
  dsimp only at h g2 g3 g4
  simp only [Bool.and_eq_true] at h
  obtain ⟨h1, h2, h3⟩ := h
  have h2 := Nat.le_of_ble_eq_true h2
  obtain ⟨d', rfl⟩ : ∃ d', d = d' + 1 := ⟨d - 1, by omega⟩
  unfold jWPM
  have hent := aent_ok g4
  rw [gL_len hent, h1]
  exact arun_sound hct hk n false [] m 0 _ [] h3 d' [] v _ [] I L (by simp; omega) trivial ⟨g2, apad_ok _ hent, trivial, fun e he => (by cases he), hG, gR_rf⟩ (fun e he => (by cases he))
