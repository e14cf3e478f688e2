theorem jat_mem : ∀ {code : List jN} {pc : Nat} {q : Instr × Nat × jr}, jat code pc = some q → (pc, q) ∈ code
  | [], _, _, h => by cases h
  | e :: t, pc, q, h => by
    unfold jat at h
    split at h
    · rename_i he
      have he := Nat.eq_of_beq_eq_true he
      cases h
      rw [← he]
      exact List.mem_cons_self
    · exact List.mem_cons_of_mem _ (jat_mem h)
theorem jpad_len : ∀ (n : Nat) (l : List (Option jV)), jlen (jpad n l) = n
  | 0, _ => by simp [jpad, jlen]
  | n + 1, [] => by show _ + 1 = _ + 1; rw [jpad_len n []]
  | n + 1, _ :: t => by show _ + 1 = _ + 1; rw [jpad_len n t]
theorem jpad_get : ∀ (n : Nat) (l : List (Option jV)) (i : Nat) (v : jV), jget (jpad n l) i = some v → jget l i = some v
  | 0, _, _, _, h => by simp [jpad, jget] at h
  | n + 1, [], 0, _, h => by simp [jpad, jget] at h
  | n + 1, [], i + 1, v, h => by
    have h1 : jget (jpad n []) i = some v := h
    have := jpad_get n [] i v h1
    simp [jget] at this
  | n + 1, a :: t, 0, _, h => h
  | n + 1, a :: t, i + 1, v, h => jpad_get n t i v h
theorem jent_args (ρ : Nat → Nat → Nat) : ∀ (as : List jV) (b i : Nat) (v : jV), jget (jent as) i = some v → v ∈ as ∧ (b + i, jcv ρ v) ∈ lv_args b (as.map (jcv ρ))
  | [], _, _, _, h => by simp [jent, jget] at h
  | .inl (.inl x) :: t, b, 0, v, h => by
    have h1 : some (Sum.inl (Sum.inl x)) = some v := h
    cases h1
    exact ⟨List.mem_cons_self, List.mem_cons_self⟩
  | .inl (.inl x) :: t, b, i + 1, v, h => by
    obtain ⟨h1, h2⟩ := jent_args ρ t (b + 1) i v h
    refine ⟨List.mem_cons_of_mem _ h1, List.mem_cons_of_mem _ ?_⟩
    rw [show b + (i + 1) = b + 1 + i by omega]
    exact h2
  | .inr x :: t, b, 0, v, h => by
    have h1 : some (Sum.inr x) = some v := h
    cases h1
    exact ⟨List.mem_cons_self, List.mem_cons_self⟩
  | .inr x :: t, b, i + 1, v, h => by
    obtain ⟨h1, h2⟩ := jent_args ρ t (b + 1) i v h
    refine ⟨List.mem_cons_of_mem _ h1, List.mem_cons_of_mem _ ?_⟩
    rw [show b + (i + 1) = b + 1 + i by omega]
    exact h2
  | .inl (.inr x) :: t, b, 0, v, h => by
    have h1 : some (Sum.inl (Sum.inr x)) = some v := h
    cases h1
    exact ⟨List.mem_cons_self, List.mem_cons_self⟩
  | .inl (.inr x) :: t, b, 1, v, h => by simp [jent, jget] at h
  | .inl (.inr x) :: t, b, i + 2, v, h => by
    obtain ⟨h1, h2⟩ := jent_args ρ t (b + 2) i v h
    refine ⟨List.mem_cons_of_mem _ h1, List.mem_cons_of_mem _ ?_⟩
    rw [show b + (i + 2) = b + 2 + i by omega]
    exact h2
theorem jent_len (ρ : Nat → Nat → Nat) : ∀ as : List jV, (lg_sl (as.map (jcv ρ))).length = jlen (jent as)
  | [] => rfl
  | .inl (.inl x) :: t => by
    have := jent_len ρ t
    simp only [List.map_cons, jent, jlen, jcv, lg_sl] at this ⊢
    simp [Value.category] at this ⊢
    omega
  | .inr x :: t => by
    have := jent_len ρ t
    simp only [List.map_cons, jent, jlen, jcv, lg_sl] at this ⊢
    simp [Value.category] at this ⊢
    omega
  | .inl (.inr x) :: t => by
    have := jent_len ρ t
    simp only [List.map_cons, jent, jlen, jcv, lg_sl] at this ⊢
    simp [Value.category] at this ⊢
    omega
section JF
variable {p : Program} {l : Launch} {e : Env} {R : Room} {s : State} {m : MethodId} {args : Array Value} {below : List Frame} {meth : Method} {c : Code} {cells slots : Nat} {Q : State → Prop}
variable {cc : ByteArray} {dC : Nat → ClassId} {dI : Nat → Nat → Nat} {cy : Nat → ClassId} {ρ : Nat → Nat → Nat} {A : Nat → Prop} {on nL d rz : Nat} {scr : Option (Nat × (Nat → Int32))} {k : jK}
theorem jsound (CX : jCx p s m args c dC dI cy ρ A on cc nL scr) (hR : d + 1 ≤ R.frames ∧ 60 * (d + 1) ≤ R.locals ∧ cells ≤ R.cells ∧ slots ≤ R.slots) (IH : jMet l d) (hret : jRet p l e R s m args below meth c cells slots Q dC dI cy ρ A cc rz k) {code : List jN} (hc : code.all (jchk on rz cc) = true) {x : jX} (h : jWB (jWPM d) k scr code x) : jW p l e R s m args below meth c cells slots Q dC dI cy ρ A nL x := by
  refine h _ (fun y K hy hK => ?_)
  obtain ⟨pc, jl, st, I, L⟩ := y
  unfold jst at hy
  dsimp only at hy
  split at hy
  · rename_i he
    exact jsound_step CX hR IH hret (List.all_eq_true.mp hc _ (jat_mem he)) hy hK
  · exact hy.elim
theorem jret_of (hx : p.tables.exec = Jvm.exec) (hb : c.code = cc) (hlocks : meth.locks = false) (hr : meth.sig.returnType = (match rz with | 0 => some .int | 1 => some .boolean | 2 => some .long | _ => none)) : jRet p l e R s m args below meth c 0 0 (MQ below (jQc rz dC dI cy ρ A k) args s 0 0 A) dC dI cy ρ A cc rz k := by
  intro H locs ls pc σ hw
  obtain ⟨hP, hD, hS⟩ := hw
  refine ⟨fun x hx1 hd hk => ?_, fun x hx1 hd hk => ?_, fun hx1 hd hk => ?_⟩
  · rcases hx1 with rfl | ⟨rfl, hx1⟩
    · exact W.iret (v := x) hx hb hr (fun t ht hW => ⟨⟨x, σ, rfl, hk, by rw [ht]; exact hP, hD⟩, hS.F ht⟩) hS.2.2 hd hlocks
    · exact W.zret (v := x) hx hb hr (jnar1 hx1).1 (fun t ht hW => ⟨⟨x, σ, rfl, hk, by rw [ht]; exact hP, hD⟩, hS.F ht⟩) hS.2.2 hd hlocks
  · subst hx1
    exact W.lret (v := x) hx hb hr (fun t ht hW => ⟨⟨x, σ, rfl, hk, by rw [ht]; exact hP, hD⟩, hS.F ht⟩) hS.2.2 hd hlocks
  · subst hx1
    exact W.vret hx hb hr (fun t ht hW => ⟨⟨σ, rfl, hk, by rw [ht]; exact hP, hD⟩, hS.F ht⟩) hS.2.2 hd hlocks
end JF
theorem jmet_all (l : Launch) : ∀ d, jMet l d
  | 0 => fun _ _ _ _ _ _ _ _ _ _ _ h => False.elim h
  | d + 1 => by
    intro m hm dC dI cy ρ σ as kk sz has hcall
    obtain ⟨m1, m2, m3, m4, m5, m6, m7⟩ := jm_ok m hm
    refine Met.ofW (cc := (jmi m).2.1) (maxL := (jmi m).2.2.1) (ret := (jmi m).2.2.2.1) m2 rfl ?_
    intro p e s mm args below meth c s₁ B hml hv
    obtain ⟨rfl, hsz, hP, hK, hD0, hN, hZ, hT⟩ := hv
    have hx := B.exec
    have hb := B.bytes
    have hr := B.returns
    have hts0 := atoms_spec (ws := jwd m) B.pre
    have hown : s.vm.findClass (jmi m).1.cls = some mm.cls := findClass_of_methodNamed B.named
    rw [m3] at hown
    have hlocks := B.notSynchronized
    subst hsz
    have hD := hD0.self (sz := s.heap.size)
    have CX : jCx p s mm (as.map (jcv ρ)).toArray c dC dI cy ρ (va_A (jws cy ρ σ) s.heap.size) (jmi m).2.2.2.2.2.1 (jmi m).2.1 (jmi m).2.2.1 none := ⟨hx, hb, hml, hown, fun w h => hts0 w (List.mem_cons_of_mem _ h), hK, fun q h => Or.inr h, hN, hZ, hT, fun q h => by cases h⟩
    unfold jWPM at hcall
    split at hcall
    · rename_i hble
      have hble := Nat.le_of_ble_eq_true hble
      have hl := lv_entry (as.map (jcv ρ)) (n := (jmi m).2.2.1) (by rw [jent_len]; exact hble)
      rw [lg_entry_eq]
      generalize (lg_sl (as.map (jcv ρ)) ++ List.replicate ((jmi m).2.2.1 - (lg_sl (as.map (jcv ρ))).length) Slot.unset).toArray = ls at hl ⊢
      have hge : ∀ i v, jget (jpad (jmi m).2.2.1 (jent as)) i = some v → v ∈ as ∧ (0 + i, jcv ρ v) ∈ lv_args 0 (as.map (jcv ρ)) := fun i v h => jent_args ρ as 0 i v (jpad_get _ _ _ _ h)
      exact jsound (R := jroom (d + 1)) CX ⟨Nat.le_refl _, Nat.le_refl _, Nat.le_refl _, Nat.le_refl _⟩ (jmet_all l d) (jret_of hx hb hlocks (by rw [hr]; exact m7)) (jco_ok m hm) hcall s.heap [] ls
        ⟨jpad_len _ _, hl.1, hl.2.1, fun i v h => by have := hl.2.2 _ (hge i v h).2; rw [Nat.zero_add] at this; exact this⟩ (fun i v h => has v (hge i v h).1) (fun v h => by cases h) ⟨hP, hD, va_S.rf⟩
    · exact hcall.elim
