/-! what the program's tables are checked for, and the rows of the small machine's heap in the great one -/
noncomputable def jtab (pc : Nat) (lo : Int) : List Int → List (Int32 × Nat)
  | [] => []
  | o :: t => (Int32.ofInt lo, ((pc : Int) + o).toNat) :: jtab pc (lo + 1) t
noncomputable def jltab (pc : Nat) : List (Int × Int) → List (Int32 × Nat)
  | [] => []
  | q :: t => (Int32.ofInt q.1, ((pc : Int) + q.2).toNat) :: jltab pc t
noncomputable def jchk (on rz : Nat) (cc : ByteArray) (e : jN) : Bool := match e with
  | (pc, i, len, np, rA, rB, rC, rL, rS) => (decide (decode cc pc = .ok (i, len)) && Nat.beq (pc + len) np) && (match i with
  | .iconst z => Nat.beq len 1 && decide (Int32.ofInt z = rC)
  | .bipush z => Nat.beq len 2 && decide ((Int8.ofInt z).toInt32 = rC)
  | .sipush z => Nat.beq len 3 && decide ((Int16.ofInt z).toInt32 = rC)
  | .ldc x => Nat.beq len 2 && decide ((on, x, rC) ∈ jk1)
  | .lconst z => Nat.beq len 1 && decide (Int64.ofNat (z : Nat) = rL)
  | .ldc2_w x => Nat.beq len 3 && decide ((on, x, rL) ∈ jk2)
  | .iload j => Nat.beq len 2 && Nat.beq j rA
  | .lload j => Nat.beq len 2 && Nat.beq j rA
  | .aload j => Nat.beq len 2 && Nat.beq j rA
  | .iload_n j => Nat.beq len 1 && Nat.beq j rA
  | .lload_n j => Nat.beq len 1 && Nat.beq j rA
  | .aload_n j => Nat.beq len 1 && Nat.beq j rA
  | .istore j => Nat.beq len 2 && Nat.beq j rA
  | .lstore j => Nat.beq len 2 && Nat.beq j rA
  | .astore j => Nat.beq len 2 && Nat.beq j rA
  | .istore_n j => Nat.beq len 1 && Nat.beq j rA
  | .lstore_n j => Nat.beq len 1 && Nat.beq j rA
  | .astore_n j => Nat.beq len 1 && Nat.beq j rA
  | .iinc j z => Nat.beq len 3 && (Nat.beq j rA && decide (Int32.ofInt z = rC))
  | .goto o => Nat.beq len 3 && decide ((pc : Int) + o = (rA : Int))
  | .ifCond _ o => Nat.beq len 3 && decide ((pc : Int) + o = (rA : Int))
  | .if_icmp _ o => Nat.beq len 3 && decide ((pc : Int) + o = (rA : Int))
  | .tableswitch d lo hi offs => decide (((pc : Int) + d = (rA : Int)) ∧ (-2147483648 ≤ lo ∧ hi < 2147483648 ∧ lo + offs.toList.length = hi + 1) ∧ rS = jtab pc lo offs.toList ∧ ∀ o ∈ offs.toList, 0 ≤ (pc : Int) + o)
  | .lookupswitch d ps => decide (((pc : Int) + d = (rA : Int)) ∧ (ps.toList.zip (ps.toList.drop 1)).all (fun (a, next) => a.1 < next.1) = true ∧ rS = jltab pc ps.toList ∧ ∀ q ∈ ps.toList, 0 ≤ (pc : Int) + q.2 ∧ -2147483648 ≤ q.1 ∧ q.1 < 2147483648)
  | .getfield x => Nat.beq len 3 && (decide ((on, x, rB, rA, 0) ∈ jfl) || decide ((on, x, rB, rA, 1) ∈ jfl))
  | .putfield x => Nat.beq len 3 && (decide ((on, x, rB, rA, 0) ∈ jfl) || decide ((on, x, rB, rA, 1) ∈ jfl))
  | .getstatic x => Nat.beq len 3 && decide ((on, x) = jgs)
  | .invokevirtual x => Nat.beq len 3 && (match rS with | [q] => decide ((on, x, rA, rB, q.2) ∈ jvl) | _ => false)
  | .invokestatic x => Nat.beq len 3 && (match Nat.beq rA 999 with
    | true => decide ((on, x) ∈ jal)
    | false => (match Nat.beq rA 998 with
      | true => decide ((on, x, 998) ∈ jmt)
      | false => (match Nat.beq rA 997 with
        | true => decide ((on, x, 997) ∈ jmt)
        | false => decide ((on, x, rA, rB) ∈ jsl))))
  | .ireturn => Nat.beq len 1 && Nat.beq rA rz && Nat.ble rz 1
  | .lreturn => Nat.beq len 1 && Nat.beq rz 2
  | .return_ => Nat.beq len 1 && Nat.beq rz 3
  | _ => Nat.beq len 1)
noncomputable def jshchk : Bool := (List.range 42).all (fun g => match (jSh g).2 with
  | .inl (ci, fs) => (match vwCl[ci]? with
    | some (_, T, N) => Nat.beq fs.length N && (List.range N).all (fun k => match fs[k]? with
      | some (.inr 0) => decide ((T k).2.2.1 = "I" ∧ (T k).2.2.2 = false)
      | some (.inr 1) => decide ((T k).2.2.1 = "J" ∧ (T k).2.2.2 = false)
      | some (.inr 2) => decide ((T k).2.2.1 = "Z" ∧ (T k).2.2.2 = false)
      | some (.inl f) => (List.range (jSh g).1).all (fun n => decide ((f n).2 < (jSh (f n).1).1))
      | _ => false)
    | none => false)
  | .inr (t, _, .inr 0) => Nat.beq t 0
  | .inr (t, _, .inr 1) => Nat.beq t 1
  | .inr (t, _, .inr 2) => Nat.beq t 2
  | .inr (t, N, .inl f) => (Nat.beq t 3 || Nat.beq t 4 || Nat.beq t 5) && (List.range (jSh g).1).all (fun n => (List.range N).all (fun j => decide ((f n j).2 < (jSh (f n j).1).1)))
  | _ => false)
theorem jshchk_ok : jshchk = true := by decide +kernel
theorem jsh_lt {g n : Nat} (hn : n < (jSh g).1) : g < 42 := by
  rcases Nat.lt_or_ge g 42 with q | q
  · exact q
  · rw [jSh_big q] at hn; exact absurd hn (Nat.not_lt_zero _)
noncomputable def jfP (T : u_T) (k n : Nat) (f : jF) : Prop := match f with
  | .inr 0 => (T k).2.2.1 = "I" ∧ (T k).2.2.2 = false
  | .inr 1 => (T k).2.2.1 = "J" ∧ (T k).2.2.2 = false
  | .inr 2 => (T k).2.2.1 = "Z" ∧ (T k).2.2.2 = false
  | .inl f => (f n).2 < (jSh (f n).1).1
  | _ => False
theorem jsh_obj {g n ci : Nat} {fs : List jF} (hn : n < (jSh g).1) (h : (jSh g).2 = .inl (ci, fs)) : ∃ (C : String) (T : u_T) (N : Nat), vwCl[ci]? = some (C, T, N) ∧ fs.length = N ∧ ∀ (k : Nat) (f : jF), fs[k]? = some f → k < N ∧ jfP T k n f := by
  have h1 := List.all_eq_true.mp jshchk_ok g (List.mem_range.mpr (jsh_lt hn))
  simp only [h] at h1
  cases hv : vwCl[ci]? with
  | none => simp [hv] at h1
  | some q =>
    obtain ⟨C, T, N⟩ := q
    simp only [hv, Bool.and_eq_true] at h1
    obtain ⟨h2, h3⟩ := h1
    have h2 : fs.length = N := Nat.eq_of_beq_eq_true h2
    refine ⟨C, T, N, rfl, h2, fun k f hf => ?_⟩
    have hk : k < N := by rw [← h2]; exact (List.getElem?_eq_some_iff.mp hf).1
    refine ⟨hk, ?_⟩
    have h4 := List.all_eq_true.mp h3 k (List.mem_range.mpr hk)
    simp only [hf] at h4
    rcases f with f | (_ | _ | _ | z)
    · show (f n).2 < (jSh (f n).1).1
      exact of_decide_eq_true (List.all_eq_true.mp h4 n (List.mem_range.mpr hn))
    · show (T k).2.2.1 = "I" ∧ (T k).2.2.2 = false
      exact of_decide_eq_true h4
    · show (T k).2.2.1 = "J" ∧ (T k).2.2.2 = false
      exact of_decide_eq_true h4
    · show (T k).2.2.1 = "Z" ∧ (T k).2.2.2 = false
      exact of_decide_eq_true h4
    · exact absurd h4 (by simp)
theorem jsh_arr {g n t N z : Nat} (hn : n < (jSh g).1) (h : (jSh g).2 = .inr (t, N, .inr z)) : t = z ∧ z ≤ 2 := by
  have h1 := List.all_eq_true.mp jshchk_ok g (List.mem_range.mpr (jsh_lt hn))
  simp only [h] at h1
  rcases z with (_ | _ | _ | z)
  · exact ⟨Nat.eq_of_beq_eq_true h1, by decide⟩
  · exact ⟨Nat.eq_of_beq_eq_true h1, by decide⟩
  · exact ⟨Nat.eq_of_beq_eq_true h1, by decide⟩
  · exact absurd h1 (by simp)
theorem jsh_ref {g n t N : Nat} {f : Nat → Nat → Nat × Nat} (hn : n < (jSh g).1) (h : (jSh g).2 = .inr (t, N, .inl f)) : (t = 3 ∨ t = 4 ∨ t = 5) ∧ ∀ j, j < N → (f n j).2 < (jSh (f n j).1).1 := by
  have h1 := List.all_eq_true.mp jshchk_ok g (List.mem_range.mpr (jsh_lt hn))
  simp only [h, Bool.and_eq_true, Bool.or_eq_true] at h1
  obtain ⟨h2, h3⟩ := h1
  refine ⟨?_, fun j hj => of_decide_eq_true (List.all_eq_true.mp (List.all_eq_true.mp h3 n (List.mem_range.mpr hn)) j (List.mem_range.mpr hj))⟩
  rcases h2 with (h2 | h2) | h2
  · exact Or.inl (Nat.eq_of_beq_eq_true h2)
  · exact Or.inr (Or.inl (Nat.eq_of_beq_eq_true h2))
  · exact Or.inr (Or.inr (Nat.eq_of_beq_eq_true h2))
noncomputable def jok (v : jV) : Prop := match v with
  | .inr q => q.2 < (jSh q.1).1 ∨ ((q.1 = 900 ∨ q.1 = 901) ∧ q.2 = 0)
  | _ => True
/-- what a method's body stands on -/
noncomputable def jCx (p : Program) (s : State) (m : MethodId) (args : Array Value) (c : Code) (dC : Nat → ClassId) (dI : Nat → Nat → Nat) (cy : Nat → ClassId) (ρ : Nat → Nat → Nat) (A : Nat → Prop) (on : Nat) (cc : ByteArray) (nL : Nat) (scr : Option (Nat × (Nat → Int32))) : Prop :=
  p.tables.exec = Jvm.exec ∧ c.code = cc ∧ c.maxLocals = nL ∧ s.vm.findClass (jown on) = some m.cls ∧ (∀ w ∈ jtb, w.before args s = true) ∧ va_K (dC, dI) vwCl (jtys cy) s ∧ (∀ q, s.heap.size ≤ q → A q) ∧ (∀ w ∈ jnl, va_Nw w s) ∧ va_Z "LargerPacket" "LETTERS" "[I" (.ref (ρ 900 0)) A s s.heap ∧ va_T .int (ρ 900 0) 6 (fun j => .int (jletters j)) A s s.heap ∧ (∀ q, scr = some q → va_T .int (ρ 901 0) q.1 (fun j => .int (q.2 j)) A s s.heap)
noncomputable def jWd (dC : Nat → ClassId) (dI : Nat → Nat → Nat) (cy : Nat → ClassId) (ρ : Nat → Nat → Nat) (A : Nat → Prop) (H0 H : Heap) (locs : List Loc) (σ : jS) : Prop := va_P (dC, dI) vwCl (jws cy ρ σ) H ∧ va_D A (jws cy ρ σ) ∧ va_S A H0 H locs
section JR
variable {p : Program} {l : Launch} {e : Env} {R : Room} {s : State} {m : MethodId} {args : Array Value} {below : List Frame} {meth : Method} {c : Code} {H : Heap} {locs : List Loc} {cells slots : Nat} {Q : State → Prop}
variable {cc : ByteArray} {pc : Nat} {ls : Array Slot} {rest : List Value} {dC : Nat → ClassId} {dI : Nat → Nat → Nat} {cy : Nat → ClassId} {ρ : Nat → Nat → Nat} {A : Nat → Prop} {on nL : Nat} {scr : Option (Nat × (Nat → Int32))} {σ : jS} {g n : Nat}
theorem jr_get (CX : jCx p s m args c dC dI cy ρ A on cc nL scr) (hw : jWd dC dI cy ρ A s.heap H locs σ) (hn : n < (jSh g).1) {ci k idx z : Nat} {fs : List jF} {f : jF} (hsh : (jSh g).2 = .inl (ci, fs)) (hf : fs[k]? = some f) (hl : (on, idx, ci, k, z) ∈ jfl) (hdg : decode cc pc = .ok (.getfield idx, 3))
    (kk : W p l e R s m args below meth c H locs cells slots Q (F0 m (pc + 3) ls (jfv ρ σ g n k f :: rest))) : W p l e R s m args below meth c H locs cells slots Q (F0 m pc ls (.ref (ρ g n) :: rest)) := by
  obtain ⟨hx, hb, hml, hown, hts, hK, hA, hN, hZ, hT, hX⟩ := CX
  obtain ⟨hP, hD, hS⟩ := hw
  obtain ⟨q0, -, hq⟩ := jws_get cy ρ σ hn
  obtain ⟨C, T, N, hc, hk, hTk, hlk⟩ := jfl_ok _ hl
  obtain ⟨hin, ty0, hty, hnm⟩ := jc_ok _ _ _ _ hc
  have he : (jws cy ρ σ)[q0]? = some (ρ g n, .inr (ci, jfs ρ σ g n 0 fs)) := by rw [hq]; simp only [jce, hsh]
  have hv : (jfs ρ σ g n 0 fs)[k]? = some (jfv ρ σ g n k f) := by
    have := jfs_get (ρ := ρ) (σ := σ) (g := g) (n := n) fs 0 k hf
    rw [Nat.zero_add] at this
    exact this
  rcases z with _ | z
  · exact va_get hx hb hts hin hown hK hP q0 he hc k hk (hts _ hlk) (fun x h => by rw [← hTk]; exact h) hv hdg kk
  · exact va_getN hx hb hts hin hown hK hP q0 he hc k hk (va_Nw.use rfl (hN _ hlk)) (fun x h => by rw [← hTk]; exact h) hv hdg kk
theorem jr_put (CX : jCx p s m args c dC dI cy ρ A on cc nL scr) (hw : jWd dC dI cy ρ A s.heap H locs σ) (hn : n < (jSh g).1) {ci k idx z : Nat} {fs : List jF} {f : jF} (hsh : (jSh g).2 = .inl (ci, fs)) (hf : fs[k]? = some f) (hl : (on, idx, ci, k, z) ∈ jfl) (hdg : decode cc pc = .ok (.putfield idx, 3)) {σ' : jS} {v : Value} {ty : FieldType} {d : String}
    (hfd : ∀ T : u_T, jfP T k n f → (T k).2.2.1 = d ∧ (T k).2.2.2 = false) (hd : parseFieldDescriptor d = some ty) (hna : narrow ty v = v) (hfi : fits ty v = true) (hv : jfv ρ σ' g n k f = v) (hne : ∀ a f', a ≠ k → jfv ρ σ' g n a f' = jfv ρ σ g n a f') (hoth : ∀ x, x ≠ (g, n) → jce cy ρ σ' x = jce cy ρ σ x)
    (kk : ∀ (H1 : Heap) (locs1 : List Loc), jWd dC dI cy ρ A s.heap H1 locs1 σ' → W p l e R s m args below meth c H1 locs1 cells slots Q (F0 m (pc + 3) ls rest)) : W p l e R s m args below meth c H locs cells slots Q (F0 m pc ls (v :: .ref (ρ g n) :: rest)) := by
  obtain ⟨hx, hb, hml, hown, hts, hK, hA, hN, hZ, hT, hX⟩ := CX
  obtain ⟨hP, hD, hS⟩ := hw
  obtain ⟨q0, hq0, hq⟩ := jws_get cy ρ σ hn
  obtain ⟨C, T, N, hc, hk, hTk, hlk⟩ := jfl_ok _ hl
  obtain ⟨hin, ty0, hty, hnm⟩ := jc_ok _ _ _ _ hc
  obtain ⟨C', T', N', hc', hlen, hfs⟩ := jsh_obj hn hsh
  cases hc.symm.trans hc'
  obtain ⟨hd1, hfin⟩ := hfd T (hfs k f hf).2
  have he : (jws cy ρ σ)[q0]? = some (ρ g n, .inr (ci, jfs ρ σ g n 0 fs)) := by rw [hq]; simp only [jce, hsh]
  have hset : (jws cy ρ σ).set q0 (ρ g n, .inr (ci, (jfs ρ σ g n 0 fs).set k v)) = jws cy ρ σ' := by
    rw [jfs_set (σ' := σ') fs 0 k hf (by rw [Nat.zero_add]; exact hv) (fun a f' ha => hne a f' (by omega))]
    rw [← jws_set cy ρ σ σ' hq0 hoth]
    simp only [jce, hsh]
  have hlt : k < (jfs ρ σ g n 0 fs).length := by rw [jfs_len, hlen]; exact hk
  rcases z with _ | z
  · exact va_put hx hb hts hin ty0 hty hnm hown hK hP hD hS q0 he hc k hk (hts _ hlk) (fun x h => by rw [← hTk]; exact h) hfin (by rw [hd1]; exact hd) hna hfi hlt hdg (fun H1 locs1 h1 h2 h3 => kk H1 locs1 ⟨by rw [← hset]; exact h1, by rw [← hset]; exact h2, h3⟩)
  · exact va_putN hx hb hts hin ty0 hty hnm hown hK hP hD hS q0 he hc k hk (va_Nw.use rfl (hN _ hlk)) (fun x h => by rw [← hTk]; exact h) hfin (by rw [hd1]; exact hd) hna hfi hlt hdg (fun H1 locs1 h1 h2 h3 => kk H1 locs1 ⟨by rw [← hset]; exact h1, by rw [← hset]; exact h2, h3⟩)
theorem jr_iald (CX : jCx p s m args c dC dI cy ρ A on cc nL scr) (hw : jWd dC dI cy ρ A s.heap H locs σ) (hn : n < (jSh g).1) {t N : Nat} (hsh : (jSh g).2 = .inr (t, N, .inr 0)) {i : Int32} (hi : vp_in i N) (hdg : decode cc pc = .ok (.iaload, 1))
    (kk : W p l e R s m args below meth c H locs cells slots Q (F0 m (pc + 1) ls (.int (σ.1 g n i.toNatClampNeg) :: rest))) : W p l e R s m args below meth c H locs cells slots Q (F0 m pc ls (.int i :: .ref (ρ g n) :: rest)) := by
  obtain ⟨hx, hb, hml, hown, hts, hK, hA, hN, hZ, hT, hX⟩ := CX
  obtain ⟨hP, hD, hS⟩ := hw
  obtain ⟨q0, -, hq⟩ := jws_get cy ρ σ hn
  obtain ⟨rfl, -⟩ := jsh_arr hn hsh
  exact va_iald hx hb hK hP q0 0 (cA := cy 0) (n := N) (f := σ.1 g n) (by rw [hq]; simp only [jce, hsh]) rfl hi hdg kk
theorem jr_zald (CX : jCx p s m args c dC dI cy ρ A on cc nL scr) (hw : jWd dC dI cy ρ A s.heap H locs σ) (hn : n < (jSh g).1) {t N : Nat} (hsh : (jSh g).2 = .inr (t, N, .inr 2)) {i : Int32} (hi : vp_in i N) (hdg : decode cc pc = .ok (.baload, 1))
    (kk : W p l e R s m args below meth c H locs cells slots Q (F0 m (pc + 1) ls (.int (σ.1 g n i.toNatClampNeg) :: rest))) : W p l e R s m args below meth c H locs cells slots Q (F0 m pc ls (.int i :: .ref (ρ g n) :: rest)) := by
  obtain ⟨hx, hb, hml, hown, hts, hK, hA, hN, hZ, hT, hX⟩ := CX
  obtain ⟨hP, hD, hS⟩ := hw
  obtain ⟨q0, -, hq⟩ := jws_get cy ρ σ hn
  obtain ⟨rfl, -⟩ := jsh_arr hn hsh
  exact va_zald hx hb hK hP q0 2 (cA := cy 2) (n := N) (f := σ.1 g n) (by rw [hq]; simp only [jce, hsh]) rfl hi hdg kk
theorem jr_lald (CX : jCx p s m args c dC dI cy ρ A on cc nL scr) (hw : jWd dC dI cy ρ A s.heap H locs σ) (hn : n < (jSh g).1) {t N : Nat} (hsh : (jSh g).2 = .inr (t, N, .inr 1)) {i : Int32} (hi : vp_in i N) (hdg : decode cc pc = .ok (.laload, 1))
    (kk : W p l e R s m args below meth c H locs cells slots Q (F0 m (pc + 1) ls (.long (σ.2 g n i.toNatClampNeg) :: rest))) : W p l e R s m args below meth c H locs cells slots Q (F0 m pc ls (.int i :: .ref (ρ g n) :: rest)) := by
  obtain ⟨hx, hb, hml, hown, hts, hK, hA, hN, hZ, hT, hX⟩ := CX
  obtain ⟨hP, hD, hS⟩ := hw
  obtain ⟨q0, -, hq⟩ := jws_get cy ρ σ hn
  obtain ⟨rfl, -⟩ := jsh_arr hn hsh
  exact va_lald hx hb hK hP q0 1 (cA := cy 1) (n := N) (f := σ.2 g n) (by rw [hq]; simp only [jce, hsh]) rfl hi hdg kk
theorem jr_aald (CX : jCx p s m args c dC dI cy ρ A on cc nL scr) (hw : jWd dC dI cy ρ A s.heap H locs σ) (hn : n < (jSh g).1) {t N : Nat} {f : Nat → Nat → Nat × Nat} (hsh : (jSh g).2 = .inr (t, N, .inl f)) {i : Int32} (hi : vp_in i N) (hdg : decode cc pc = .ok (.aaload, 1))
    (kk : W p l e R s m args below meth c H locs cells slots Q (F0 m (pc + 1) ls (.ref (ρ (f n i.toNatClampNeg).1 (f n i.toNatClampNeg).2) :: rest))) : W p l e R s m args below meth c H locs cells slots Q (F0 m pc ls (.int i :: .ref (ρ g n) :: rest)) := by
  obtain ⟨hx, hb, hml, hown, hts, hK, hA, hN, hZ, hT, hX⟩ := CX
  obtain ⟨hP, hD, hS⟩ := hw
  obtain ⟨q0, -, hq⟩ := jws_get cy ρ σ hn
  obtain ⟨ht, -⟩ := jsh_ref hn hsh
  have ha : (jws cy ρ σ)[q0]? = some (ρ g n, .inl (cy t, N, .inr (.inr (.inr (.inr (fun j => some (ρ (f n j).1 (f n j).2))))))) := by rw [hq]; simp only [jce, hsh]
  have hlt : i.toNatClampNeg < N := Nat.not_le.mp fun q => hi (Or.inr q)
  rcases ht with rfl | rfl | rfl
  · exact W.aald (v := .ref (ρ (f n i.toNatClampNeg).1 (f n i.toNatClampNeg).2)) (ty := .object "LargerPacket$House") hx hb (hP q0 _ ha) ((hK.2 3 _ rfl).1 N (fun j => va_rf (some (ρ (f n j).1 (f n j).2)))) rfl (fun q => by cases q) (by show ¬ (i < 0 ∨ (arrV _ _ _).slots.size ≤ _); rw [arrV_size]; exact hi) (by show (arrV _ _ _).slots[_]? = _; rw [arrV_read _ _ hlt]; rfl) rfl rfl hdg kk
  · exact W.aald (v := .ref (ρ (f n i.toNatClampNeg).1 (f n i.toNatClampNeg).2)) (ty := .object "LargerPacket$Larder") hx hb (hP q0 _ ha) ((hK.2 4 _ rfl).1 N (fun j => va_rf (some (ρ (f n j).1 (f n j).2)))) rfl (fun q => by cases q) (by show ¬ (i < 0 ∨ (arrV _ _ _).slots.size ≤ _); rw [arrV_size]; exact hi) (by show (arrV _ _ _).slots[_]? = _; rw [arrV_read _ _ hlt]; rfl) rfl rfl hdg kk
  · exact W.aald (v := .ref (ρ (f n i.toNatClampNeg).1 (f n i.toNatClampNeg).2)) (ty := .array .int) hx hb (hP q0 _ ha) ((hK.2 5 _ rfl).1 N (fun j => va_rf (some (ρ (f n j).1 (f n j).2)))) rfl (fun q => by cases q) (by show ¬ (i < 0 ∨ (arrV _ _ _).slots.size ≤ _); rw [arrV_size]; exact hi) (by show (arrV _ _ _).slots[_]? = _; rw [arrV_read _ _ hlt]; rfl) rfl rfl hdg kk
theorem jr_alen (CX : jCx p s m args c dC dI cy ρ A on cc nL scr) (hw : jWd dC dI cy ρ A s.heap H locs σ) (hn : n < (jSh g).1) {t N : Nat} {z : (Nat → Nat → Nat × Nat) ⊕ Nat} (hsh : (jSh g).2 = .inr (t, N, z)) (hdg : decode cc pc = .ok (.arraylength, 1))
    (kk : W p l e R s m args below meth c H locs cells slots Q (F0 m (pc + 1) ls (.int (nI N) :: rest))) : W p l e R s m args below meth c H locs cells slots Q (F0 m pc ls (.ref (ρ g n) :: rest)) := by
  obtain ⟨hx, hb, hml, hown, hts, hK, hA, hN, hZ, hT, hX⟩ := CX
  obtain ⟨hP, hD, hS⟩ := hw
  obtain ⟨q0, -, hq⟩ := jws_get cy ρ σ hn
  rcases z with f | z
  · obtain ⟨ht, -⟩ := jsh_ref hn hsh
    have ha : (jws cy ρ σ)[q0]? = some (ρ g n, .inl (cy t, N, .inr (.inr (.inr (.inr (fun j => some (ρ (f n j).1 (f n j).2))))))) := by rw [hq]; simp only [jce, hsh]
    rcases ht with rfl | rfl | rfl
    · exact va_alen hx hb hK hP q0 3 ha rfl (v := nI N) rfl hdg kk
    · exact va_alen hx hb hK hP q0 4 ha rfl (v := nI N) rfl hdg kk
    · exact va_alen hx hb hK hP q0 5 ha rfl (v := nI N) rfl hdg kk
  · obtain ⟨ht, hz⟩ := jsh_arr hn hsh
    rcases (show z = 0 ∨ z = 1 ∨ z = 2 by omega) with h0 | h0 | h0
    · subst h0; subst ht
      have ha : (jws cy ρ σ)[q0]? = some (ρ g n, .inl (cy 0, N, .inl (σ.1 g n))) := by rw [hq]; simp only [jce, hsh]
      exact va_alen hx hb hK hP q0 0 ha rfl (v := nI N) rfl hdg kk
    · subst h0; subst ht
      have ha : (jws cy ρ σ)[q0]? = some (ρ g n, .inl (cy 1, N, .inr (.inl (σ.2 g n)))) := by rw [hq]; simp only [jce, hsh]
      exact va_alen hx hb hK hP q0 1 ha rfl (v := nI N) rfl hdg kk
    · subst h0; subst ht
      have ha : (jws cy ρ σ)[q0]? = some (ρ g n, .inl (cy 2, N, .inl (σ.1 g n))) := by rw [hq]; simp only [jce, hsh]
      exact va_alen hx hb hK hP q0 2 ha rfl (v := nI N) rfl hdg kk
theorem jr_iast (CX : jCx p s m args c dC dI cy ρ A on cc nL scr) (hw : jWd dC dI cy ρ A s.heap H locs σ) (hn : n < (jSh g).1) {t N : Nat} (hsh : (jSh g).2 = .inr (t, N, .inr 0)) {i v : Int32} (hi : vp_in i N) (hdg : decode cc pc = .ok (.iastore, 1))
    (kk : ∀ (H1 : Heap) (locs1 : List Loc), jWd dC dI cy ρ A s.heap H1 locs1 (jup σ.1 g n i.toNatClampNeg v, σ.2) → W p l e R s m args below meth c H1 locs1 cells slots Q (F0 m (pc + 1) ls rest)) : W p l e R s m args below meth c H locs cells slots Q (F0 m pc ls (.int v :: .int i :: .ref (ρ g n) :: rest)) := by
  obtain ⟨hx, hb, hml, hown, hts, hK, hA, hN, hZ, hT, hX⟩ := CX
  obtain ⟨hP, hD, hS⟩ := hw
  obtain ⟨q0, hq0, hq⟩ := jws_get cy ρ σ hn
  obtain ⟨rfl, -⟩ := jsh_arr hn hsh
  have hset : (jws cy ρ σ).set q0 (ρ g n, .inl (cy 0, N, .inl (upd (σ.1 g n) i.toNatClampNeg v))) = jws cy ρ (jup σ.1 g n i.toNatClampNeg v, σ.2) := by
    rw [← jws_set cy ρ σ (jup σ.1 g n i.toNatClampNeg v, σ.2) hq0 (fun x hx => jce_congr (jup_ne hx) rfl)]
    simp only [jce, hsh, jup_self]
  exact va_iast hx hb hK hP hD hS q0 0 (cA := cy 0) (n := N) (f := σ.1 g n) (by rw [hq]; simp only [jce, hsh]) rfl hi hdg (fun H1 locs1 h1 h2 h3 => kk H1 locs1 ⟨by rw [← hset]; exact h1, by rw [← hset]; exact h2, h3⟩)
theorem jr_zast (CX : jCx p s m args c dC dI cy ρ A on cc nL scr) (hw : jWd dC dI cy ρ A s.heap H locs σ) (hn : n < (jSh g).1) {t N : Nat} (hsh : (jSh g).2 = .inr (t, N, .inr 2)) {i v : Int32} (hi : vp_in i N) (hdg : decode cc pc = .ok (.bastore, 1))
    (kk : ∀ (H1 : Heap) (locs1 : List Loc), jWd dC dI cy ρ A s.heap H1 locs1 (jup σ.1 g n i.toNatClampNeg (vp_nar .boolean v), σ.2) → W p l e R s m args below meth c H1 locs1 cells slots Q (F0 m (pc + 1) ls rest)) : W p l e R s m args below meth c H locs cells slots Q (F0 m pc ls (.int v :: .int i :: .ref (ρ g n) :: rest)) := by
  obtain ⟨hx, hb, hml, hown, hts, hK, hA, hN, hZ, hT, hX⟩ := CX
  obtain ⟨hP, hD, hS⟩ := hw
  obtain ⟨q0, hq0, hq⟩ := jws_get cy ρ σ hn
  obtain ⟨rfl, -⟩ := jsh_arr hn hsh
  have hset : (jws cy ρ σ).set q0 (ρ g n, .inl (cy 2, N, .inl (upd (σ.1 g n) i.toNatClampNeg (vp_nar .boolean v)))) = jws cy ρ (jup σ.1 g n i.toNatClampNeg (vp_nar .boolean v), σ.2) := by
    rw [← jws_set cy ρ σ (jup σ.1 g n i.toNatClampNeg (vp_nar .boolean v), σ.2) hq0 (fun x hx => jce_congr (jup_ne hx) rfl)]
    simp only [jce, hsh, jup_self]
  exact va_zast hx hb hK hP hD hS q0 2 (cA := cy 2) (n := N) (f := σ.1 g n) (by rw [hq]; simp only [jce, hsh]) rfl hi hdg (fun H1 locs1 h1 h2 h3 => kk H1 locs1 ⟨by rw [← hset]; exact h1, by rw [← hset]; exact h2, h3⟩)
theorem jr_last (CX : jCx p s m args c dC dI cy ρ A on cc nL scr) (hw : jWd dC dI cy ρ A s.heap H locs σ) (hn : n < (jSh g).1) {t N : Nat} (hsh : (jSh g).2 = .inr (t, N, .inr 1)) {i : Int32} {v : Int64} (hi : vp_in i N) (hdg : decode cc pc = .ok (.lastore, 1))
    (kk : ∀ (H1 : Heap) (locs1 : List Loc), jWd dC dI cy ρ A s.heap H1 locs1 (σ.1, jupL σ.2 g n i.toNatClampNeg v) → W p l e R s m args below meth c H1 locs1 cells slots Q (F0 m (pc + 1) ls rest)) : W p l e R s m args below meth c H locs cells slots Q (F0 m pc ls (.long v :: .int i :: .ref (ρ g n) :: rest)) := by
  obtain ⟨hx, hb, hml, hown, hts, hK, hA, hN, hZ, hT, hX⟩ := CX
  obtain ⟨hP, hD, hS⟩ := hw
  obtain ⟨q0, hq0, hq⟩ := jws_get cy ρ σ hn
  obtain ⟨rfl, -⟩ := jsh_arr hn hsh
  have hset : (jws cy ρ σ).set q0 (ρ g n, .inl (cy 1, N, .inr (.inl (vp_updL (σ.2 g n) i.toNatClampNeg v)))) = jws cy ρ (σ.1, jupL σ.2 g n i.toNatClampNeg v) := by
    rw [← jws_set cy ρ σ (σ.1, jupL σ.2 g n i.toNatClampNeg v) hq0 (fun x hx => jce_congr rfl (jupL_ne hx))]
    simp only [jce, hsh, jupL_self]
  exact va_last hx hb hK hP hD hS q0 1 (cA := cy 1) (n := N) (f := σ.2 g n) (by rw [hq]; simp only [jce, hsh]) rfl hi hdg (fun H1 locs1 h1 h2 h3 => kk H1 locs1 ⟨by rw [← hset]; exact h1, by rw [← hset]; exact h2, h3⟩)
theorem jr_copy (CX : jCx p s m args c dC dI cy ρ A on cc nL scr) (hw : jWd dC dI cy ρ A s.heap H locs σ) {g' n' : Nat} (hn : n < (jSh g).1) (hn' : n' < (jSh g').1) {t N t' N' : Nat} (hsh : (jSh g).2 = .inr (t, N, .inr 0)) (hsh' : (jSh g').2 = .inr (t', N', .inr 0)) {sp dp z : Int32} (h1 : ¬ sp < 0) (h2 : ¬ dp < 0) (h3 : ¬ z < 0) (h4 : sp.toNatClampNeg + z.toNatClampNeg ≤ N) (h5 : dp.toNatClampNeg + z.toNatClampNeg ≤ N') {idx : Nat} (hl : (on, idx) ∈ jal) (hls : ls.size = nL) (hframes : 1 ≤ R.frames) (hlocals : (rest.map fun v => v.category).sum + 18 ≤ R.locals) (hdg : decode cc pc = .ok (.invokestatic idx, 3))
    (kk : ∀ (H1 : Heap) (locs1 : List Loc), jWd dC dI cy ρ A s.heap H1 locs1 (jcpy σ.1 g n g' n' sp.toNatClampNeg dp.toNatClampNeg z.toNatClampNeg, σ.2) → W p l e R s m args below meth c H1 locs1 cells slots Q (F0 m (pc + 3) ls rest)) : W p l e R s m args below meth c H locs cells slots Q (F0 m pc ls (.int z :: .int dp :: .ref (ρ g' n') :: .int sp :: .ref (ρ g n) :: rest)) := by
  obtain ⟨hx, hb, hml, hown, hts, hK, hA, hN, hZ, hT, hX⟩ := CX
  obtain ⟨hP, hD, hS⟩ := hw
  obtain ⟨q0, hq0, hq⟩ := jws_get cy ρ σ hn
  obtain ⟨q1, hq1, hq'⟩ := jws_get cy ρ σ hn'
  obtain ⟨rfl, -⟩ := jsh_arr hn hsh
  obtain ⟨rfl, -⟩ := jsh_arr hn' hsh'
  have hset : (jws cy ρ σ).set q1 (ρ g' n', .inl (cy 0, N', .inl (va_cpy (σ.1 g n) (σ.1 g' n') sp.toNatClampNeg dp.toNatClampNeg z.toNatClampNeg))) = jws cy ρ (jcpy σ.1 g n g' n' sp.toNatClampNeg dp.toNatClampNeg z.toNatClampNeg, σ.2) := by
    rw [← jws_set cy ρ σ (jcpy σ.1 g n g' n' sp.toNatClampNeg dp.toNatClampNeg z.toNatClampNeg, σ.2) hq1 (fun x hx => jce_congr (jcpy_ne hx) rfl)]
    simp only [jce, hsh', jcpy_self]
  exact va_copyi (own := jown on) hx hb (by rw [hml, hls]) hown (hts _ (jal_ok _ hl)) (hts _ jac_nat) (hts _ jac_sta) (hts _ jac_ini) hK hP hD hS q0 q1 0 0 (c0 := cy 0) (c1 := cy 0) (n0 := N) (n1 := N') (f := σ.1 g n) (g := σ.1 g' n') (by rw [hq]; simp only [jce, hsh]) (by rw [hq']; simp only [jce, hsh']) rfl rfl rfl h1 h2 h3 h4 h5 (fun _ _ => rfl) hframes hlocals hdg (fun H1 locs1 h1 h2 h3 => kk H1 locs1 ⟨by rw [← hset]; exact h1, by rw [← hset]; exact h2, h3⟩)
end JR
