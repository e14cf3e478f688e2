set_option maxHeartbeats 4000000 in
set_option maxRecDepth 100000 in
theorem whole_start {p : Program} {e : Env} {s : State} {m : MethodId} {below : List Frame} {meth : Method} {c : Code} (l : Launch) {b L : Nat} {xs : Nat → Int32} (hL : L ≤ 384) (C0 : lw_At p s m meth c b L xs) : W p l e room_1 s m #[Value.ref b] below meth c s.heap [] 0 0 (lw_Z below #[Value.ref b] s) (entryFrame m ([Value.ref b] : List Value).toArray 4) := by
  obtain ⟨hx, hb, hr, hml, hown, hts, hX, hbl, hlocks, hgv⟩ := C0
  obtain ⟨dC, dI, cy, hcx⟩ := lw_X hts
  obtain ⟨t, hZ, hT⟩ := lw_letters hts hgv
  have CX : cCx p s m #[Value.ref b] c dC dI cy (fun q => s.heap.size ≤ q) 9 code 4 := ⟨hx, hb, hml, hown, lw_jtb hts, hcx, fun _ h => h⟩
  have hw : cWd dC dI (fun q => s.heap.size ≤ q) s.heap s.heap [] [] := ⟨fun k q h => by simp at h, ⟨fun i j x y h => by simp at h, fun k q h => by simp at h⟩, va_S.rf⟩
  have hl := lv_entry ([.ref b] : List Value) (n := 4) (Nat.le_of_ble_eq_true rfl)
  rw [lg_entry_eq]
  generalize (lg_sl ([.ref b] : List Value) ++ List.replicate (4 - (lg_sl ([.ref b] : List Value)).length) Slot.unset).toArray = ls at hl ⊢
  have hl : lv_has ls 4 [(0, .ref b)] := hl
  refine c_new (idx := 7) CX hw 6 (C := RX7) (T := TX7) (N := 17) (fs := [.null, .null, .null, .null, .null, .null, .null, .null, .null, .null, .null, .null, .null, .int 0, .int 0, .long 0, .long 0]) rfl tyX7 tyX7_ok (jtb_at 80 (by decide +kernel) (by decide +kernel)) (jtb_at 81 (by decide +kernel) (by decide +kernel)) (jtb_at 67 (by decide +kernel) (by decide +kernel)) (by decide) (Nat.le_of_ble_eq_true rfl) (Nat.le_of_ble_eq_true rfl) (by decide +kernel) (fun q1 H1 hw => ?_)
  refine lv_dup hx hb (by decide +kernel) rfl ?_
  refine c_initI (idx := 9) (on := 9) (rest := [.ref q1]) (As := []) (ws := []) CX (cB_Main l) hw (jtb_at 84 (by decide +kernel) (by decide +kernel)) (jtb_at 82 (by decide +kernel) (by decide +kernel)) (jtb_at 67 (by decide +kernel) (by decide +kernel)) (jtb_at 83 (by decide +kernel) (by decide +kernel)) rfl (by decide +kernel) ⟨(Nat.le_of_ble_eq_true rfl), (Nat.le_of_ble_eq_true rfl)⟩ hl.1 (Nat.le_of_ble_eq_true rfl) (by decide +kernel) ⟨(Nat.le_of_ble_eq_true rfl), (Nat.le_of_ble_eq_true rfl)⟩ (fun a1 H2 locs2 hw => ?_)
  have hw : cWd dC dI (fun q => s.heap.size ≤ q) s.heap H2 locs2 (bMain cy q1 a1) := hw
  refine lv_astore_n (lv' := [(1, .ref q1), (0, .ref b)]) (k := 1) hx hb (by decide +kernel) rfl hl (by decide) rfl (fun ls hl => ?_)
  refine c_new (idx := 10) CX hw 7 (C := RX8) (T := TX8) (N := 23) (fs := [.null, .int 0, .int 0, .int 0, .null, .null, .null, .null, .null, .null, .int 0, .long 0, .long 0, .int 0, .null, .int 0, .int 0, .int 0, .int 0, .int 0, .null, .int 0, .null]) rfl tyX8 tyX8_ok (jtb_at 845 (by decide +kernel) (by decide +kernel)) (jtb_at 846 (by decide +kernel) (by decide +kernel)) (jtb_at 75 (by decide +kernel) (by decide +kernel)) (by decide) (Nat.le_of_ble_eq_true rfl) (Nat.le_of_ble_eq_true rfl) (by decide +kernel) (fun q2 H3 hw => ?_)
  refine lv_dup hx hb (by decide +kernel) rfl ?_
  refine c_initI (idx := 12) (on := 9) (rest := [.ref q2]) (As := []) (ws := bMain cy q1 a1) CX (cB_Model l) hw (jtb_at 849 (by decide +kernel) (by decide +kernel)) (jtb_at 847 (by decide +kernel) (by decide +kernel)) (jtb_at 75 (by decide +kernel) (by decide +kernel)) (jtb_at 848 (by decide +kernel) (by decide +kernel)) rfl (by decide +kernel) ⟨(Nat.le_of_ble_eq_true rfl), (Nat.le_of_ble_eq_true rfl)⟩ hl.1 (Nat.le_of_ble_eq_true rfl) (by decide +kernel) ⟨(Nat.le_of_ble_eq_true rfl), (Nat.le_of_ble_eq_true rfl)⟩ (fun a2 H4 locs4 hw => ?_)
  refine lv_astore_n (lv' := [(2, .ref q2), (1, .ref q1), (0, .ref b)]) (k := 2) hx hb (by decide +kernel) rfl hl (by decide) rfl (fun ls hl => ?_)
  have hwd := s_world t b hw
  refine W.widen (k := 600000) (n := 7302250) (Nat.le_of_ble_eq_true rfl) (Nat.le_of_ble_eq_true rfl) ?_
  have CJ : jCx p s m #[Value.ref b] c dC dI cy (sR q1 q2 t b a1 a2) (fun q => s.heap.size ≤ q) 9 code 4 (some (L, xs)) := by
    refine ⟨hx, hb, hml, hown, lw_jtb hts, hcx.1, fun _ h => h, fun w hw => ?_, hZ, hT, fun q hq => ?_⟩
    · obtain ⟨a, i, b', n, d, h, rfl⟩ := jnl_fl w hw
      exact va_Nw.of rfl (hts _ (jnl_in _ hw))
    · cases hq
      obtain ⟨scr, h1, h2, h3, h4, h5⟩ := hX
      exact ⟨scr, h1, h2, h3, Nat.le_of_eq h4.symm, by rw [h4], fun j hj => h5 j hj, Nat.not_le.mpr hbl⟩
  have hret : jRet p l e room_1 s m #[Value.ref b] below meth c 600000 7302250 (lw_Z below #[Value.ref b] s) dC dI cy (sR q1 q2 t b a1 a2) (fun q => s.heap.size ≤ q) code 0 (fun v _ => v = some (.inl (.inl 1))) := by
    intro H locs ls pc σ hw
    refine ⟨fun x _ hd hk => ?_, fun x h => absurd h (by decide), fun h => absurd h (by decide)⟩
    have hk : some (Sum.inl (Sum.inl x)) = (some (Sum.inl (Sum.inl 1)) : Option jV) := hk
    cases hk
    refine va_forget (fun q hq => hw.2.2.2.2 q hq) ?_
    exact lw_ret hx hb hr hlocks hd
  have hst : jWB (jWPM 13) (fun v _ => v = some (.inl (.inl 1))) (some (L, xs)) jc_law (16, [some (.inr (901, 0)), some (.inr (0, 0)), some (.inr (31, 0)), none], [], sI, sL) := by
    refine jWB_run [18] 10 ?_
    exact lw_loop (Nat.le_refl 13) hL (fun _ => rfl) L 0 sI sL (by exact Int.le_of_eq (Int.sub_zero _)) (by decide) (by decide) s_gG s_jJ s_lR
  have hgo := jsound (R := room_1) CJ ⟨Nat.le_of_ble_eq_true rfl, Nat.le_of_ble_eq_true rfl, Nat.le_of_ble_eq_true rfl, Nat.le_of_ble_eq_true rfl⟩ (jmet_all l 13) hret jk_law hst
  refine hgo H4 locs4 ls ⟨rfl, hl.1, hl.2.1, fun i v hi => ?_⟩ (fun i v hi => ?_) (fun v h => by cases h) hwd
  · match i, hi with
    | 0, hi => cases hi; exact lv_at hl 2 rfl
    | 1, hi => cases hi; exact lv_at hl 1 rfl
    | 2, hi => cases hi; exact lv_at hl 0 rfl
    | 3, hi => cases hi
    | i + 4, hi => cases hi
  · match i, hi with
    | 0, hi => cases hi; exact Or.inr ⟨Or.inr rfl, rfl⟩
    | 1, hi => cases hi; exact Or.inl (by decide)
    | 2, hi => cases hi; exact Or.inl (by decide)
    | 3, hi => cases hi
    | i + 4, hi => cases hi
