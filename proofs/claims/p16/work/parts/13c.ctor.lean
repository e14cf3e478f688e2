noncomputable def bLarder (cy : Nat → ClassId) (q : Nat) (ad : Nat → Nat) : va_W := [(q, .inr (2, [.ref (ad 0)])), (ad 0, .inl (cy 0, 10, .inl (fun _ => 0)))]
set_option maxHeartbeats 4000000 in
set_option maxRecDepth 100000 in
theorem cB_Larder (l : Launch) : cMet l yX3_init cX3_init 1 { frames := 1, cells := 1, slots := 10, locals := 12 } [] (fun _ => .inr (2, [.null])) bLarder := by
  refine cMet_of (by decide) 3 rfl (fun q => Nat.le_of_ble_eq_true rfl) ?_
  intro p e s m below meth c dC dI cy q A Q ls CX hnm hw hl ret
  have CX' := CX
  obtain ⟨hx, hb, hml, hown, hts, hX, hA⟩ := CX'
  have hl : lv_has ls 1 [(0, .ref q)] := hl
  have hw : cWd dC dI A s.heap s.heap [] ((q, .inr (2, [.null])) :: []) := hw
  refine lv_aload_n hx hb (by decide +kernel) (k := 0) rfl (lv_at hl 0 rfl) ?_
  refine c_obj (idx := 3) CX (jtb_at 124 (by decide +kernel) (by decide +kernel)) (jtb_at 86 (by decide +kernel) (by decide +kernel)) (jtb_at 87 (by decide +kernel) (by decide +kernel)) hl.1 (by decide +kernel) (Nat.le_of_ble_eq_true rfl) (Nat.le_of_ble_eq_true rfl) ?_
  refine lv_aload_n hx hb (by decide +kernel) (k := 0) rfl (lv_at hl 0 rfl) ?_
  refine lv_bipush (n := 10) (v := 10) hx hb (by decide +kernel) (by decide) ?_
  refine c_arr CX hw (atype := .int) (ty := .int) 0 rfl (fun _ _ h => h) (jtb_at 106 (by decide +kernel) (by decide +kernel)) rfl (a0 := (10, .inl (fun _ => 0))) (fun cA => rfl) (by decide) (N' := 10) (by decide) (by decide) (Nat.le_of_ble_eq_true rfl) (Nat.le_of_ble_eq_true rfl) (by decide +kernel) (fun q1 H2 hw => ?_)
  have hw : cWd dC dI A s.heap H2 [] ((q, .inr (2, [.null])) :: ([(q1, .inl (cy 0, 10, .inl (fun _ => 0)))] : va_W)) := hw
  refine c_putF (idx := 9) CX hw hnm 0 rfl (C := RX3) (T := TX3) (N := 1) rfl 0 (by decide) (jtb_at 125 (by decide +kernel) (by decide +kernel)) rfl rfl rfl (ty := tyX3 0) (by decide +kernel) rfl rfl (Nat.le_of_ble_eq_true rfl) (by decide +kernel) (fun H3 l4 hw => ?_)
  have hw : cWd dC dI A s.heap H3 l4 ((q, .inr (2, [.ref q1])) :: ([(q1, .inl (cy 0, 10, .inl (fun _ => 0)))] : va_W)) := hw
  refine W.widen (k := 1) (n := 10) (Nat.le_of_ble_eq_true rfl) (Nat.le_of_ble_eq_true rfl) ?_
  exact ret H3 l4 12 ls (fun k => ([q1] : List Nat).getD k 0) hw (by decide +kernel)
noncomputable def bHouse (cy : Nat → ClassId) (q : Nat) (ad : Nat → Nat) : va_W := (q, .inr (1, [.ref (ad 0), .ref (ad 1), .ref (ad 2), .ref (ad 3), .ref (ad 4), .ref (ad 6), .int 0, .int 0, .int 0, .int 0, .int 0, .int 0, .int 0, .int 0, .int 0, .int 0])) :: ((((([(ad 0, .inl (cy 0, 6, .inl (fun _ => 0)))] ++ [(ad 1, .inl (cy 0, 6, .inl (fun _ => 0)))]) ++ [(ad 2, .inl (cy 0, 6, .inl (fun _ => 0)))]) ++ [(ad 3, .inl (cy 0, 6, .inl (fun _ => 0)))]) ++ bLarder cy (ad 4) (fun k => ad (5 + k))) ++ [(ad 6, .inl (cy 0, 40, .inl (fun _ => 0)))])
set_option maxHeartbeats 4000000 in
set_option maxRecDepth 100000 in
theorem cB_House (l : Launch) : cMet l yX1_init cX1_init 1 { frames := 2, cells := 7, slots := 75, locals := 32 } [] (fun _ => .inr (1, [.null, .null, .null, .null, .null, .null, .int 0, .int 0, .int 0, .int 0, .int 0, .int 0, .int 0, .int 0, .int 0, .int 0])) bHouse := by
  refine cMet_of (by decide) 1 rfl (fun q => Nat.le_of_ble_eq_true rfl) ?_
  intro p e s m below meth c dC dI cy q A Q ls CX hnm hw hl ret
  have CX' := CX
  obtain ⟨hx, hb, hml, hown, hts, hX, hA⟩ := CX'
  have hl : lv_has ls 1 [(0, .ref q)] := hl
  have hw : cWd dC dI A s.heap s.heap [] ((q, .inr (1, [.null, .null, .null, .null, .null, .null, .int 0, .int 0, .int 0, .int 0, .int 0, .int 0, .int 0, .int 0, .int 0, .int 0])) :: []) := hw
  refine lv_aload_n hx hb (by decide +kernel) (k := 0) rfl (lv_at hl 0 rfl) ?_
  refine c_obj (idx := 3) CX (jtb_at 118 (by decide +kernel) (by decide +kernel)) (jtb_at 86 (by decide +kernel) (by decide +kernel)) (jtb_at 87 (by decide +kernel) (by decide +kernel)) hl.1 (by decide +kernel) (Nat.le_of_ble_eq_true rfl) (Nat.le_of_ble_eq_true rfl) ?_
  refine lv_aload_n hx hb (by decide +kernel) (k := 0) rfl (lv_at hl 0 rfl) ?_
  refine lv_bipush (n := 6) (v := 6) hx hb (by decide +kernel) (by decide) ?_
  refine c_arr CX hw (atype := .int) (ty := .int) 0 rfl (fun _ _ h => h) (jtb_at 106 (by decide +kernel) (by decide +kernel)) rfl (a0 := (6, .inl (fun _ => 0))) (fun cA => rfl) (by decide) (N' := 6) (by decide) (by decide) (Nat.le_of_ble_eq_true rfl) (Nat.le_of_ble_eq_true rfl) (by decide +kernel) (fun q1 H2 hw => ?_)
  have hw : cWd dC dI A s.heap H2 [] ((q, .inr (1, [.null, .null, .null, .null, .null, .null, .int 0, .int 0, .int 0, .int 0, .int 0, .int 0, .int 0, .int 0, .int 0, .int 0])) :: ([(q1, .inl (cy 0, 6, .inl (fun _ => 0)))] : va_W)) := hw
  refine c_putF (idx := 9) CX hw hnm 0 rfl (C := RX1) (T := TX1) (N := 16) rfl 0 (by decide) (jtb_at 129 (by decide +kernel) (by decide +kernel)) rfl rfl rfl (ty := tyX1 0) (by decide +kernel) rfl rfl (Nat.le_of_ble_eq_true rfl) (by decide +kernel) (fun H3 l4 hw => ?_)
  have hw : cWd dC dI A s.heap H3 l4 ((q, .inr (1, [.ref q1, .null, .null, .null, .null, .null, .int 0, .int 0, .int 0, .int 0, .int 0, .int 0, .int 0, .int 0, .int 0, .int 0])) :: ([(q1, .inl (cy 0, 6, .inl (fun _ => 0)))] : va_W)) := hw
  refine lv_aload_n hx hb (by decide +kernel) (k := 0) rfl (lv_at hl 0 rfl) ?_
  refine lv_bipush (n := 6) (v := 6) hx hb (by decide +kernel) (by decide) ?_
  refine c_arr CX hw (atype := .int) (ty := .int) 0 rfl (fun _ _ h => h) (jtb_at 106 (by decide +kernel) (by decide +kernel)) rfl (a0 := (6, .inl (fun _ => 0))) (fun cA => rfl) (by decide) (N' := 6) (by decide) (by decide) (Nat.le_of_ble_eq_true rfl) (Nat.le_of_ble_eq_true rfl) (by decide +kernel) (fun q5 H6 hw => ?_)
  have hw : cWd dC dI A s.heap H6 l4 ((q, .inr (1, [.ref q1, .null, .null, .null, .null, .null, .int 0, .int 0, .int 0, .int 0, .int 0, .int 0, .int 0, .int 0, .int 0, .int 0])) :: (([(q1, .inl (cy 0, 6, .inl (fun _ => 0)))] : va_W) ++ ([(q5, .inl (cy 0, 6, .inl (fun _ => 0)))] : va_W))) := hw
  refine c_putF (idx := 15) CX hw hnm 0 rfl (C := RX1) (T := TX1) (N := 16) rfl 1 (by decide) (jtb_at 131 (by decide +kernel) (by decide +kernel)) rfl rfl rfl (ty := tyX1 1) (by decide +kernel) rfl rfl (Nat.le_of_ble_eq_true rfl) (by decide +kernel) (fun H7 l8 hw => ?_)
  have hw : cWd dC dI A s.heap H7 l8 ((q, .inr (1, [.ref q1, .ref q5, .null, .null, .null, .null, .int 0, .int 0, .int 0, .int 0, .int 0, .int 0, .int 0, .int 0, .int 0, .int 0])) :: (([(q1, .inl (cy 0, 6, .inl (fun _ => 0)))] : va_W) ++ ([(q5, .inl (cy 0, 6, .inl (fun _ => 0)))] : va_W))) := hw
  refine lv_aload_n hx hb (by decide +kernel) (k := 0) rfl (lv_at hl 0 rfl) ?_
  refine lv_bipush (n := 6) (v := 6) hx hb (by decide +kernel) (by decide) ?_
  refine c_arr CX hw (atype := .int) (ty := .int) 0 rfl (fun _ _ h => h) (jtb_at 106 (by decide +kernel) (by decide +kernel)) rfl (a0 := (6, .inl (fun _ => 0))) (fun cA => rfl) (by decide) (N' := 6) (by decide) (by decide) (Nat.le_of_ble_eq_true rfl) (Nat.le_of_ble_eq_true rfl) (by decide +kernel) (fun q9 H10 hw => ?_)
  have hw : cWd dC dI A s.heap H10 l8 ((q, .inr (1, [.ref q1, .ref q5, .null, .null, .null, .null, .int 0, .int 0, .int 0, .int 0, .int 0, .int 0, .int 0, .int 0, .int 0, .int 0])) :: ((([(q1, .inl (cy 0, 6, .inl (fun _ => 0)))] : va_W) ++ ([(q5, .inl (cy 0, 6, .inl (fun _ => 0)))] : va_W)) ++ ([(q9, .inl (cy 0, 6, .inl (fun _ => 0)))] : va_W))) := hw
  refine c_putF (idx := 18) CX hw hnm 0 rfl (C := RX1) (T := TX1) (N := 16) rfl 2 (by decide) (jtb_at 132 (by decide +kernel) (by decide +kernel)) rfl rfl rfl (ty := tyX1 2) (by decide +kernel) rfl rfl (Nat.le_of_ble_eq_true rfl) (by decide +kernel) (fun H11 l12 hw => ?_)
  have hw : cWd dC dI A s.heap H11 l12 ((q, .inr (1, [.ref q1, .ref q5, .ref q9, .null, .null, .null, .int 0, .int 0, .int 0, .int 0, .int 0, .int 0, .int 0, .int 0, .int 0, .int 0])) :: ((([(q1, .inl (cy 0, 6, .inl (fun _ => 0)))] : va_W) ++ ([(q5, .inl (cy 0, 6, .inl (fun _ => 0)))] : va_W)) ++ ([(q9, .inl (cy 0, 6, .inl (fun _ => 0)))] : va_W))) := hw
  refine lv_aload_n hx hb (by decide +kernel) (k := 0) rfl (lv_at hl 0 rfl) ?_
  refine lv_bipush (n := 6) (v := 6) hx hb (by decide +kernel) (by decide) ?_
  refine c_arr CX hw (atype := .int) (ty := .int) 0 rfl (fun _ _ h => h) (jtb_at 106 (by decide +kernel) (by decide +kernel)) rfl (a0 := (6, .inl (fun _ => 0))) (fun cA => rfl) (by decide) (N' := 6) (by decide) (by decide) (Nat.le_of_ble_eq_true rfl) (Nat.le_of_ble_eq_true rfl) (by decide +kernel) (fun q13 H14 hw => ?_)
  have hw : cWd dC dI A s.heap H14 l12 ((q, .inr (1, [.ref q1, .ref q5, .ref q9, .null, .null, .null, .int 0, .int 0, .int 0, .int 0, .int 0, .int 0, .int 0, .int 0, .int 0, .int 0])) :: (((([(q1, .inl (cy 0, 6, .inl (fun _ => 0)))] : va_W) ++ ([(q5, .inl (cy 0, 6, .inl (fun _ => 0)))] : va_W)) ++ ([(q9, .inl (cy 0, 6, .inl (fun _ => 0)))] : va_W)) ++ ([(q13, .inl (cy 0, 6, .inl (fun _ => 0)))] : va_W))) := hw
  refine c_putF (idx := 21) CX hw hnm 0 rfl (C := RX1) (T := TX1) (N := 16) rfl 3 (by decide) (jtb_at 134 (by decide +kernel) (by decide +kernel)) rfl rfl rfl (ty := tyX1 3) (by decide +kernel) rfl rfl (Nat.le_of_ble_eq_true rfl) (by decide +kernel) (fun H15 l16 hw => ?_)
  have hw : cWd dC dI A s.heap H15 l16 ((q, .inr (1, [.ref q1, .ref q5, .ref q9, .ref q13, .null, .null, .int 0, .int 0, .int 0, .int 0, .int 0, .int 0, .int 0, .int 0, .int 0, .int 0])) :: (((([(q1, .inl (cy 0, 6, .inl (fun _ => 0)))] : va_W) ++ ([(q5, .inl (cy 0, 6, .inl (fun _ => 0)))] : va_W)) ++ ([(q9, .inl (cy 0, 6, .inl (fun _ => 0)))] : va_W)) ++ ([(q13, .inl (cy 0, 6, .inl (fun _ => 0)))] : va_W))) := hw
  refine lv_aload_n hx hb (by decide +kernel) (k := 0) rfl (lv_at hl 0 rfl) ?_
  refine c_new (idx := 24) CX hw 2 (C := RX3) (T := TX3) (N := 1) (fs := [.null]) rfl tyX3 tyX3_ok (jtb_at 119 (by decide +kernel) (by decide +kernel)) (jtb_at 120 (by decide +kernel) (by decide +kernel)) (jtb_at 72 (by decide +kernel) (by decide +kernel)) (by decide) (Nat.le_of_ble_eq_true rfl) (Nat.le_of_ble_eq_true rfl) (by decide +kernel) (fun q17 H18 hw => ?_)
  have hw : cWd dC dI A s.heap H18 l16 ((q, .inr (1, [.ref q1, .ref q5, .ref q9, .ref q13, .null, .null, .int 0, .int 0, .int 0, .int 0, .int 0, .int 0, .int 0, .int 0, .int 0, .int 0])) :: ((((([(q1, .inl (cy 0, 6, .inl (fun _ => 0)))] : va_W) ++ ([(q5, .inl (cy 0, 6, .inl (fun _ => 0)))] : va_W)) ++ ([(q9, .inl (cy 0, 6, .inl (fun _ => 0)))] : va_W)) ++ ([(q13, .inl (cy 0, 6, .inl (fun _ => 0)))] : va_W)) ++ ([(q17, .inr (2, [.null]))] : va_W))) := hw
  refine lv_dup hx hb (by decide +kernel) rfl ?_
  refine c_initN (idx := 26) (on := 1) (rest := [.ref q17, .ref q]) (As := []) (ws := ((q, .inr (1, [.ref q1, .ref q5, .ref q9, .ref q13, .null, .null, .int 0, .int 0, .int 0, .int 0, .int 0, .int 0, .int 0, .int 0, .int 0, .int 0])) :: (((([(q1, .inl (cy 0, 6, .inl (fun _ => 0)))] : va_W) ++ ([(q5, .inl (cy 0, 6, .inl (fun _ => 0)))] : va_W)) ++ ([(q9, .inl (cy 0, 6, .inl (fun _ => 0)))] : va_W)) ++ ([(q13, .inl (cy 0, 6, .inl (fun _ => 0)))] : va_W)))) CX (cB_Larder l) hw (jtb_at 123 (by decide +kernel) (by decide +kernel)) (List.mem_of_getElem? (i := 4) rfl) (jtb_at 72 (by decide +kernel) (by decide +kernel)) (jtb_at 122 (by decide +kernel) (by decide +kernel)) rfl (by decide +kernel) ⟨(Nat.le_of_ble_eq_true rfl), (Nat.le_of_ble_eq_true rfl)⟩ hl.1 (Nat.le_of_ble_eq_true rfl) (by decide +kernel) ⟨(Nat.le_of_ble_eq_true rfl), (Nat.le_of_ble_eq_true rfl)⟩ (fun a21 H19 l20 hw => ?_)
  have hw : cWd dC dI A s.heap H19 l20 ((q, .inr (1, [.ref q1, .ref q5, .ref q9, .ref q13, .null, .null, .int 0, .int 0, .int 0, .int 0, .int 0, .int 0, .int 0, .int 0, .int 0, .int 0])) :: ((((([(q1, .inl (cy 0, 6, .inl (fun _ => 0)))] : va_W) ++ ([(q5, .inl (cy 0, 6, .inl (fun _ => 0)))] : va_W)) ++ ([(q9, .inl (cy 0, 6, .inl (fun _ => 0)))] : va_W)) ++ ([(q13, .inl (cy 0, 6, .inl (fun _ => 0)))] : va_W)) ++ bLarder cy q17 a21)) := hw
  refine c_putF (idx := 27) CX hw hnm 0 rfl (C := RX1) (T := TX1) (N := 16) rfl 4 (by decide) (jtb_at 135 (by decide +kernel) (by decide +kernel)) rfl rfl rfl (ty := tyX1 4) (by decide +kernel) rfl rfl (Nat.le_of_ble_eq_true rfl) (by decide +kernel) (fun H22 l23 hw => ?_)
  have hw : cWd dC dI A s.heap H22 l23 ((q, .inr (1, [.ref q1, .ref q5, .ref q9, .ref q13, .ref q17, .null, .int 0, .int 0, .int 0, .int 0, .int 0, .int 0, .int 0, .int 0, .int 0, .int 0])) :: ((((([(q1, .inl (cy 0, 6, .inl (fun _ => 0)))] : va_W) ++ ([(q5, .inl (cy 0, 6, .inl (fun _ => 0)))] : va_W)) ++ ([(q9, .inl (cy 0, 6, .inl (fun _ => 0)))] : va_W)) ++ ([(q13, .inl (cy 0, 6, .inl (fun _ => 0)))] : va_W)) ++ bLarder cy q17 a21)) := hw
  refine lv_aload_n hx hb (by decide +kernel) (k := 0) rfl (lv_at hl 0 rfl) ?_
  refine lv_bipush (n := 40) (v := 40) hx hb (by decide +kernel) (by decide) ?_
  refine c_arr CX hw (atype := .int) (ty := .int) 0 rfl (fun _ _ h => h) (jtb_at 106 (by decide +kernel) (by decide +kernel)) rfl (a0 := (40, .inl (fun _ => 0))) (fun cA => rfl) (by decide) (N' := 40) (by decide) (by decide) (Nat.le_of_ble_eq_true rfl) (Nat.le_of_ble_eq_true rfl) (by decide +kernel) (fun q24 H25 hw => ?_)
  have hw : cWd dC dI A s.heap H25 l23 ((q, .inr (1, [.ref q1, .ref q5, .ref q9, .ref q13, .ref q17, .null, .int 0, .int 0, .int 0, .int 0, .int 0, .int 0, .int 0, .int 0, .int 0, .int 0])) :: (((((([(q1, .inl (cy 0, 6, .inl (fun _ => 0)))] : va_W) ++ ([(q5, .inl (cy 0, 6, .inl (fun _ => 0)))] : va_W)) ++ ([(q9, .inl (cy 0, 6, .inl (fun _ => 0)))] : va_W)) ++ ([(q13, .inl (cy 0, 6, .inl (fun _ => 0)))] : va_W)) ++ bLarder cy q17 a21) ++ ([(q24, .inl (cy 0, 40, .inl (fun _ => 0)))] : va_W))) := hw
  refine c_putF (idx := 31) CX hw hnm 0 rfl (C := RX1) (T := TX1) (N := 16) rfl 5 (by decide) (jtb_at 138 (by decide +kernel) (by decide +kernel)) rfl rfl rfl (ty := tyX1 5) (by decide +kernel) rfl rfl (Nat.le_of_ble_eq_true rfl) (by decide +kernel) (fun H26 l27 hw => ?_)
  have hw : cWd dC dI A s.heap H26 l27 ((q, .inr (1, [.ref q1, .ref q5, .ref q9, .ref q13, .ref q17, .ref q24, .int 0, .int 0, .int 0, .int 0, .int 0, .int 0, .int 0, .int 0, .int 0, .int 0])) :: (((((([(q1, .inl (cy 0, 6, .inl (fun _ => 0)))] : va_W) ++ ([(q5, .inl (cy 0, 6, .inl (fun _ => 0)))] : va_W)) ++ ([(q9, .inl (cy 0, 6, .inl (fun _ => 0)))] : va_W)) ++ ([(q13, .inl (cy 0, 6, .inl (fun _ => 0)))] : va_W)) ++ bLarder cy q17 a21) ++ ([(q24, .inl (cy 0, 40, .inl (fun _ => 0)))] : va_W))) := hw
  refine lv_aload_n hx hb (by decide +kernel) (k := 0) rfl (lv_at hl 0 rfl) ?_
  refine lv_iconst (n := 0) (v := 0) hx hb (by decide +kernel) (by decide) ?_
  refine c_put (idx := 34) CX hw 0 rfl (C := RX1) (T := TX1) (N := 16) rfl 6 (by decide) (jtb_at 139 (by decide +kernel) (by decide +kernel)) rfl rfl (ty := tyX1 6) (by decide +kernel) (by decide) (by decide) (Nat.le_of_ble_eq_true rfl) (by decide +kernel) (fun H28 l29 hw => ?_)
  have hw : cWd dC dI A s.heap H28 l29 ((q, .inr (1, [.ref q1, .ref q5, .ref q9, .ref q13, .ref q17, .ref q24, .int 0, .int 0, .int 0, .int 0, .int 0, .int 0, .int 0, .int 0, .int 0, .int 0])) :: (((((([(q1, .inl (cy 0, 6, .inl (fun _ => 0)))] : va_W) ++ ([(q5, .inl (cy 0, 6, .inl (fun _ => 0)))] : va_W)) ++ ([(q9, .inl (cy 0, 6, .inl (fun _ => 0)))] : va_W)) ++ ([(q13, .inl (cy 0, 6, .inl (fun _ => 0)))] : va_W)) ++ bLarder cy q17 a21) ++ ([(q24, .inl (cy 0, 40, .inl (fun _ => 0)))] : va_W))) := hw
  refine lv_aload_n hx hb (by decide +kernel) (k := 0) rfl (lv_at hl 0 rfl) ?_
  refine lv_iconst (n := 0) (v := 0) hx hb (by decide +kernel) (by decide) ?_
  refine c_put (idx := 38) CX hw 0 rfl (C := RX1) (T := TX1) (N := 16) rfl 7 (by decide) (jtb_at 144 (by decide +kernel) (by decide +kernel)) rfl rfl (ty := tyX1 7) (by decide +kernel) (by decide) (by decide) (Nat.le_of_ble_eq_true rfl) (by decide +kernel) (fun H30 l31 hw => ?_)
  have hw : cWd dC dI A s.heap H30 l31 ((q, .inr (1, [.ref q1, .ref q5, .ref q9, .ref q13, .ref q17, .ref q24, .int 0, .int 0, .int 0, .int 0, .int 0, .int 0, .int 0, .int 0, .int 0, .int 0])) :: (((((([(q1, .inl (cy 0, 6, .inl (fun _ => 0)))] : va_W) ++ ([(q5, .inl (cy 0, 6, .inl (fun _ => 0)))] : va_W)) ++ ([(q9, .inl (cy 0, 6, .inl (fun _ => 0)))] : va_W)) ++ ([(q13, .inl (cy 0, 6, .inl (fun _ => 0)))] : va_W)) ++ bLarder cy q17 a21) ++ ([(q24, .inl (cy 0, 40, .inl (fun _ => 0)))] : va_W))) := hw
  refine lv_aload_n hx hb (by decide +kernel) (k := 0) rfl (lv_at hl 0 rfl) ?_
  refine lv_iconst (n := 0) (v := 0) hx hb (by decide +kernel) (by decide) ?_
  refine c_put (idx := 41) CX hw 0 rfl (C := RX1) (T := TX1) (N := 16) rfl 8 (by decide) (jtb_at 148 (by decide +kernel) (by decide +kernel)) rfl rfl (ty := tyX1 8) (by decide +kernel) (by decide) (by decide) (Nat.le_of_ble_eq_true rfl) (by decide +kernel) (fun H32 l33 hw => ?_)
  have hw : cWd dC dI A s.heap H32 l33 ((q, .inr (1, [.ref q1, .ref q5, .ref q9, .ref q13, .ref q17, .ref q24, .int 0, .int 0, .int 0, .int 0, .int 0, .int 0, .int 0, .int 0, .int 0, .int 0])) :: (((((([(q1, .inl (cy 0, 6, .inl (fun _ => 0)))] : va_W) ++ ([(q5, .inl (cy 0, 6, .inl (fun _ => 0)))] : va_W)) ++ ([(q9, .inl (cy 0, 6, .inl (fun _ => 0)))] : va_W)) ++ ([(q13, .inl (cy 0, 6, .inl (fun _ => 0)))] : va_W)) ++ bLarder cy q17 a21) ++ ([(q24, .inl (cy 0, 40, .inl (fun _ => 0)))] : va_W))) := hw
  refine lv_aload_n hx hb (by decide +kernel) (k := 0) rfl (lv_at hl 0 rfl) ?_
  refine lv_iconst (n := 0) (v := 0) hx hb (by decide +kernel) (by decide) ?_
  refine c_put (idx := 44) CX hw 0 rfl (C := RX1) (T := TX1) (N := 16) rfl 9 (by decide) (jtb_at 151 (by decide +kernel) (by decide +kernel)) rfl rfl (ty := tyX1 9) (by decide +kernel) (by decide) (by decide) (Nat.le_of_ble_eq_true rfl) (by decide +kernel) (fun H34 l35 hw => ?_)
  have hw : cWd dC dI A s.heap H34 l35 ((q, .inr (1, [.ref q1, .ref q5, .ref q9, .ref q13, .ref q17, .ref q24, .int 0, .int 0, .int 0, .int 0, .int 0, .int 0, .int 0, .int 0, .int 0, .int 0])) :: (((((([(q1, .inl (cy 0, 6, .inl (fun _ => 0)))] : va_W) ++ ([(q5, .inl (cy 0, 6, .inl (fun _ => 0)))] : va_W)) ++ ([(q9, .inl (cy 0, 6, .inl (fun _ => 0)))] : va_W)) ++ ([(q13, .inl (cy 0, 6, .inl (fun _ => 0)))] : va_W)) ++ bLarder cy q17 a21) ++ ([(q24, .inl (cy 0, 40, .inl (fun _ => 0)))] : va_W))) := hw
  refine lv_aload_n hx hb (by decide +kernel) (k := 0) rfl (lv_at hl 0 rfl) ?_
  refine lv_iconst (n := 0) (v := 0) hx hb (by decide +kernel) (by decide) ?_
  refine c_put (idx := 47) CX hw 0 rfl (C := RX1) (T := TX1) (N := 16) rfl 10 (by decide) (jtb_at 152 (by decide +kernel) (by decide +kernel)) rfl rfl (ty := tyX1 10) (by decide +kernel) (by decide) (by decide) (Nat.le_of_ble_eq_true rfl) (by decide +kernel) (fun H36 l37 hw => ?_)
  have hw : cWd dC dI A s.heap H36 l37 ((q, .inr (1, [.ref q1, .ref q5, .ref q9, .ref q13, .ref q17, .ref q24, .int 0, .int 0, .int 0, .int 0, .int 0, .int 0, .int 0, .int 0, .int 0, .int 0])) :: (((((([(q1, .inl (cy 0, 6, .inl (fun _ => 0)))] : va_W) ++ ([(q5, .inl (cy 0, 6, .inl (fun _ => 0)))] : va_W)) ++ ([(q9, .inl (cy 0, 6, .inl (fun _ => 0)))] : va_W)) ++ ([(q13, .inl (cy 0, 6, .inl (fun _ => 0)))] : va_W)) ++ bLarder cy q17 a21) ++ ([(q24, .inl (cy 0, 40, .inl (fun _ => 0)))] : va_W))) := hw
  refine lv_aload_n hx hb (by decide +kernel) (k := 0) rfl (lv_at hl 0 rfl) ?_
  refine lv_iconst (n := 0) (v := 0) hx hb (by decide +kernel) (by decide) ?_
  refine c_put (idx := 50) CX hw 0 rfl (C := RX1) (T := TX1) (N := 16) rfl 11 (by decide) (jtb_at 153 (by decide +kernel) (by decide +kernel)) rfl rfl (ty := tyX1 11) (by decide +kernel) (by decide) (by decide) (Nat.le_of_ble_eq_true rfl) (by decide +kernel) (fun H38 l39 hw => ?_)
  have hw : cWd dC dI A s.heap H38 l39 ((q, .inr (1, [.ref q1, .ref q5, .ref q9, .ref q13, .ref q17, .ref q24, .int 0, .int 0, .int 0, .int 0, .int 0, .int 0, .int 0, .int 0, .int 0, .int 0])) :: (((((([(q1, .inl (cy 0, 6, .inl (fun _ => 0)))] : va_W) ++ ([(q5, .inl (cy 0, 6, .inl (fun _ => 0)))] : va_W)) ++ ([(q9, .inl (cy 0, 6, .inl (fun _ => 0)))] : va_W)) ++ ([(q13, .inl (cy 0, 6, .inl (fun _ => 0)))] : va_W)) ++ bLarder cy q17 a21) ++ ([(q24, .inl (cy 0, 40, .inl (fun _ => 0)))] : va_W))) := hw
  refine lv_aload_n hx hb (by decide +kernel) (k := 0) rfl (lv_at hl 0 rfl) ?_
  refine lv_iconst (n := 0) (v := 0) hx hb (by decide +kernel) (by decide) ?_
  refine c_put (idx := 53) CX hw 0 rfl (C := RX1) (T := TX1) (N := 16) rfl 12 (by decide) (jtb_at 154 (by decide +kernel) (by decide +kernel)) rfl rfl (ty := tyX1 12) (by decide +kernel) (by decide) (by decide) (Nat.le_of_ble_eq_true rfl) (by decide +kernel) (fun H40 l41 hw => ?_)
  have hw : cWd dC dI A s.heap H40 l41 ((q, .inr (1, [.ref q1, .ref q5, .ref q9, .ref q13, .ref q17, .ref q24, .int 0, .int 0, .int 0, .int 0, .int 0, .int 0, .int 0, .int 0, .int 0, .int 0])) :: (((((([(q1, .inl (cy 0, 6, .inl (fun _ => 0)))] : va_W) ++ ([(q5, .inl (cy 0, 6, .inl (fun _ => 0)))] : va_W)) ++ ([(q9, .inl (cy 0, 6, .inl (fun _ => 0)))] : va_W)) ++ ([(q13, .inl (cy 0, 6, .inl (fun _ => 0)))] : va_W)) ++ bLarder cy q17 a21) ++ ([(q24, .inl (cy 0, 40, .inl (fun _ => 0)))] : va_W))) := hw
  refine lv_aload_n hx hb (by decide +kernel) (k := 0) rfl (lv_at hl 0 rfl) ?_
  refine lv_iconst (n := 0) (v := 0) hx hb (by decide +kernel) (by decide) ?_
  refine c_put (idx := 56) CX hw 0 rfl (C := RX1) (T := TX1) (N := 16) rfl 13 (by decide) (jtb_at 155 (by decide +kernel) (by decide +kernel)) rfl rfl (ty := tyX1 13) (by decide +kernel) (by decide) (by decide) (Nat.le_of_ble_eq_true rfl) (by decide +kernel) (fun H42 l43 hw => ?_)
  have hw : cWd dC dI A s.heap H42 l43 ((q, .inr (1, [.ref q1, .ref q5, .ref q9, .ref q13, .ref q17, .ref q24, .int 0, .int 0, .int 0, .int 0, .int 0, .int 0, .int 0, .int 0, .int 0, .int 0])) :: (((((([(q1, .inl (cy 0, 6, .inl (fun _ => 0)))] : va_W) ++ ([(q5, .inl (cy 0, 6, .inl (fun _ => 0)))] : va_W)) ++ ([(q9, .inl (cy 0, 6, .inl (fun _ => 0)))] : va_W)) ++ ([(q13, .inl (cy 0, 6, .inl (fun _ => 0)))] : va_W)) ++ bLarder cy q17 a21) ++ ([(q24, .inl (cy 0, 40, .inl (fun _ => 0)))] : va_W))) := hw
  refine lv_aload_n hx hb (by decide +kernel) (k := 0) rfl (lv_at hl 0 rfl) ?_
  refine lv_iconst (n := 0) (v := 0) hx hb (by decide +kernel) (by decide) ?_
  refine c_put (idx := 59) CX hw 0 rfl (C := RX1) (T := TX1) (N := 16) rfl 14 (by decide) (jtb_at 156 (by decide +kernel) (by decide +kernel)) rfl rfl (ty := tyX1 14) (by decide +kernel) (by decide) (by decide) (Nat.le_of_ble_eq_true rfl) (by decide +kernel) (fun H44 l45 hw => ?_)
  have hw : cWd dC dI A s.heap H44 l45 ((q, .inr (1, [.ref q1, .ref q5, .ref q9, .ref q13, .ref q17, .ref q24, .int 0, .int 0, .int 0, .int 0, .int 0, .int 0, .int 0, .int 0, .int 0, .int 0])) :: (((((([(q1, .inl (cy 0, 6, .inl (fun _ => 0)))] : va_W) ++ ([(q5, .inl (cy 0, 6, .inl (fun _ => 0)))] : va_W)) ++ ([(q9, .inl (cy 0, 6, .inl (fun _ => 0)))] : va_W)) ++ ([(q13, .inl (cy 0, 6, .inl (fun _ => 0)))] : va_W)) ++ bLarder cy q17 a21) ++ ([(q24, .inl (cy 0, 40, .inl (fun _ => 0)))] : va_W))) := hw
  refine lv_aload_n hx hb (by decide +kernel) (k := 0) rfl (lv_at hl 0 rfl) ?_
  refine lv_iconst (n := 0) (v := 0) hx hb (by decide +kernel) (by decide) ?_
  refine c_put (idx := 63) CX hw 0 rfl (C := RX1) (T := TX1) (N := 16) rfl 15 (by decide) (jtb_at 158 (by decide +kernel) (by decide +kernel)) rfl rfl (ty := tyX1 15) (by decide +kernel) (by decide) (by decide) (Nat.le_of_ble_eq_true rfl) (by decide +kernel) (fun H46 l47 hw => ?_)
  have hw : cWd dC dI A s.heap H46 l47 ((q, .inr (1, [.ref q1, .ref q5, .ref q9, .ref q13, .ref q17, .ref q24, .int 0, .int 0, .int 0, .int 0, .int 0, .int 0, .int 0, .int 0, .int 0, .int 0])) :: (((((([(q1, .inl (cy 0, 6, .inl (fun _ => 0)))] : va_W) ++ ([(q5, .inl (cy 0, 6, .inl (fun _ => 0)))] : va_W)) ++ ([(q9, .inl (cy 0, 6, .inl (fun _ => 0)))] : va_W)) ++ ([(q13, .inl (cy 0, 6, .inl (fun _ => 0)))] : va_W)) ++ bLarder cy q17 a21) ++ ([(q24, .inl (cy 0, 40, .inl (fun _ => 0)))] : va_W))) := hw
  refine W.widen (k := 7) (n := 75) (Nat.le_of_ble_eq_true rfl) (Nat.le_of_ble_eq_true rfl) ?_
  exact ret H46 l47 105 ls (fun k => ([q1, q5, q9, q13, q17, (a21 0), q24] : List Nat).getD k 0) hw (by decide +kernel)
noncomputable def bBasket (cy : Nat → ClassId) (q : Nat) (ad : Nat → Nat) : va_W := (q, .inr (0, [.ref (ad 0)])) :: cGrid cy 7 31 (ad 0)
set_option maxHeartbeats 4000000 in
set_option maxRecDepth 100000 in
theorem cB_Basket (l : Launch) : cMet l yX0_init cX0_init 1 { frames := 1, cells := 8, slots := 224, locals := 12 } [] (fun _ => .inr (0, [.null])) bBasket := by
  refine cMet_of (by decide) 0 rfl (fun q => Nat.le_of_ble_eq_true rfl) ?_
  intro p e s m below meth c dC dI cy q A Q ls CX hnm hw hl ret
  have CX' := CX
  obtain ⟨hx, hb, hml, hown, hts, hX, hA⟩ := CX'
  have hl : lv_has ls 1 [(0, .ref q)] := hl
  have hw : cWd dC dI A s.heap s.heap [] ((q, .inr (0, [.null])) :: []) := hw
  refine lv_aload_n hx hb (by decide +kernel) (k := 0) rfl (lv_at hl 0 rfl) ?_
  refine c_obj (idx := 3) CX (jtb_at 220 (by decide +kernel) (by decide +kernel)) (jtb_at 86 (by decide +kernel) (by decide +kernel)) (jtb_at 87 (by decide +kernel) (by decide +kernel)) hl.1 (by decide +kernel) (Nat.le_of_ble_eq_true rfl) (Nat.le_of_ble_eq_true rfl) ?_
  refine lv_aload_n hx hb (by decide +kernel) (k := 0) rfl (lv_at hl 0 rfl) ?_
  refine lv_bipush (n := 7) (v := 7) hx hb (by decide +kernel) (by decide) ?_
  refine lv_bipush (n := 31) (v := 31) hx hb (by decide +kernel) (by decide) ?_
  refine c_mna (idx := 9) CX hw (jtb_at 221 (by decide +kernel) (by decide +kernel)) (jtb_at 106 (by decide +kernel) (by decide +kernel)) (N := 7) (K := 31) (by decide) (by decide) (by decide) (by decide) (by decide) (by decide) (Nat.le_of_ble_eq_true rfl) (Nat.le_of_ble_eq_true rfl) (by decide +kernel) (fun q1 H2 hw => ?_)
  have hw : cWd dC dI A s.heap H2 [] ((q, .inr (0, [.null])) :: cGrid cy 7 31 q1) := hw
  refine c_putF (idx := 11) CX hw hnm 0 rfl (C := RX0) (T := TX0) (N := 1) rfl 0 (by decide) (jtb_at 222 (by decide +kernel) (by decide +kernel)) rfl rfl rfl (ty := tyX0 0) (by decide +kernel) rfl rfl (Nat.le_of_ble_eq_true rfl) (by decide +kernel) (fun H3 l4 hw => ?_)
  have hw : cWd dC dI A s.heap H3 l4 ((q, .inr (0, [.ref q1])) :: cGrid cy 7 31 q1) := hw
  refine W.widen (k := 8) (n := 224) (Nat.le_of_ble_eq_true rfl) (Nat.le_of_ble_eq_true rfl) ?_
  exact ret H3 l4 16 ls (fun k => ([q1] : List Nat).getD k 0) hw (by decide +kernel)
noncomputable def bPlanner (cy : Nat → ClassId) (q : Nat) (ad : Nat → Nat) : va_W := (q, .inr (3, [.ref (ad 0), .ref (ad 1), .ref (ad 2), .int 0, .int 1000000, .int 1000000])) :: (ad 0, .inl (cy 4, 4, .inr (.inr (.inr (.inr (fun j => some (([ad 3, ad 4, ad 5, ad 6] : List Nat).getD j 0))))))) :: ((((([(ad 1, .inl (cy 0, 3, .inl (fun _ => 0)))] ++ [(ad 2, .inl (cy 0, 3, .inl (fun _ => 0)))]) ++ bLarder cy (ad 3) (fun k => ad (7 + k))) ++ bLarder cy (ad 4) (fun k => ad (8 + k))) ++ bLarder cy (ad 5) (fun k => ad (9 + k))) ++ bLarder cy (ad 6) (fun k => ad (10 + k)))
set_option maxHeartbeats 4000000 in
set_option maxRecDepth 100000 in
theorem cB_Planner (l : Launch) : cMet l yX4_init cX4_init 2 { frames := 2, cells := 11, slots := 54, locals := 32 } [] (fun _ => .inr (3, [.null, .null, .null, .int 0, .int 0, .int 0])) bPlanner := by
  refine cMet_of (by decide) 4 rfl (fun q => Nat.le_of_ble_eq_true rfl) ?_
  intro p e s m below meth c dC dI cy q A Q ls CX hnm hw hl ret
  have CX' := CX
  obtain ⟨hx, hb, hml, hown, hts, hX, hA⟩ := CX'
  have hl : lv_has ls 2 [(0, .ref q)] := hl
  have hw : cWd dC dI A s.heap s.heap [] ((q, .inr (3, [.null, .null, .null, .int 0, .int 0, .int 0])) :: []) := hw
  refine lv_aload_n hx hb (by decide +kernel) (k := 0) rfl (lv_at hl 0 rfl) ?_
  refine c_obj (idx := 3) CX (jtb_at 232 (by decide +kernel) (by decide +kernel)) (jtb_at 86 (by decide +kernel) (by decide +kernel)) (jtb_at 87 (by decide +kernel) (by decide +kernel)) hl.1 (by decide +kernel) (Nat.le_of_ble_eq_true rfl) (Nat.le_of_ble_eq_true rfl) ?_
  refine lv_aload_n hx hb (by decide +kernel) (k := 0) rfl (lv_at hl 0 rfl) ?_
  refine lv_iconst (n := 4) (v := 4) hx hb (by decide +kernel) (by decide) ?_
  refine c_arrq (idx := 9) CX hw 4 (C := "LargerPacket$Larder") rfl (jtb_at 233 (by decide +kernel) (by decide +kernel)) hX.2.2.1 (by decide) (N' := 4) (by decide) (by decide) (Nat.le_of_ble_eq_true rfl) (Nat.le_of_ble_eq_true rfl) (by decide +kernel) (fun q1 H2 hw => ?_)
  have hw : cWd dC dI A s.heap H2 [] ((q, .inr (3, [.null, .null, .null, .int 0, .int 0, .int 0])) :: ([(q1, .inl (cy 4, 4, .inr (.inr (.inr (.inr (fun _ => none))))))] : va_W)) := hw
  have hw : cWd dC dI A s.heap H2 [] ((q, .inr (3, [.null, .null, .null, .int 0, .int 0, .int 0])) :: (q1, .inl (cy 4, 4, .inr (.inr (.inr (.inr (fun _ => none)))))) :: []) := hw
  refine c_putF (idx := 11) CX hw hnm 0 rfl (C := RX4) (T := TX4) (N := 6) rfl 0 (by decide) (jtb_at 237 (by decide +kernel) (by decide +kernel)) rfl rfl rfl (ty := tyX4 0) (by decide +kernel) rfl rfl (Nat.le_of_ble_eq_true rfl) (by decide +kernel) (fun H3 l4 hw => ?_)
  have hw : cWd dC dI A s.heap H3 l4 ((q, .inr (3, [.ref q1, .null, .null, .int 0, .int 0, .int 0])) :: (q1, .inl (cy 4, 4, .inr (.inr (.inr (.inr (fun _ => none)))))) :: []) := hw
  refine lv_aload_n hx hb (by decide +kernel) (k := 0) rfl (lv_at hl 0 rfl) ?_
  refine lv_iconst (n := 3) (v := 3) hx hb (by decide +kernel) (by decide) ?_
  refine c_arr CX hw (atype := .int) (ty := .int) 0 rfl (fun _ _ h => h) (jtb_at 106 (by decide +kernel) (by decide +kernel)) rfl (a0 := (3, .inl (fun _ => 0))) (fun cA => rfl) (by decide) (N' := 3) (by decide) (by decide) (Nat.le_of_ble_eq_true rfl) (Nat.le_of_ble_eq_true rfl) (by decide +kernel) (fun q5 H6 hw => ?_)
  have hw : cWd dC dI A s.heap H6 l4 ((q, .inr (3, [.ref q1, .null, .null, .int 0, .int 0, .int 0])) :: (q1, .inl (cy 4, 4, .inr (.inr (.inr (.inr (fun _ => none)))))) :: ([(q5, .inl (cy 0, 3, .inl (fun _ => 0)))] : va_W)) := hw
  refine c_putF (idx := 17) CX hw hnm 0 rfl (C := RX4) (T := TX4) (N := 6) rfl 1 (by decide) (jtb_at 238 (by decide +kernel) (by decide +kernel)) rfl rfl rfl (ty := tyX4 1) (by decide +kernel) rfl rfl (Nat.le_of_ble_eq_true rfl) (by decide +kernel) (fun H7 l8 hw => ?_)
  have hw : cWd dC dI A s.heap H7 l8 ((q, .inr (3, [.ref q1, .ref q5, .null, .int 0, .int 0, .int 0])) :: (q1, .inl (cy 4, 4, .inr (.inr (.inr (.inr (fun _ => none)))))) :: ([(q5, .inl (cy 0, 3, .inl (fun _ => 0)))] : va_W)) := hw
  refine lv_aload_n hx hb (by decide +kernel) (k := 0) rfl (lv_at hl 0 rfl) ?_
  refine lv_iconst (n := 3) (v := 3) hx hb (by decide +kernel) (by decide) ?_
  refine c_arr CX hw (atype := .int) (ty := .int) 0 rfl (fun _ _ h => h) (jtb_at 106 (by decide +kernel) (by decide +kernel)) rfl (a0 := (3, .inl (fun _ => 0))) (fun cA => rfl) (by decide) (N' := 3) (by decide) (by decide) (Nat.le_of_ble_eq_true rfl) (Nat.le_of_ble_eq_true rfl) (by decide +kernel) (fun q9 H10 hw => ?_)
  have hw : cWd dC dI A s.heap H10 l8 ((q, .inr (3, [.ref q1, .ref q5, .null, .int 0, .int 0, .int 0])) :: (q1, .inl (cy 4, 4, .inr (.inr (.inr (.inr (fun _ => none)))))) :: (([(q5, .inl (cy 0, 3, .inl (fun _ => 0)))] : va_W) ++ ([(q9, .inl (cy 0, 3, .inl (fun _ => 0)))] : va_W))) := hw
  refine c_putF (idx := 21) CX hw hnm 0 rfl (C := RX4) (T := TX4) (N := 6) rfl 2 (by decide) (jtb_at 239 (by decide +kernel) (by decide +kernel)) rfl rfl rfl (ty := tyX4 2) (by decide +kernel) rfl rfl (Nat.le_of_ble_eq_true rfl) (by decide +kernel) (fun H11 l12 hw => ?_)
  have hw : cWd dC dI A s.heap H11 l12 ((q, .inr (3, [.ref q1, .ref q5, .ref q9, .int 0, .int 0, .int 0])) :: (q1, .inl (cy 4, 4, .inr (.inr (.inr (.inr (fun _ => none)))))) :: (([(q5, .inl (cy 0, 3, .inl (fun _ => 0)))] : va_W) ++ ([(q9, .inl (cy 0, 3, .inl (fun _ => 0)))] : va_W))) := hw
  refine lv_aload_n hx hb (by decide +kernel) (k := 0) rfl (lv_at hl 0 rfl) ?_
  refine lv_iconst (n := 0) (v := 0) hx hb (by decide +kernel) (by decide) ?_
  refine c_put (idx := 24) CX hw 0 rfl (C := RX4) (T := TX4) (N := 6) rfl 3 (by decide) (jtb_at 241 (by decide +kernel) (by decide +kernel)) rfl rfl (ty := tyX4 3) (by decide +kernel) (by decide) (by decide) (Nat.le_of_ble_eq_true rfl) (by decide +kernel) (fun H13 l14 hw => ?_)
  have hw : cWd dC dI A s.heap H13 l14 ((q, .inr (3, [.ref q1, .ref q5, .ref q9, .int 0, .int 0, .int 0])) :: (q1, .inl (cy 4, 4, .inr (.inr (.inr (.inr (fun _ => none)))))) :: (([(q5, .inl (cy 0, 3, .inl (fun _ => 0)))] : va_W) ++ ([(q9, .inl (cy 0, 3, .inl (fun _ => 0)))] : va_W))) := hw
  refine lv_aload_n hx hb (by decide +kernel) (k := 0) rfl (lv_at hl 0 rfl) ?_
  refine lv_ldc (own := jown 4) (index := 28) (v := 1000000) hx hb hown (hts _ (jtb_at 235 (by decide +kernel) (by decide +kernel))) (by decide +kernel) ?_
  refine c_put (idx := 29) CX hw 0 rfl (C := RX4) (T := TX4) (N := 6) rfl 4 (by decide) (jtb_at 242 (by decide +kernel) (by decide +kernel)) rfl rfl (ty := tyX4 4) (by decide +kernel) (by decide) (by decide) (Nat.le_of_ble_eq_true rfl) (by decide +kernel) (fun H15 l16 hw => ?_)
  have hw : cWd dC dI A s.heap H15 l16 ((q, .inr (3, [.ref q1, .ref q5, .ref q9, .int 0, .int 1000000, .int 0])) :: (q1, .inl (cy 4, 4, .inr (.inr (.inr (.inr (fun _ => none)))))) :: (([(q5, .inl (cy 0, 3, .inl (fun _ => 0)))] : va_W) ++ ([(q9, .inl (cy 0, 3, .inl (fun _ => 0)))] : va_W))) := hw
  refine lv_aload_n hx hb (by decide +kernel) (k := 0) rfl (lv_at hl 0 rfl) ?_
  refine lv_ldc (own := jown 4) (index := 28) (v := 1000000) hx hb hown (hts _ (jtb_at 235 (by decide +kernel) (by decide +kernel))) (by decide +kernel) ?_
  refine c_put (idx := 32) CX hw 0 rfl (C := RX4) (T := TX4) (N := 6) rfl 5 (by decide) (jtb_at 244 (by decide +kernel) (by decide +kernel)) rfl rfl (ty := tyX4 5) (by decide +kernel) (by decide) (by decide) (Nat.le_of_ble_eq_true rfl) (by decide +kernel) (fun H17 l18 hw => ?_)
  have hw : cWd dC dI A s.heap H17 l18 ((q, .inr (3, [.ref q1, .ref q5, .ref q9, .int 0, .int 1000000, .int 1000000])) :: (q1, .inl (cy 4, 4, .inr (.inr (.inr (.inr (fun _ => none)))))) :: (([(q5, .inl (cy 0, 3, .inl (fun _ => 0)))] : va_W) ++ ([(q9, .inl (cy 0, 3, .inl (fun _ => 0)))] : va_W))) := hw
  refine lv_iconst (n := 0) (v := 0) hx hb (by decide +kernel) (by decide) ?_
  refine lv_istore_n (lv' := [(1, .int 0), (0, .ref q)]) (k := 1) hx hb (by decide +kernel) rfl hl (by decide) rfl (fun ls hl => ?_)
  refine lv_iload_n hx hb (by decide +kernel) (k := 1) rfl (lv_at hl 0 rfl) ?_
  refine lv_iconst (n := 3) (v := 3) hx hb (by decide +kernel) (by decide) ?_
  refine lv_icmp_gt (off := 22) (tgt := 69) hx hb (by decide +kernel) (by decide) (fun c => absurd c (by decide)) (fun _ => ?_)
  refine lv_aload_n hx hb (by decide +kernel) (k := 0) rfl (lv_at hl 1 rfl) ?_
  refine c_get (idx := 11) CX hw 0 rfl (C := RX4) (T := TX4) (N := 6) rfl 0 (by decide) (jtb_at 237 (by decide +kernel) (by decide +kernel)) rfl rfl (by decide +kernel) ?_
  refine lv_iload_n hx hb (by decide +kernel) (k := 1) rfl (lv_at hl 0 rfl) ?_
  refine c_new (idx := 9) CX hw 2 (C := RX3) (T := TX3) (N := 1) (fs := [.null]) rfl tyX3 tyX3_ok (jtb_at 233 (by decide +kernel) (by decide +kernel)) (jtb_at 120 (by decide +kernel) (by decide +kernel)) (jtb_at 72 (by decide +kernel) (by decide +kernel)) (by decide) (Nat.le_of_ble_eq_true rfl) (Nat.le_of_ble_eq_true rfl) (by decide +kernel) (fun q19 H20 hw => ?_)
  have hw : cWd dC dI A s.heap H20 l18 ((q, .inr (3, [.ref q1, .ref q5, .ref q9, .int 0, .int 1000000, .int 1000000])) :: (q1, .inl (cy 4, 4, .inr (.inr (.inr (.inr (fun _ => none)))))) :: ((([(q5, .inl (cy 0, 3, .inl (fun _ => 0)))] : va_W) ++ ([(q9, .inl (cy 0, 3, .inl (fun _ => 0)))] : va_W)) ++ ([(q19, .inr (2, [.null]))] : va_W))) := hw
  refine lv_dup hx hb (by decide +kernel) rfl ?_
  refine c_initN (idx := 35) (on := 4) (rest := [.ref q19, .int 0, .ref q1]) (As := []) (ws := ((q, .inr (3, [.ref q1, .ref q5, .ref q9, .int 0, .int 1000000, .int 1000000])) :: (q1, .inl (cy 4, 4, .inr (.inr (.inr (.inr (fun _ => none)))))) :: (([(q5, .inl (cy 0, 3, .inl (fun _ => 0)))] : va_W) ++ ([(q9, .inl (cy 0, 3, .inl (fun _ => 0)))] : va_W)))) CX (cB_Larder l) hw (jtb_at 123 (by decide +kernel) (by decide +kernel)) (List.mem_of_getElem? (i := 5) rfl) (jtb_at 72 (by decide +kernel) (by decide +kernel)) (jtb_at 122 (by decide +kernel) (by decide +kernel)) rfl (by decide +kernel) ⟨(Nat.le_of_ble_eq_true rfl), (Nat.le_of_ble_eq_true rfl)⟩ hl.1 (Nat.le_of_ble_eq_true rfl) (by decide +kernel) ⟨(Nat.le_of_ble_eq_true rfl), (Nat.le_of_ble_eq_true rfl)⟩ (fun a23 H21 l22 hw => ?_)
  have hw : cWd dC dI A s.heap H21 l22 ((q, .inr (3, [.ref q1, .ref q5, .ref q9, .int 0, .int 1000000, .int 1000000])) :: (q1, .inl (cy 4, 4, .inr (.inr (.inr (.inr (fun _ => none)))))) :: ((([(q5, .inl (cy 0, 3, .inl (fun _ => 0)))] : va_W) ++ ([(q9, .inl (cy 0, 3, .inl (fun _ => 0)))] : va_W)) ++ bLarder cy q19 a23)) := hw
  refine c_aast CX hw 1 4 rfl (r := (RX3, TX3, 1)) rfl (List.mem_cons_of_mem _ (List.mem_cons_of_mem _ (List.mem_append_right _ List.mem_cons_self))) (ci := 2) rfl (vp_in_iff.mpr (by decide)) (by decide +kernel) (fun H24 l25 hw => ?_)
  have hw : cWd dC dI A s.heap H24 l25 ((q, .inr (3, [.ref q1, .ref q5, .ref q9, .int 0, .int 1000000, .int 1000000])) :: (q1, .inl (cy 4, 4, .inr (.inr (.inr (.inr (va_up (fun _ => none) 0 (some q19))))))) :: ((([(q5, .inl (cy 0, 3, .inl (fun _ => 0)))] : va_W) ++ ([(q9, .inl (cy 0, 3, .inl (fun _ => 0)))] : va_W)) ++ bLarder cy q19 a23)) := hw
  refine lv_iinc (v := 1) (lv' := [(1, .int 1), (0, .ref q)]) (i := 1) (n := 1) hx hb (by decide +kernel) hl (k := 0) rfl (by decide) (by decide) rfl (fun ls hl => ?_)
  refine lv_goto (off := (-21)) (tgt := 45) hx hb (by decide +kernel) (by decide) ?_
  refine lv_iload_n hx hb (by decide +kernel) (k := 1) rfl (lv_at hl 0 rfl) ?_
  refine lv_iconst (n := 3) (v := 3) hx hb (by decide +kernel) (by decide) ?_
  refine lv_icmp_gt (off := 22) (tgt := 69) hx hb (by decide +kernel) (by decide) (fun c => absurd c (by decide)) (fun _ => ?_)
  refine lv_aload_n hx hb (by decide +kernel) (k := 0) rfl (lv_at hl 1 rfl) ?_
  refine c_get (idx := 11) CX hw 0 rfl (C := RX4) (T := TX4) (N := 6) rfl 0 (by decide) (jtb_at 237 (by decide +kernel) (by decide +kernel)) rfl rfl (by decide +kernel) ?_
  refine lv_iload_n hx hb (by decide +kernel) (k := 1) rfl (lv_at hl 0 rfl) ?_
  refine c_new (idx := 9) CX hw 2 (C := RX3) (T := TX3) (N := 1) (fs := [.null]) rfl tyX3 tyX3_ok (jtb_at 233 (by decide +kernel) (by decide +kernel)) (jtb_at 120 (by decide +kernel) (by decide +kernel)) (jtb_at 72 (by decide +kernel) (by decide +kernel)) (by decide) (Nat.le_of_ble_eq_true rfl) (Nat.le_of_ble_eq_true rfl) (by decide +kernel) (fun q26 H27 hw => ?_)
  have hw : cWd dC dI A s.heap H27 l25 ((q, .inr (3, [.ref q1, .ref q5, .ref q9, .int 0, .int 1000000, .int 1000000])) :: (q1, .inl (cy 4, 4, .inr (.inr (.inr (.inr (va_up (fun _ => none) 0 (some q19))))))) :: (((([(q5, .inl (cy 0, 3, .inl (fun _ => 0)))] : va_W) ++ ([(q9, .inl (cy 0, 3, .inl (fun _ => 0)))] : va_W)) ++ bLarder cy q19 a23) ++ ([(q26, .inr (2, [.null]))] : va_W))) := hw
  refine lv_dup hx hb (by decide +kernel) rfl ?_
  refine c_initN (idx := 35) (on := 4) (rest := [.ref q26, .int 1, .ref q1]) (As := []) (ws := ((q, .inr (3, [.ref q1, .ref q5, .ref q9, .int 0, .int 1000000, .int 1000000])) :: (q1, .inl (cy 4, 4, .inr (.inr (.inr (.inr (va_up (fun _ => none) 0 (some q19))))))) :: ((([(q5, .inl (cy 0, 3, .inl (fun _ => 0)))] : va_W) ++ ([(q9, .inl (cy 0, 3, .inl (fun _ => 0)))] : va_W)) ++ bLarder cy q19 a23))) CX (cB_Larder l) hw (jtb_at 123 (by decide +kernel) (by decide +kernel)) (List.mem_of_getElem? (i := 5) rfl) (jtb_at 72 (by decide +kernel) (by decide +kernel)) (jtb_at 122 (by decide +kernel) (by decide +kernel)) rfl (by decide +kernel) ⟨(Nat.le_of_ble_eq_true rfl), (Nat.le_of_ble_eq_true rfl)⟩ hl.1 (Nat.le_of_ble_eq_true rfl) (by decide +kernel) ⟨(Nat.le_of_ble_eq_true rfl), (Nat.le_of_ble_eq_true rfl)⟩ (fun a30 H28 l29 hw => ?_)
  have hw : cWd dC dI A s.heap H28 l29 ((q, .inr (3, [.ref q1, .ref q5, .ref q9, .int 0, .int 1000000, .int 1000000])) :: (q1, .inl (cy 4, 4, .inr (.inr (.inr (.inr (va_up (fun _ => none) 0 (some q19))))))) :: (((([(q5, .inl (cy 0, 3, .inl (fun _ => 0)))] : va_W) ++ ([(q9, .inl (cy 0, 3, .inl (fun _ => 0)))] : va_W)) ++ bLarder cy q19 a23) ++ bLarder cy q26 a30)) := hw
  refine c_aast CX hw 1 4 rfl (r := (RX3, TX3, 1)) rfl (List.mem_cons_of_mem _ (List.mem_cons_of_mem _ (List.mem_append_right _ List.mem_cons_self))) (ci := 2) rfl (vp_in_iff.mpr (by decide)) (by decide +kernel) (fun H31 l32 hw => ?_)
  have hw : cWd dC dI A s.heap H31 l32 ((q, .inr (3, [.ref q1, .ref q5, .ref q9, .int 0, .int 1000000, .int 1000000])) :: (q1, .inl (cy 4, 4, .inr (.inr (.inr (.inr (va_up (va_up (fun _ => none) 0 (some q19)) 1 (some q26))))))) :: (((([(q5, .inl (cy 0, 3, .inl (fun _ => 0)))] : va_W) ++ ([(q9, .inl (cy 0, 3, .inl (fun _ => 0)))] : va_W)) ++ bLarder cy q19 a23) ++ bLarder cy q26 a30)) := hw
  refine lv_iinc (v := 2) (lv' := [(1, .int 2), (0, .ref q)]) (i := 1) (n := 1) hx hb (by decide +kernel) hl (k := 0) rfl (by decide) (by decide) rfl (fun ls hl => ?_)
  refine lv_goto (off := (-21)) (tgt := 45) hx hb (by decide +kernel) (by decide) ?_
  refine lv_iload_n hx hb (by decide +kernel) (k := 1) rfl (lv_at hl 0 rfl) ?_
  refine lv_iconst (n := 3) (v := 3) hx hb (by decide +kernel) (by decide) ?_
  refine lv_icmp_gt (off := 22) (tgt := 69) hx hb (by decide +kernel) (by decide) (fun c => absurd c (by decide)) (fun _ => ?_)
  refine lv_aload_n hx hb (by decide +kernel) (k := 0) rfl (lv_at hl 1 rfl) ?_
  refine c_get (idx := 11) CX hw 0 rfl (C := RX4) (T := TX4) (N := 6) rfl 0 (by decide) (jtb_at 237 (by decide +kernel) (by decide +kernel)) rfl rfl (by decide +kernel) ?_
  refine lv_iload_n hx hb (by decide +kernel) (k := 1) rfl (lv_at hl 0 rfl) ?_
  refine c_new (idx := 9) CX hw 2 (C := RX3) (T := TX3) (N := 1) (fs := [.null]) rfl tyX3 tyX3_ok (jtb_at 233 (by decide +kernel) (by decide +kernel)) (jtb_at 120 (by decide +kernel) (by decide +kernel)) (jtb_at 72 (by decide +kernel) (by decide +kernel)) (by decide) (Nat.le_of_ble_eq_true rfl) (Nat.le_of_ble_eq_true rfl) (by decide +kernel) (fun q33 H34 hw => ?_)
  have hw : cWd dC dI A s.heap H34 l32 ((q, .inr (3, [.ref q1, .ref q5, .ref q9, .int 0, .int 1000000, .int 1000000])) :: (q1, .inl (cy 4, 4, .inr (.inr (.inr (.inr (va_up (va_up (fun _ => none) 0 (some q19)) 1 (some q26))))))) :: ((((([(q5, .inl (cy 0, 3, .inl (fun _ => 0)))] : va_W) ++ ([(q9, .inl (cy 0, 3, .inl (fun _ => 0)))] : va_W)) ++ bLarder cy q19 a23) ++ bLarder cy q26 a30) ++ ([(q33, .inr (2, [.null]))] : va_W))) := hw
  refine lv_dup hx hb (by decide +kernel) rfl ?_
  refine c_initN (idx := 35) (on := 4) (rest := [.ref q33, .int 2, .ref q1]) (As := []) (ws := ((q, .inr (3, [.ref q1, .ref q5, .ref q9, .int 0, .int 1000000, .int 1000000])) :: (q1, .inl (cy 4, 4, .inr (.inr (.inr (.inr (va_up (va_up (fun _ => none) 0 (some q19)) 1 (some q26))))))) :: (((([(q5, .inl (cy 0, 3, .inl (fun _ => 0)))] : va_W) ++ ([(q9, .inl (cy 0, 3, .inl (fun _ => 0)))] : va_W)) ++ bLarder cy q19 a23) ++ bLarder cy q26 a30))) CX (cB_Larder l) hw (jtb_at 123 (by decide +kernel) (by decide +kernel)) (List.mem_of_getElem? (i := 5) rfl) (jtb_at 72 (by decide +kernel) (by decide +kernel)) (jtb_at 122 (by decide +kernel) (by decide +kernel)) rfl (by decide +kernel) ⟨(Nat.le_of_ble_eq_true rfl), (Nat.le_of_ble_eq_true rfl)⟩ hl.1 (Nat.le_of_ble_eq_true rfl) (by decide +kernel) ⟨(Nat.le_of_ble_eq_true rfl), (Nat.le_of_ble_eq_true rfl)⟩ (fun a37 H35 l36 hw => ?_)
  have hw : cWd dC dI A s.heap H35 l36 ((q, .inr (3, [.ref q1, .ref q5, .ref q9, .int 0, .int 1000000, .int 1000000])) :: (q1, .inl (cy 4, 4, .inr (.inr (.inr (.inr (va_up (va_up (fun _ => none) 0 (some q19)) 1 (some q26))))))) :: ((((([(q5, .inl (cy 0, 3, .inl (fun _ => 0)))] : va_W) ++ ([(q9, .inl (cy 0, 3, .inl (fun _ => 0)))] : va_W)) ++ bLarder cy q19 a23) ++ bLarder cy q26 a30) ++ bLarder cy q33 a37)) := hw
  refine c_aast CX hw 1 4 rfl (r := (RX3, TX3, 1)) rfl (List.mem_cons_of_mem _ (List.mem_cons_of_mem _ (List.mem_append_right _ List.mem_cons_self))) (ci := 2) rfl (vp_in_iff.mpr (by decide)) (by decide +kernel) (fun H38 l39 hw => ?_)
  have hw : cWd dC dI A s.heap H38 l39 ((q, .inr (3, [.ref q1, .ref q5, .ref q9, .int 0, .int 1000000, .int 1000000])) :: (q1, .inl (cy 4, 4, .inr (.inr (.inr (.inr (va_up (va_up (va_up (fun _ => none) 0 (some q19)) 1 (some q26)) 2 (some q33))))))) :: ((((([(q5, .inl (cy 0, 3, .inl (fun _ => 0)))] : va_W) ++ ([(q9, .inl (cy 0, 3, .inl (fun _ => 0)))] : va_W)) ++ bLarder cy q19 a23) ++ bLarder cy q26 a30) ++ bLarder cy q33 a37)) := hw
  refine lv_iinc (v := 3) (lv' := [(1, .int 3), (0, .ref q)]) (i := 1) (n := 1) hx hb (by decide +kernel) hl (k := 0) rfl (by decide) (by decide) rfl (fun ls hl => ?_)
  refine lv_goto (off := (-21)) (tgt := 45) hx hb (by decide +kernel) (by decide) ?_
  refine lv_iload_n hx hb (by decide +kernel) (k := 1) rfl (lv_at hl 0 rfl) ?_
  refine lv_iconst (n := 3) (v := 3) hx hb (by decide +kernel) (by decide) ?_
  refine lv_icmp_gt (off := 22) (tgt := 69) hx hb (by decide +kernel) (by decide) (fun c => absurd c (by decide)) (fun _ => ?_)
  refine lv_aload_n hx hb (by decide +kernel) (k := 0) rfl (lv_at hl 1 rfl) ?_
  refine c_get (idx := 11) CX hw 0 rfl (C := RX4) (T := TX4) (N := 6) rfl 0 (by decide) (jtb_at 237 (by decide +kernel) (by decide +kernel)) rfl rfl (by decide +kernel) ?_
  refine lv_iload_n hx hb (by decide +kernel) (k := 1) rfl (lv_at hl 0 rfl) ?_
  refine c_new (idx := 9) CX hw 2 (C := RX3) (T := TX3) (N := 1) (fs := [.null]) rfl tyX3 tyX3_ok (jtb_at 233 (by decide +kernel) (by decide +kernel)) (jtb_at 120 (by decide +kernel) (by decide +kernel)) (jtb_at 72 (by decide +kernel) (by decide +kernel)) (by decide) (Nat.le_of_ble_eq_true rfl) (Nat.le_of_ble_eq_true rfl) (by decide +kernel) (fun q40 H41 hw => ?_)
  have hw : cWd dC dI A s.heap H41 l39 ((q, .inr (3, [.ref q1, .ref q5, .ref q9, .int 0, .int 1000000, .int 1000000])) :: (q1, .inl (cy 4, 4, .inr (.inr (.inr (.inr (va_up (va_up (va_up (fun _ => none) 0 (some q19)) 1 (some q26)) 2 (some q33))))))) :: (((((([(q5, .inl (cy 0, 3, .inl (fun _ => 0)))] : va_W) ++ ([(q9, .inl (cy 0, 3, .inl (fun _ => 0)))] : va_W)) ++ bLarder cy q19 a23) ++ bLarder cy q26 a30) ++ bLarder cy q33 a37) ++ ([(q40, .inr (2, [.null]))] : va_W))) := hw
  refine lv_dup hx hb (by decide +kernel) rfl ?_
  refine c_initN (idx := 35) (on := 4) (rest := [.ref q40, .int 3, .ref q1]) (As := []) (ws := ((q, .inr (3, [.ref q1, .ref q5, .ref q9, .int 0, .int 1000000, .int 1000000])) :: (q1, .inl (cy 4, 4, .inr (.inr (.inr (.inr (va_up (va_up (va_up (fun _ => none) 0 (some q19)) 1 (some q26)) 2 (some q33))))))) :: ((((([(q5, .inl (cy 0, 3, .inl (fun _ => 0)))] : va_W) ++ ([(q9, .inl (cy 0, 3, .inl (fun _ => 0)))] : va_W)) ++ bLarder cy q19 a23) ++ bLarder cy q26 a30) ++ bLarder cy q33 a37))) CX (cB_Larder l) hw (jtb_at 123 (by decide +kernel) (by decide +kernel)) (List.mem_of_getElem? (i := 5) rfl) (jtb_at 72 (by decide +kernel) (by decide +kernel)) (jtb_at 122 (by decide +kernel) (by decide +kernel)) rfl (by decide +kernel) ⟨(Nat.le_of_ble_eq_true rfl), (Nat.le_of_ble_eq_true rfl)⟩ hl.1 (Nat.le_of_ble_eq_true rfl) (by decide +kernel) ⟨(Nat.le_of_ble_eq_true rfl), (Nat.le_of_ble_eq_true rfl)⟩ (fun a44 H42 l43 hw => ?_)
  have hw : cWd dC dI A s.heap H42 l43 ((q, .inr (3, [.ref q1, .ref q5, .ref q9, .int 0, .int 1000000, .int 1000000])) :: (q1, .inl (cy 4, 4, .inr (.inr (.inr (.inr (va_up (va_up (va_up (fun _ => none) 0 (some q19)) 1 (some q26)) 2 (some q33))))))) :: (((((([(q5, .inl (cy 0, 3, .inl (fun _ => 0)))] : va_W) ++ ([(q9, .inl (cy 0, 3, .inl (fun _ => 0)))] : va_W)) ++ bLarder cy q19 a23) ++ bLarder cy q26 a30) ++ bLarder cy q33 a37) ++ bLarder cy q40 a44)) := hw
  refine c_aast CX hw 1 4 rfl (r := (RX3, TX3, 1)) rfl (List.mem_cons_of_mem _ (List.mem_cons_of_mem _ (List.mem_append_right _ List.mem_cons_self))) (ci := 2) rfl (vp_in_iff.mpr (by decide)) (by decide +kernel) (fun H45 l46 hw => ?_)
  have hw : cWd dC dI A s.heap H45 l46 ((q, .inr (3, [.ref q1, .ref q5, .ref q9, .int 0, .int 1000000, .int 1000000])) :: (q1, .inl (cy 4, 4, .inr (.inr (.inr (.inr (va_up (va_up (va_up (va_up (fun _ => none) 0 (some q19)) 1 (some q26)) 2 (some q33)) 3 (some q40))))))) :: (((((([(q5, .inl (cy 0, 3, .inl (fun _ => 0)))] : va_W) ++ ([(q9, .inl (cy 0, 3, .inl (fun _ => 0)))] : va_W)) ++ bLarder cy q19 a23) ++ bLarder cy q26 a30) ++ bLarder cy q33 a37) ++ bLarder cy q40 a44)) := hw
  refine lv_iinc (v := 4) (lv' := [(1, .int 4), (0, .ref q)]) (i := 1) (n := 1) hx hb (by decide +kernel) hl (k := 0) rfl (by decide) (by decide) rfl (fun ls hl => ?_)
  refine lv_goto (off := (-21)) (tgt := 45) hx hb (by decide +kernel) (by decide) ?_
  refine lv_iload_n hx hb (by decide +kernel) (k := 1) rfl (lv_at hl 0 rfl) ?_
  refine lv_iconst (n := 3) (v := 3) hx hb (by decide +kernel) (by decide) ?_
  refine lv_icmp_gt (off := 22) (tgt := 69) hx hb (by decide +kernel) (by decide) (fun _ => ?_) (fun c => absurd (by decide) c)
  have hw : cWd dC dI A s.heap H45 l46 ((q, .inr (3, [.ref q1, .ref q5, .ref q9, .int 0, .int 1000000, .int 1000000])) :: (q1, .inl (cy 4, 4, .inr (.inr (.inr (.inr (fun j => some (([q19, q26, q33, q40] : List Nat).getD j 0))))))) :: (((((([(q5, .inl (cy 0, 3, .inl (fun _ => 0)))] : va_W) ++ ([(q9, .inl (cy 0, 3, .inl (fun _ => 0)))] : va_W)) ++ bLarder cy q19 a23) ++ bLarder cy q26 a30) ++ bLarder cy q33 a37) ++ bLarder cy q40 a44)) := c_cell (fun j hj => by
    have : j = 0 ∨ j = 1 ∨ j = 2 ∨ j = 3 := by omega
    rcases this with rfl | rfl | rfl | rfl <;> rfl) hw
  refine W.widen (k := 11) (n := 54) (Nat.le_of_ble_eq_true rfl) (Nat.le_of_ble_eq_true rfl) ?_
  exact ret H45 l46 69 ls (fun k => ([q1, q5, q9, q19, q26, q33, q40, (a23 0), (a30 0), (a37 0), (a44 0)] : List Nat).getD k 0) hw (by decide +kernel)
noncomputable def bReader (cy : Nat → ClassId) (q : Nat) (ad : Nat → Nat) : va_W := (q, .inr (4, [.ref (ad 0), .ref (ad 1), .int 0, .int 0, .int (-9)])) :: (bHouse cy (ad 0) (fun k => ad (2 + k)) ++ [(ad 1, .inl (cy 0, 60, .inl (fun _ => 0)))])
set_option maxHeartbeats 4000000 in
set_option maxRecDepth 100000 in
theorem cB_Reader (l : Launch) : cMet l yX5_init cX5_init 1 { frames := 3, cells := 9, slots := 151, locals := 52 } [] (fun _ => .inr (4, [.null, .null, .int 0, .int 0, .int 0])) bReader := by
  refine cMet_of (by decide) 5 rfl (fun q => Nat.le_of_ble_eq_true rfl) ?_
  intro p e s m below meth c dC dI cy q A Q ls CX hnm hw hl ret
  have CX' := CX
  obtain ⟨hx, hb, hml, hown, hts, hX, hA⟩ := CX'
  have hl : lv_has ls 1 [(0, .ref q)] := hl
  have hw : cWd dC dI A s.heap s.heap [] ((q, .inr (4, [.null, .null, .int 0, .int 0, .int 0])) :: []) := hw
  refine lv_aload_n hx hb (by decide +kernel) (k := 0) rfl (lv_at hl 0 rfl) ?_
  refine c_obj (idx := 3) CX (jtb_at 112 (by decide +kernel) (by decide +kernel)) (jtb_at 86 (by decide +kernel) (by decide +kernel)) (jtb_at 87 (by decide +kernel) (by decide +kernel)) hl.1 (by decide +kernel) (Nat.le_of_ble_eq_true rfl) (Nat.le_of_ble_eq_true rfl) ?_
  refine lv_aload_n hx hb (by decide +kernel) (k := 0) rfl (lv_at hl 0 rfl) ?_
  refine c_new (idx := 9) CX hw 1 (C := RX1) (T := TX1) (N := 16) (fs := [.null, .null, .null, .null, .null, .null, .int 0, .int 0, .int 0, .int 0, .int 0, .int 0, .int 0, .int 0, .int 0, .int 0]) rfl tyX1 tyX1_ok (jtb_at 113 (by decide +kernel) (by decide +kernel)) (jtb_at 114 (by decide +kernel) (by decide +kernel)) (jtb_at 71 (by decide +kernel) (by decide +kernel)) (by decide) (Nat.le_of_ble_eq_true rfl) (Nat.le_of_ble_eq_true rfl) (by decide +kernel) (fun q1 H2 hw => ?_)
  have hw : cWd dC dI A s.heap H2 [] ((q, .inr (4, [.null, .null, .int 0, .int 0, .int 0])) :: ([(q1, .inr (1, [.null, .null, .null, .null, .null, .null, .int 0, .int 0, .int 0, .int 0, .int 0, .int 0, .int 0, .int 0, .int 0, .int 0]))] : va_W)) := hw
  refine lv_dup hx hb (by decide +kernel) rfl ?_
  refine c_initN (idx := 11) (on := 5) (rest := [.ref q1, .ref q]) (As := []) (ws := ((q, .inr (4, [.null, .null, .int 0, .int 0, .int 0])) :: [])) CX (cB_House l) hw (jtb_at 117 (by decide +kernel) (by decide +kernel)) (List.mem_of_getElem? (i := 6) rfl) (jtb_at 71 (by decide +kernel) (by decide +kernel)) (jtb_at 116 (by decide +kernel) (by decide +kernel)) rfl (by decide +kernel) ⟨(Nat.le_of_ble_eq_true rfl), (Nat.le_of_ble_eq_true rfl)⟩ hl.1 (Nat.le_of_ble_eq_true rfl) (by decide +kernel) ⟨(Nat.le_of_ble_eq_true rfl), (Nat.le_of_ble_eq_true rfl)⟩ (fun a5 H3 l4 hw => ?_)
  have hw : cWd dC dI A s.heap H3 l4 ((q, .inr (4, [.null, .null, .int 0, .int 0, .int 0])) :: bHouse cy q1 a5) := hw
  refine c_putF (idx := 12) CX hw hnm 0 rfl (C := RX5) (T := TX5) (N := 5) rfl 0 (by decide) (jtb_at 193 (by decide +kernel) (by decide +kernel)) rfl rfl rfl (ty := tyX5 0) (by decide +kernel) rfl rfl (Nat.le_of_ble_eq_true rfl) (by decide +kernel) (fun H6 l7 hw => ?_)
  have hw : cWd dC dI A s.heap H6 l7 ((q, .inr (4, [.ref q1, .null, .int 0, .int 0, .int 0])) :: bHouse cy q1 a5) := hw
  refine lv_aload_n hx hb (by decide +kernel) (k := 0) rfl (lv_at hl 0 rfl) ?_
  refine lv_bipush (n := 60) (v := 60) hx hb (by decide +kernel) (by decide) ?_
  refine c_arr CX hw (atype := .int) (ty := .int) 0 rfl (fun _ _ h => h) (jtb_at 106 (by decide +kernel) (by decide +kernel)) rfl (a0 := (60, .inl (fun _ => 0))) (fun cA => rfl) (by decide) (N' := 60) (by decide) (by decide) (Nat.le_of_ble_eq_true rfl) (Nat.le_of_ble_eq_true rfl) (by decide +kernel) (fun q8 H9 hw => ?_)
  have hw : cWd dC dI A s.heap H9 l7 ((q, .inr (4, [.ref q1, .null, .int 0, .int 0, .int 0])) :: (bHouse cy q1 a5 ++ ([(q8, .inl (cy 0, 60, .inl (fun _ => 0)))] : va_W))) := hw
  refine c_putF (idx := 18) CX hw hnm 0 rfl (C := RX5) (T := TX5) (N := 5) rfl 1 (by decide) (jtb_at 195 (by decide +kernel) (by decide +kernel)) rfl rfl rfl (ty := tyX5 1) (by decide +kernel) rfl rfl (Nat.le_of_ble_eq_true rfl) (by decide +kernel) (fun H10 l11 hw => ?_)
  have hw : cWd dC dI A s.heap H10 l11 ((q, .inr (4, [.ref q1, .ref q8, .int 0, .int 0, .int 0])) :: (bHouse cy q1 a5 ++ ([(q8, .inl (cy 0, 60, .inl (fun _ => 0)))] : va_W))) := hw
  refine lv_aload_n hx hb (by decide +kernel) (k := 0) rfl (lv_at hl 0 rfl) ?_
  refine lv_iconst (n := 0) (v := 0) hx hb (by decide +kernel) (by decide) ?_
  refine c_put (idx := 22) CX hw 0 rfl (C := RX5) (T := TX5) (N := 5) rfl 2 (by decide) (jtb_at 196 (by decide +kernel) (by decide +kernel)) rfl rfl (ty := tyX5 2) (by decide +kernel) (by decide) (by decide) (Nat.le_of_ble_eq_true rfl) (by decide +kernel) (fun H12 l13 hw => ?_)
  have hw : cWd dC dI A s.heap H12 l13 ((q, .inr (4, [.ref q1, .ref q8, .int 0, .int 0, .int 0])) :: (bHouse cy q1 a5 ++ ([(q8, .inl (cy 0, 60, .inl (fun _ => 0)))] : va_W))) := hw
  refine lv_aload_n hx hb (by decide +kernel) (k := 0) rfl (lv_at hl 0 rfl) ?_
  refine lv_iconst (n := 0) (v := 0) hx hb (by decide +kernel) (by decide) ?_
  refine c_put (idx := 26) CX hw 0 rfl (C := RX5) (T := TX5) (N := 5) rfl 3 (by decide) (jtb_at 197 (by decide +kernel) (by decide +kernel)) rfl rfl (ty := tyX5 3) (by decide +kernel) (by decide) (by decide) (Nat.le_of_ble_eq_true rfl) (by decide +kernel) (fun H14 l15 hw => ?_)
  have hw : cWd dC dI A s.heap H14 l15 ((q, .inr (4, [.ref q1, .ref q8, .int 0, .int 0, .int 0])) :: (bHouse cy q1 a5 ++ ([(q8, .inl (cy 0, 60, .inl (fun _ => 0)))] : va_W))) := hw
  refine lv_aload_n hx hb (by decide +kernel) (k := 0) rfl (lv_at hl 0 rfl) ?_
  refine lv_bipush (n := (-9)) (v := (-9)) hx hb (by decide +kernel) (by decide) ?_
  refine c_put (idx := 29) CX hw 0 rfl (C := RX5) (T := TX5) (N := 5) rfl 4 (by decide) (jtb_at 198 (by decide +kernel) (by decide +kernel)) rfl rfl (ty := tyX5 4) (by decide +kernel) (by decide) (by decide) (Nat.le_of_ble_eq_true rfl) (by decide +kernel) (fun H16 l17 hw => ?_)
  have hw : cWd dC dI A s.heap H16 l17 ((q, .inr (4, [.ref q1, .ref q8, .int 0, .int 0, .int (-9)])) :: (bHouse cy q1 a5 ++ ([(q8, .inl (cy 0, 60, .inl (fun _ => 0)))] : va_W))) := hw
  refine W.widen (k := 9) (n := 151) (Nat.le_of_ble_eq_true rfl) (Nat.le_of_ble_eq_true rfl) ?_
  exact ret H16 l17 39 ls (fun k => ([q1, q8, (a5 0), (a5 1), (a5 2), (a5 3), (a5 4), (a5 5), (a5 6)] : List Nat).getD k 0) hw (by decide +kernel)
noncomputable def bRows6 (cy : Nat → ClassId) (q : Nat) (ad : Nat → Nat) : va_W := (q, .inr (5, [.ref (ad 0), .ref (ad 1)])) :: (cGrid cy 6 40 (ad 0) ++ [(ad 1, .inl (cy 0, 6, .inl (fun j => if j < 6 then (-1) else 0)))])
set_option maxHeartbeats 4000000 in
set_option maxRecDepth 100000 in
theorem cB_Rows6 (l : Launch) : cMet l yX6_init cX6_init 3 { frames := 1, cells := 8, slots := 252, locals := 23 } [.int 6, .int 40] (fun _ => .inr (5, [.null, .null])) bRows6 := by
  refine cMet_of (by decide) 6 rfl (fun q => Nat.le_of_ble_eq_true rfl) ?_
  intro p e s m below meth c dC dI cy q A Q ls CX hnm hw hl ret
  have CX' := CX
  obtain ⟨hx, hb, hml, hown, hts, hX, hA⟩ := CX'
  have hl : lv_has ls 3 [(0, .ref q), (1, .int 6), (2, .int 40)] := hl
  have hw : cWd dC dI A s.heap s.heap [] ((q, .inr (5, [.null, .null])) :: []) := hw
  refine lv_aload_n hx hb (by decide +kernel) (k := 0) rfl (lv_at hl 0 rfl) ?_
  refine c_obj (idx := 3) CX (jtb_at 93 (by decide +kernel) (by decide +kernel)) (jtb_at 86 (by decide +kernel) (by decide +kernel)) (jtb_at 87 (by decide +kernel) (by decide +kernel)) hl.1 (by decide +kernel) (Nat.le_of_ble_eq_true rfl) (Nat.le_of_ble_eq_true rfl) ?_
  refine lv_aload_n hx hb (by decide +kernel) (k := 0) rfl (lv_at hl 0 rfl) ?_
  refine lv_iload_n hx hb (by decide +kernel) (k := 1) rfl (lv_at hl 1 rfl) ?_
  refine lv_iload_n hx hb (by decide +kernel) (k := 2) rfl (lv_at hl 2 rfl) ?_
  refine c_mna (idx := 9) CX hw (jtb_at 94 (by decide +kernel) (by decide +kernel)) (jtb_at 106 (by decide +kernel) (by decide +kernel)) (N := 6) (K := 40) (by decide) (by decide) (by decide) (by decide) (by decide) (by decide) (Nat.le_of_ble_eq_true rfl) (Nat.le_of_ble_eq_true rfl) (by decide +kernel) (fun q1 H2 hw => ?_)
  have hw : cWd dC dI A s.heap H2 [] ((q, .inr (5, [.null, .null])) :: cGrid cy 6 40 q1) := hw
  refine c_putF (idx := 11) CX hw hnm 0 rfl (C := RX6) (T := TX6) (N := 2) rfl 0 (by decide) (jtb_at 99 (by decide +kernel) (by decide +kernel)) rfl rfl rfl (ty := tyX6 0) (by decide +kernel) rfl rfl (Nat.le_of_ble_eq_true rfl) (by decide +kernel) (fun H3 l4 hw => ?_)
  have hw : cWd dC dI A s.heap H3 l4 ((q, .inr (5, [.ref q1, .null])) :: cGrid cy 6 40 q1) := hw
  refine lv_aload_n hx hb (by decide +kernel) (k := 0) rfl (lv_at hl 0 rfl) ?_
  refine lv_iload_n hx hb (by decide +kernel) (k := 1) rfl (lv_at hl 1 rfl) ?_
  refine c_arr CX hw (atype := .int) (ty := .int) 0 rfl (fun _ _ h => h) (jtb_at 106 (by decide +kernel) (by decide +kernel)) rfl (a0 := (6, .inl (fun _ => 0))) (fun cA => rfl) (by decide) (N' := 6) (by decide) (by decide) (Nat.le_of_ble_eq_true rfl) (Nat.le_of_ble_eq_true rfl) (by decide +kernel) (fun q5 H6 hw => ?_)
  have hw : cWd dC dI A s.heap H6 l4 ((q, .inr (5, [.ref q1, .null])) :: (cGrid cy 6 40 q1 ++ ([(q5, .inl (cy 0, 6, .inl (fun _ => 0)))] : va_W))) := hw
  refine c_putF (idx := 16) CX hw hnm 0 rfl (C := RX6) (T := TX6) (N := 2) rfl 1 (by decide) (jtb_at 100 (by decide +kernel) (by decide +kernel)) rfl rfl rfl (ty := tyX6 1) (by decide +kernel) rfl rfl (Nat.le_of_ble_eq_true rfl) (by decide +kernel) (fun H7 l8 hw => ?_)
  have hw : cWd dC dI A s.heap H7 l8 ((q, .inr (5, [.ref q1, .ref q5])) :: (cGrid cy 6 40 q1 ++ ([(q5, .inl (cy 0, 6, .inl (fun _ => 0)))] : va_W))) := hw
  refine lv_aload_n hx hb (by decide +kernel) (k := 0) rfl (lv_at hl 0 rfl) ?_
  refine c_get (idx := 16) CX hw 0 rfl (C := RX6) (T := TX6) (N := 2) rfl 1 (by decide) (jtb_at 100 (by decide +kernel) (by decide +kernel)) rfl rfl (by decide +kernel) ?_
  refine lv_iconst (n := (-1)) (v := (-1)) hx hb (by decide +kernel) (by decide) ?_
  refine c_callS (idx := 20) (on := 6) (rest := []) (As := [.int (-1)]) (ws := ((q, .inr (5, [.ref q1, .ref q5])) :: cGrid cy 6 40 q1)) CX (cF_fill l 6 (by decide) (-1) (fun _ => 0)) hw (jtb_at 98 (by decide +kernel) (by decide +kernel)) (jtb_at 96 (by decide +kernel) (by decide +kernel)) (jtb_at 69 (by decide +kernel) (by decide +kernel)) (jtb_at 97 (by decide +kernel) (by decide +kernel)) (by decide +kernel) ⟨(Nat.le_of_ble_eq_true rfl), (Nat.le_of_ble_eq_true rfl)⟩ hl.1 (Nat.le_of_ble_eq_true rfl) (by decide +kernel) ⟨(Nat.le_of_ble_eq_true rfl), (Nat.le_of_ble_eq_true rfl)⟩ (fun a11 H9 l10 hw => ?_)
  have hw : cWd dC dI A s.heap H9 l10 ((q, .inr (5, [.ref q1, .ref q5])) :: (cGrid cy 6 40 q1 ++ ([(q5, .inl (cy 0, 6, .inl (fun j => if j < 6 then (-1) else 0)))] : va_W))) := hw
  refine W.widen (k := 8) (n := 252) (Nat.le_of_ble_eq_true rfl) (Nat.le_of_ble_eq_true rfl) ?_
  exact ret H9 l10 29 ls (fun k => ([q1, q5] : List Nat).getD k 0) hw (by decide +kernel)
noncomputable def bRows4 (cy : Nat → ClassId) (q : Nat) (ad : Nat → Nat) : va_W := (q, .inr (5, [.ref (ad 0), .ref (ad 1)])) :: (cGrid cy 4 60 (ad 0) ++ [(ad 1, .inl (cy 0, 4, .inl (fun j => if j < 4 then (-1) else 0)))])
set_option maxHeartbeats 4000000 in
set_option maxRecDepth 100000 in
theorem cB_Rows4 (l : Launch) : cMet l yX6_init cX6_init 3 { frames := 1, cells := 6, slots := 248, locals := 23 } [.int 4, .int 60] (fun _ => .inr (5, [.null, .null])) bRows4 := by
  refine cMet_of (by decide) 6 rfl (fun q => Nat.le_of_ble_eq_true rfl) ?_
  intro p e s m below meth c dC dI cy q A Q ls CX hnm hw hl ret
  have CX' := CX
  obtain ⟨hx, hb, hml, hown, hts, hX, hA⟩ := CX'
  have hl : lv_has ls 3 [(0, .ref q), (1, .int 4), (2, .int 60)] := hl
  have hw : cWd dC dI A s.heap s.heap [] ((q, .inr (5, [.null, .null])) :: []) := hw
  refine lv_aload_n hx hb (by decide +kernel) (k := 0) rfl (lv_at hl 0 rfl) ?_
  refine c_obj (idx := 3) CX (jtb_at 93 (by decide +kernel) (by decide +kernel)) (jtb_at 86 (by decide +kernel) (by decide +kernel)) (jtb_at 87 (by decide +kernel) (by decide +kernel)) hl.1 (by decide +kernel) (Nat.le_of_ble_eq_true rfl) (Nat.le_of_ble_eq_true rfl) ?_
  refine lv_aload_n hx hb (by decide +kernel) (k := 0) rfl (lv_at hl 0 rfl) ?_
  refine lv_iload_n hx hb (by decide +kernel) (k := 1) rfl (lv_at hl 1 rfl) ?_
  refine lv_iload_n hx hb (by decide +kernel) (k := 2) rfl (lv_at hl 2 rfl) ?_
  refine c_mna (idx := 9) CX hw (jtb_at 94 (by decide +kernel) (by decide +kernel)) (jtb_at 106 (by decide +kernel) (by decide +kernel)) (N := 4) (K := 60) (by decide) (by decide) (by decide) (by decide) (by decide) (by decide) (Nat.le_of_ble_eq_true rfl) (Nat.le_of_ble_eq_true rfl) (by decide +kernel) (fun q1 H2 hw => ?_)
  have hw : cWd dC dI A s.heap H2 [] ((q, .inr (5, [.null, .null])) :: cGrid cy 4 60 q1) := hw
  refine c_putF (idx := 11) CX hw hnm 0 rfl (C := RX6) (T := TX6) (N := 2) rfl 0 (by decide) (jtb_at 99 (by decide +kernel) (by decide +kernel)) rfl rfl rfl (ty := tyX6 0) (by decide +kernel) rfl rfl (Nat.le_of_ble_eq_true rfl) (by decide +kernel) (fun H3 l4 hw => ?_)
  have hw : cWd dC dI A s.heap H3 l4 ((q, .inr (5, [.ref q1, .null])) :: cGrid cy 4 60 q1) := hw
  refine lv_aload_n hx hb (by decide +kernel) (k := 0) rfl (lv_at hl 0 rfl) ?_
  refine lv_iload_n hx hb (by decide +kernel) (k := 1) rfl (lv_at hl 1 rfl) ?_
  refine c_arr CX hw (atype := .int) (ty := .int) 0 rfl (fun _ _ h => h) (jtb_at 106 (by decide +kernel) (by decide +kernel)) rfl (a0 := (4, .inl (fun _ => 0))) (fun cA => rfl) (by decide) (N' := 4) (by decide) (by decide) (Nat.le_of_ble_eq_true rfl) (Nat.le_of_ble_eq_true rfl) (by decide +kernel) (fun q5 H6 hw => ?_)
  have hw : cWd dC dI A s.heap H6 l4 ((q, .inr (5, [.ref q1, .null])) :: (cGrid cy 4 60 q1 ++ ([(q5, .inl (cy 0, 4, .inl (fun _ => 0)))] : va_W))) := hw
  refine c_putF (idx := 16) CX hw hnm 0 rfl (C := RX6) (T := TX6) (N := 2) rfl 1 (by decide) (jtb_at 100 (by decide +kernel) (by decide +kernel)) rfl rfl rfl (ty := tyX6 1) (by decide +kernel) rfl rfl (Nat.le_of_ble_eq_true rfl) (by decide +kernel) (fun H7 l8 hw => ?_)
  have hw : cWd dC dI A s.heap H7 l8 ((q, .inr (5, [.ref q1, .ref q5])) :: (cGrid cy 4 60 q1 ++ ([(q5, .inl (cy 0, 4, .inl (fun _ => 0)))] : va_W))) := hw
  refine lv_aload_n hx hb (by decide +kernel) (k := 0) rfl (lv_at hl 0 rfl) ?_
  refine c_get (idx := 16) CX hw 0 rfl (C := RX6) (T := TX6) (N := 2) rfl 1 (by decide) (jtb_at 100 (by decide +kernel) (by decide +kernel)) rfl rfl (by decide +kernel) ?_
  refine lv_iconst (n := (-1)) (v := (-1)) hx hb (by decide +kernel) (by decide) ?_
  refine c_callS (idx := 20) (on := 6) (rest := []) (As := [.int (-1)]) (ws := ((q, .inr (5, [.ref q1, .ref q5])) :: cGrid cy 4 60 q1)) CX (cF_fill l 4 (by decide) (-1) (fun _ => 0)) hw (jtb_at 98 (by decide +kernel) (by decide +kernel)) (jtb_at 96 (by decide +kernel) (by decide +kernel)) (jtb_at 69 (by decide +kernel) (by decide +kernel)) (jtb_at 97 (by decide +kernel) (by decide +kernel)) (by decide +kernel) ⟨(Nat.le_of_ble_eq_true rfl), (Nat.le_of_ble_eq_true rfl)⟩ hl.1 (Nat.le_of_ble_eq_true rfl) (by decide +kernel) ⟨(Nat.le_of_ble_eq_true rfl), (Nat.le_of_ble_eq_true rfl)⟩ (fun a11 H9 l10 hw => ?_)
  have hw : cWd dC dI A s.heap H9 l10 ((q, .inr (5, [.ref q1, .ref q5])) :: (cGrid cy 4 60 q1 ++ ([(q5, .inl (cy 0, 4, .inl (fun j => if j < 4 then (-1) else 0)))] : va_W))) := hw
  refine W.widen (k := 6) (n := 248) (Nat.le_of_ble_eq_true rfl) (Nat.le_of_ble_eq_true rfl) ?_
  exact ret H9 l10 29 ls (fun k => ([q1, q5] : List Nat).getD k 0) hw (by decide +kernel)
