set_option maxHeartbeats 4000000 in
set_option maxRecDepth 100000 in
theorem c_X0_placeAt (l : Launch) (D : va_G) (cI cB cO : ClassId) (Go : Nat) (Gp : Nat → Nat) (Gs : Nat → Int32) (Ga : Nat → Nat → Int32) (a0 : Int32) (a1 : Int32) (rv : Int32) (sz : Nat) (h : fX0_placeAt Gs a0 a1 = some rv) : Met l yX0_placeAt wsX0_placeAt ({ frames := 0, cells := 0, slots := 0, locals := 0 } : Room) (va_Pc [.ref Go, .int a0, .int a1] (zPre D (zTY cI cB cO) (zwG cI Go Gp Gs Ga) sz)) (va_Qi (fun r (_ : Unit) => r = rv) (fun _ => zPost D (zTY cI cB cO) (zwG cI Go Gp Gs Ga) (va_A (zwG cI Go Gp Gs Ga) sz)) (va_A (zwG cI Go Gp Gs Ga) sz)) 0 0 (va_A (zwG cI Go Gp Gs Ga) sz) := by
  unfold fX0_placeAt at h
  refine zmet_i (cc := cX0_placeAt) (maxL := 4) (by decide) rfl (Nat.le_of_ble_eq_true rfl) rfl rfl ?_
  intro p e s m args below meth c R Q A ls hx hb hts hown hml hK hP hD hE hA hS hRf hRl hl hq
  have hown : s.vm.findClass RX0 = some m.cls := hown
  have hl : lv_has ls 4 [(0, .ref Go), (1, .int a0), (2, .int a1)] := hl
  have inX0 : ∀ w ∈ u_ws RX0 TX0 4, w ∈ wsX0_placeAt := by decide +kernel
  have lk15 : (Cond.fieldLink RX0 15 "PegField$Grid" "rows" "I").before args s = true := hts _ (by decide +kernel)
  have lk19 : (Cond.fieldLink RX0 19 "PegField$Grid" "columns" "I").before args s = true := hts _ (by decide +kernel)
  refine lv_iload_n hx hb dX0_placeAt_0 rfl (lv_at hl 1 rfl) ?_
  obtain ⟨v29, j2, h⟩ := zb1_s h
  have K29 : ∀ (H : Heap) (locs : List Loc) (ls : Array Slot), va_P D vwCl (zwG cI Go Gp Gs Ga) H → va_D A (zwG cI Go Gp Gs Ga) → va_S A s.heap H locs → lv_has ls 4 [(0, .ref Go), (1, .int a0), (2, .int a1)] → W p l e R s m args below meth c H locs 0 0 Q (F0 m 29 ls [.int v29]) := by
    intro H locs ls hP hD hS hl
    refine lv_istore_n (lv' := [(3, .int v29), (0, .ref Go), (1, .int a0), (2, .int a1)]) hx hb dX0_placeAt_29 rfl hl (by decide) rfl (fun ls hl => ?_)
    refine lv_iload_n hx hb dX0_placeAt_30 rfl (lv_at hl 0 rfl) ?_
    refine lv_if_eq (tgt := 45) hx hb dX0_placeAt_31 (by decide) (fun c1 => ?_) (fun c1 => ?_)
    · have h := zif_t c1 h
      refine lv_iconst (v := (-1 : Int32)) hx hb dX0_placeAt_45 (by decide) ?_
      cases zend h
      exact hq hP hD hS dX0_placeAt_46
    · have h := zif_f c1 h
      refine lv_iload_n hx hb dX0_placeAt_34 rfl (lv_at hl 2 rfl) ?_
      refine lv_aload_n hx hb dX0_placeAt_35 rfl (lv_at hl 1 rfl) ?_
      refine va_get (D := D) (ci := 0) (v := .int (Gs 1)) (C := RX0) (T := TX0) (N := 4) hx hb hts inX0 hown hK hP 0 rfl rfl 1 (by decide) lk19 (fun _ h9 => h9) rfl dX0_placeAt_36 ?_
      refine lv_imul hx hb dX0_placeAt_39 ?_
      refine lv_iload_n hx hb dX0_placeAt_40 rfl (lv_at hl 3 rfl) ?_
      refine lv_iadd hx hb dX0_placeAt_41 ?_
      refine lv_goto (tgt := 46) hx hb dX0_placeAt_42 (by decide) ?_
      cases zend h
      exact hq hP hD hS dX0_placeAt_46
  clear h
  have h := j2
  clear j2
  obtain ⟨J28, eJ28, h⟩ := zjn_s h
  have K28 : ∀ (u : Unit), J28 u = some v29 → ∀ (H : Heap) (locs : List Loc) (ls : Array Slot), va_P D vwCl (zwG cI Go Gp Gs Ga) H → va_D A (zwG cI Go Gp Gs Ga) → va_S A s.heap H locs → lv_has ls 4 [(0, .ref Go), (1, .int a0), (2, .int a1)] → W p l e R s m args below meth c H locs 0 0 Q (F0 m 28 ls []) := by
    subst eJ28
    intro u h H locs ls hP hD hS hl
    refine lv_iconst (v := (0 : Int32)) hx hb dX0_placeAt_28 (by decide) ?_
    cases zend h
    exact K29 _ _ _ hP hD hS (lv_sub hl [0, 1, 2] rfl)
  clear eJ28
  refine lv_if_lt (tgt := 28) hx hb dX0_placeAt_1 (by decide) (fun c3 => ?_) (fun c3 => ?_)
  · have h := zif_t c3 h
    exact K28 _ h _ _ _ hP hD hS (lv_sub hl [0, 1, 2] rfl)
  · have h := zif_f c3 h
    refine lv_iload_n hx hb dX0_placeAt_4 rfl (lv_at hl 1 rfl) ?_
    refine lv_aload_n hx hb dX0_placeAt_5 rfl (lv_at hl 0 rfl) ?_
    refine va_get (D := D) (ci := 0) (v := .int (Gs 0)) (C := RX0) (T := TX0) (N := 4) hx hb hts inX0 hown hK hP 0 rfl rfl 0 (by decide) lk15 (fun _ h9 => h9) rfl dX0_placeAt_6 ?_
    refine lv_icmp_ge (tgt := 28) hx hb dX0_placeAt_9 (by decide) (fun c4 => ?_) (fun c4 => ?_)
    · have h := zif_t c4 h
      exact K28 _ h _ _ _ hP hD hS (lv_sub hl [0, 1, 2] rfl)
    · have h := zif_f c4 h
      refine lv_iload_n hx hb dX0_placeAt_12 rfl (lv_at hl 2 rfl) ?_
      refine lv_if_lt (tgt := 28) hx hb dX0_placeAt_13 (by decide) (fun c5 => ?_) (fun c5 => ?_)
      · have h := zif_t c5 h
        exact K28 _ h _ _ _ hP hD hS (lv_sub hl [0, 1, 2] rfl)
      · have h := zif_f c5 h
        refine lv_iload_n hx hb dX0_placeAt_16 rfl (lv_at hl 2 rfl) ?_
        refine lv_aload_n hx hb dX0_placeAt_17 rfl (lv_at hl 0 rfl) ?_
        refine va_get (D := D) (ci := 0) (v := .int (Gs 1)) (C := RX0) (T := TX0) (N := 4) hx hb hts inX0 hown hK hP 0 rfl rfl 1 (by decide) lk19 (fun _ h9 => h9) rfl dX0_placeAt_18 ?_
        refine lv_icmp_ge (tgt := 28) hx hb dX0_placeAt_21 (by decide) (fun c6 => ?_) (fun c6 => ?_)
        · have h := zif_t c6 h
          exact K28 _ h _ _ _ hP hD hS (lv_sub hl [0, 1, 2] rfl)
        · have h := zif_f c6 h
          refine lv_iconst (v := (1 : Int32)) hx hb dX0_placeAt_24 (by decide) ?_
          refine lv_goto (tgt := 29) hx hb dX0_placeAt_25 (by decide) ?_
          cases zend h
          exact K29 _ _ _ hP hD hS (lv_sub hl [0, 1, 2] rfl)
set_option maxHeartbeats 4000000 in
set_option maxRecDepth 100000 in
theorem c_X0_lay (l : Launch) (D : va_G) (cI cB cO : ClassId) (Go : Nat) (Gp : Nat → Nat) (Gs : Nat → Int32) (Ga : Nat → Nat → Int32) (a0 : Int32) (a1 : Int32) (Gs' : Nat → Int32) (Ga' : Nat → Nat → Int32) (sz : Nat) (h : fX0_lay Gs Ga a0 a1 = some (Gs', Ga')) : Met l yX0_lay wsX0_lay ({ frames := 1, cells := 0, slots := 0, locals := 23 } : Room) (va_Pc [.ref Go, .int a0, .int a1] (zPre D (zTY cI cB cO) (zwG cI Go Gp Gs Ga) sz)) (va_Qv (fun (_ : Unit) => True) (fun _ => zPost D (zTY cI cB cO) (zwG cI Go Gp Gs' Ga') (va_A (zwG cI Go Gp Gs Ga) sz)) (va_A (zwG cI Go Gp Gs Ga) sz)) 0 0 (va_A (zwG cI Go Gp Gs Ga) sz) := by
  unfold fX0_lay at h
  refine zmet_v (cc := cX0_lay) (maxL := 7) (by decide) rfl (Nat.le_of_ble_eq_true rfl) rfl rfl ?_
  intro p e s m args below meth c R Q A ls hx hb hts hown hml hK hP hD hE hA hS hRf hRl hl hq
  have hown : s.vm.findClass RX0 = some m.cls := hown
  have hl : lv_has ls 7 [(0, .ref Go), (1, .int a0), (2, .int a1)] := hl
  obtain ⟨tCOLUMN_STEPS, zzCOLUMN_STEPS, ztCOLUMN_STEPS⟩ := hE.1.2.2.2.2.1
  obtain ⟨tROW_STEPS, zzROW_STEPS, ztROW_STEPS⟩ := hE.1.2.2.2.1
  have inX0 : ∀ w ∈ u_ws RX0 TX0 4, w ∈ wsX0_lay := by decide +kernel
  have lk15 : (Cond.fieldLink RX0 15 "PegField$Grid" "rows" "I").before args s = true := hts _ (by decide +kernel)
  have lk19 : (Cond.fieldLink RX0 19 "PegField$Grid" "columns" "I").before args s = true := hts _ (by decide +kernel)
  have lk22 : (Cond.fieldLink RX0 22 "PegField$Grid" "places" "I").before args s = true := hts _ (by decide +kernel)
  have lk9 : (Cond.fieldLink RX0 9 "PegField$Grid" "beside" "[I").before args s = true := hts _ (by decide +kernel)
  have lk25 : (Cond.fieldLinkNest RX0 25 "PegField" "ROW_STEPS" "[I" "PegField").before args s = true := hE.2.use (by decide +kernel)
  have lk28 : (Cond.fieldLinkNest RX0 28 "PegField" "COLUMN_STEPS" "[I" "PegField").before args s = true := hE.2.use (by decide +kernel)
  refine lv_iload_n hx hb dX0_lay_0 rfl (lv_at hl 1 rfl) ?_
  obtain ⟨v23, j21, h⟩ := zb1_s h
  have K23 : ∀ (H : Heap) (locs : List Loc) (ls : Array Slot), va_P D vwCl (zwG cI Go Gp Gs Ga) H → va_D A (zwG cI Go Gp Gs Ga) → va_S A s.heap H locs → lv_has ls 7 [(0, .ref Go), (1, .int a0), (2, .int a1)] → W p l e R s m args below meth c H locs 0 0 Q (F0 m 23 ls [.int v23]) := by
    intro H locs ls hP hD hS hl
    refine lv_istore_n (lv' := [(3, .int v23), (0, .ref Go), (1, .int a0), (2, .int a1)]) hx hb dX0_lay_23 rfl hl (by decide) rfl (fun ls hl => ?_)
    refine lv_iload_n hx hb dX0_lay_24 rfl (lv_at hl 0 rfl) ?_
    refine lv_if_eq (tgt := 36) hx hb dX0_lay_25 (by decide) (fun c1 => ?_) (fun c1 => ?_)
    · have h := zif_t c1 h
      cases zend h
      exact hq hP hD hS dX0_lay_36
    · have h := zif_f c1 h
      refine lv_iload_n hx hb dX0_lay_28 rfl (lv_at hl 2 rfl) ?_
      refine lv_iload_n hx hb dX0_lay_29 rfl (lv_at hl 3 rfl) ?_
      refine lv_imul hx hb dX0_lay_30 ?_
      refine lv_bipush (v := (12 : Int32)) hx hb dX0_lay_31 (by decide) ?_
      refine lv_icmp_le (tgt := 37) hx hb dX0_lay_33 (by decide) (fun c2 => ?_) (fun c2 => ?_)
      · have h := zif_t c2 h
        refine lv_aload_n hx hb dX0_lay_37 rfl (lv_at hl 1 rfl) ?_
        refine lv_iload_n hx hb dX0_lay_38 rfl (lv_at hl 2 rfl) ?_
        refine va_put (D := D) (ci := 0) (v := .int a0) (ty := .int) (C := RX0) (T := TX0) (N := 4) hx hb hts inX0 tyX0 tyX0_ok nmX0 hown hK hP hD hS 0 rfl rfl 0 (by decide) lk15 (fun _ h9 => h9) rfl (by decide +kernel) rfl rfl (Nat.le_of_ble_eq_true rfl) dX0_lay_39 (fun H locs hP hD hS => ?_)
        have hset : ∀ v9 : Int32, (zwG cI Go Gp Gs Ga).set 0 (Go, .inr (0, ([.int (Gs 0), .int (Gs 1), .int (Gs 2), .ref (Gp 3)] : List Value).set 0 (.int v9))) = (zwG cI Go Gp (upd Gs 0 v9) Ga) := fun _ => rfl
        obtain ⟨Gs_3, eGs_3, hP, hD⟩ : ∃ y9, y9 = (upd Gs 0 a0) ∧ va_P D vwCl (zwG cI Go Gp y9 Ga) H ∧ va_D A (zwG cI Go Gp y9 Ga) := ⟨_, rfl, zsetP (hset _) hP, zsetD (hset _) hD⟩
        have h := zlt_s h eGs_3
        clear hset
        refine lv_aload_n hx hb dX0_lay_42 rfl (lv_at hl 1 rfl) ?_
        refine lv_iload_n hx hb dX0_lay_43 rfl (lv_at hl 3 rfl) ?_
        refine va_put (D := D) (ci := 0) (v := .int a1) (ty := .int) (C := RX0) (T := TX0) (N := 4) hx hb hts inX0 tyX0 tyX0_ok nmX0 hown hK hP hD hS 0 rfl rfl 1 (by decide) lk19 (fun _ h9 => h9) rfl (by decide +kernel) rfl rfl (Nat.le_of_ble_eq_true rfl) dX0_lay_44 (fun H locs hP hD hS => ?_)
        have hset : ∀ v9 : Int32, (zwG cI Go Gp Gs_3 Ga).set 0 (Go, .inr (0, ([.int (Gs_3 0), .int (Gs_3 1), .int (Gs_3 2), .ref (Gp 3)] : List Value).set 1 (.int v9))) = (zwG cI Go Gp (upd Gs_3 1 v9) Ga) := fun _ => rfl
        obtain ⟨Gs_4, eGs_4, hP, hD⟩ : ∃ y9, y9 = (upd Gs_3 1 a1) ∧ va_P D vwCl (zwG cI Go Gp y9 Ga) H ∧ va_D A (zwG cI Go Gp y9 Ga) := ⟨_, rfl, zsetP (hset _) hP, zsetD (hset _) hD⟩
        have h := zlt_s h eGs_4
        clear hset
        refine lv_aload_n hx hb dX0_lay_47 rfl (lv_at hl 1 rfl) ?_
        refine lv_iload_n hx hb dX0_lay_48 rfl (lv_at hl 2 rfl) ?_
        refine lv_iload_n hx hb dX0_lay_49 rfl (lv_at hl 3 rfl) ?_
        refine lv_imul hx hb dX0_lay_50 ?_
        refine va_put (D := D) (ci := 0) (v := .int (a0 * a1)) (ty := .int) (C := RX0) (T := TX0) (N := 4) hx hb hts inX0 tyX0 tyX0_ok nmX0 hown hK hP hD hS 0 rfl rfl 2 (by decide) lk22 (fun _ h9 => h9) rfl (by decide +kernel) rfl rfl (Nat.le_of_ble_eq_true rfl) dX0_lay_51 (fun H locs hP hD hS => ?_)
        have hset : ∀ v9 : Int32, (zwG cI Go Gp Gs_4 Ga).set 0 (Go, .inr (0, ([.int (Gs_4 0), .int (Gs_4 1), .int (Gs_4 2), .ref (Gp 3)] : List Value).set 2 (.int v9))) = (zwG cI Go Gp (upd Gs_4 2 v9) Ga) := fun _ => rfl
        obtain ⟨Gs_5, eGs_5, hP, hD⟩ : ∃ y9, y9 = (upd Gs_4 2 (a0 * a1)) ∧ va_P D vwCl (zwG cI Go Gp y9 Ga) H ∧ va_D A (zwG cI Go Gp y9 Ga) := ⟨_, rfl, zsetP (hset _) hP, zsetD (hset _) hD⟩
        have h := zlt_s h eGs_5
        clear hset
        refine lv_iconst (v := (0 : Int32)) hx hb dX0_lay_54 (by decide) ?_
        refine lv_istore (lv' := [(4, .int (0 : Int32)), (3, .int v23), (0, .ref Go), (1, .int a0), (2, .int a1)]) hx hb dX0_lay_55 hl (by decide) rfl (fun ls hl => ?_)
        obtain ⟨Ga_149x57, i20, h⟩ := zb1_s h
        have KX149 : ∀ (H : Heap) (locs : List Loc) (ls : Array Slot), va_P D vwCl (zwG cI Go Gp Gs_5 Ga_149x57) H → va_D A (zwG cI Go Gp Gs_5 Ga_149x57) → va_S A s.heap H locs → lv_has ls 7 [] → W p l e R s m args below meth c H locs 0 0 Q (F0 m 149 ls []) := by
          intro H locs ls hP hD hS hl
          cases zend h
          exact hq hP hD hS dX0_lay_149
        clear h
        refine zi2_ind (P := (fun (x4_57h : Int32) (Ga_57h : Nat → Nat → Int32) => ∀ (H : Heap) (locs : List Loc) (ls : Array Slot), va_P D vwCl (zwG cI Go Gp Gs_5 Ga_57h) H → va_D A (zwG cI Go Gp Gs_5 Ga_57h) → va_S A s.heap H locs → lv_has ls 7 [(0, .ref Go), (4, .int x4_57h)] → W p l e R s m args below meth c H locs 0 0 Q (F0 m 57 ls []))) ?_ i20 _ _ _ hP hD hS (lv_sub hl [2, 0] rfl)
        clear i20 hP hD hS hl
        intro x4_57h Ga_57h z57 h zl57 zr57 H locs ls hP hD hS hl
        refine lv_iload hx hb dX0_lay_57 (lv_at hl 1 rfl) ?_
        refine lv_aload_n hx hb dX0_lay_59 rfl (lv_at hl 0 rfl) ?_
        refine va_get (D := D) (ci := 0) (v := .int (Gs_5 0)) (C := RX0) (T := TX0) (N := 4) hx hb hts inX0 hown hK hP 0 rfl rfl 0 (by decide) lk15 (fun _ h9 => h9) rfl dX0_lay_60 ?_
        refine lv_icmp_ge (tgt := 149) hx hb dX0_lay_63 (by decide) (fun c7 => ?_) (fun c7 => ?_)
        · have h := zif_t c7 h
          cases zr57 _ (zend h).symm
          exact KX149 _ _ _ hP hD hS (lv_sub hl [] rfl)
        · have h := zif_f c7 h
          refine lv_iconst (v := (0 : Int32)) hx hb dX0_lay_66 (by decide) ?_
          refine lv_istore (lv' := [(5, .int (0 : Int32)), (0, .ref Go), (4, .int x4_57h)]) hx hb dX0_lay_67 hl (by decide) rfl (fun ls hl => ?_)
          obtain ⟨Ga_143x69, i19, h⟩ := zb1_s h
          have KX143 : ∀ (H : Heap) (locs : List Loc) (ls : Array Slot), va_P D vwCl (zwG cI Go Gp Gs_5 Ga_143x69) H → va_D A (zwG cI Go Gp Gs_5 Ga_143x69) → va_S A s.heap H locs → lv_has ls 7 [(0, .ref Go), (4, .int x4_57h)] → W p l e R s m args below meth c H locs 0 0 Q (F0 m 143 ls []) := by
            intro H locs ls hP hD hS hl
            refine lv_iinc (v := (x4_57h + (1 : Int32))) (lv' := [(4, .int (x4_57h + (1 : Int32))), (0, .ref Go)]) hx hb dX0_lay_143 hl (k := 1) rfl rfl (by decide) rfl (fun ls hl => ?_)
            refine lv_goto (tgt := 57) hx hb dX0_lay_146 (by decide) ?_
            exact zl57 _ _ (zend h).symm _ _ _ hP hD hS (lv_sub hl [1, 0] rfl)
          clear h
          refine zi2_ind (P := (fun (x5_69h : Int32) (Ga_69h : Nat → Nat → Int32) => ∀ (H : Heap) (locs : List Loc) (ls : Array Slot), va_P D vwCl (zwG cI Go Gp Gs_5 Ga_69h) H → va_D A (zwG cI Go Gp Gs_5 Ga_69h) → va_S A s.heap H locs → lv_has ls 7 [(0, .ref Go), (4, .int x4_57h), (5, .int x5_69h)] → W p l e R s m args below meth c H locs 0 0 Q (F0 m 69 ls []))) ?_ i19 _ _ _ hP hD hS (lv_sub hl [1, 2, 0] rfl)
          clear i19 hP hD hS hl
          intro x5_69h Ga_69h z69 h zl69 zr69 H locs ls hP hD hS hl
          refine lv_iload hx hb dX0_lay_69 (lv_at hl 2 rfl) ?_
          refine lv_aload_n hx hb dX0_lay_71 rfl (lv_at hl 0 rfl) ?_
          refine va_get (D := D) (ci := 0) (v := .int (Gs_5 1)) (C := RX0) (T := TX0) (N := 4) hx hb hts inX0 hown hK hP 0 rfl rfl 1 (by decide) lk19 (fun _ h9 => h9) rfl dX0_lay_72 ?_
          refine lv_icmp_ge (tgt := 143) hx hb dX0_lay_75 (by decide) (fun c9 => ?_) (fun c9 => ?_)
          · have h := zif_t c9 h
            cases zr69 _ (zend h).symm
            exact KX143 _ _ _ hP hD hS (lv_sub hl [0, 1] rfl)
          · have h := zif_f c9 h
            refine lv_iconst (v := (0 : Int32)) hx hb dX0_lay_78 (by decide) ?_
            refine lv_istore (lv' := [(6, .int (0 : Int32)), (0, .ref Go), (4, .int x4_57h), (5, .int x5_69h)]) hx hb dX0_lay_79 hl (by decide) rfl (fun ls hl => ?_)
            obtain ⟨Ga_137x81, i18, h⟩ := zb1_s h
            have KX137 : ∀ (H : Heap) (locs : List Loc) (ls : Array Slot), va_P D vwCl (zwG cI Go Gp Gs_5 Ga_137x81) H → va_D A (zwG cI Go Gp Gs_5 Ga_137x81) → va_S A s.heap H locs → lv_has ls 7 [(0, .ref Go), (4, .int x4_57h), (5, .int x5_69h)] → W p l e R s m args below meth c H locs 0 0 Q (F0 m 137 ls []) := by
              intro H locs ls hP hD hS hl
              refine lv_iinc (v := (x5_69h + (1 : Int32))) (lv' := [(5, .int (x5_69h + (1 : Int32))), (0, .ref Go), (4, .int x4_57h)]) hx hb dX0_lay_137 hl (k := 2) rfl rfl (by decide) rfl (fun ls hl => ?_)
              refine lv_goto (tgt := 69) hx hb dX0_lay_140 (by decide) ?_
              exact zl69 _ _ (zend h).symm _ _ _ hP hD hS (lv_sub hl [1, 2, 0] rfl)
            clear h
            refine zi2_ind (P := (fun (x6_81h : Int32) (Ga_81h : Nat → Nat → Int32) => ∀ (H : Heap) (locs : List Loc) (ls : Array Slot), va_P D vwCl (zwG cI Go Gp Gs_5 Ga_81h) H → va_D A (zwG cI Go Gp Gs_5 Ga_81h) → va_S A s.heap H locs → lv_has ls 7 [(0, .ref Go), (4, .int x4_57h), (5, .int x5_69h), (6, .int x6_81h)] → W p l e R s m args below meth c H locs 0 0 Q (F0 m 81 ls []))) ?_ i18 _ _ _ hP hD hS (lv_sub hl [1, 2, 3, 0] rfl)
            clear i18 hP hD hS hl
            intro x6_81h Ga_81h z81 h zl81 zr81 H locs ls hP hD hS hl
            refine lv_iload hx hb dX0_lay_81 (lv_at hl 3 rfl) ?_
            refine lv_bipush (v := (8 : Int32)) hx hb dX0_lay_83 (by decide) ?_
            refine lv_icmp_ge (tgt := 137) hx hb dX0_lay_85 (by decide) (fun c11 => ?_) (fun c11 => ?_)
            · have h := zif_t c11 h
              cases zr81 _ (zend h).symm
              exact KX137 _ _ _ hP hD hS (lv_sub hl [0, 1, 2] rfl)
            · have h := zif_f c11 h
              refine lv_aload_n hx hb dX0_lay_88 rfl (lv_at hl 0 rfl) ?_
              refine va_get (D := D) (ci := 0) (v := .ref (Gp 3)) (C := RX0) (T := TX0) (N := 4) hx hb hts inX0 hown hK hP 0 rfl rfl 3 (by decide) lk9 (fun _ h9 => h9) rfl dX0_lay_89 ?_
              refine lv_iload hx hb dX0_lay_92 (lv_at hl 1 rfl) ?_
              refine lv_aload_n hx hb dX0_lay_94 rfl (lv_at hl 0 rfl) ?_
              refine va_get (D := D) (ci := 0) (v := .int (Gs_5 1)) (C := RX0) (T := TX0) (N := 4) hx hb hts inX0 hown hK hP 0 rfl rfl 1 (by decide) lk19 (fun _ h9 => h9) rfl dX0_lay_95 ?_
              refine lv_imul hx hb dX0_lay_98 ?_
              refine lv_iload hx hb dX0_lay_99 (lv_at hl 2 rfl) ?_
              refine lv_iadd hx hb dX0_lay_101 ?_
              refine lv_bipush (v := (8 : Int32)) hx hb dX0_lay_102 (by decide) ?_
              refine lv_imul hx hb dX0_lay_104 ?_
              refine lv_iload hx hb dX0_lay_105 (lv_at hl 3 rfl) ?_
              refine lv_iadd hx hb dX0_lay_107 ?_
              refine lv_aload_n hx hb dX0_lay_108 rfl (lv_at hl 0 rfl) ?_
              refine lv_iload hx hb dX0_lay_109 (lv_at hl 1 rfl) ?_
              refine va_getsN hx hb zzROW_STEPS hS hown lk25 (fun _ h9 => h9) dX0_lay_111 ?_
              refine lv_iload hx hb dX0_lay_114 (lv_at hl 3 rfl) ?_
              obtain ⟨z12, h⟩ := zck_s h
              refine va_ti (v := .int (zRS (x6_81h).toNatClampNeg)) hx hb ztROW_STEPS hS (zin_s z12) rfl dX0_lay_116 ?_
              refine lv_iadd hx hb dX0_lay_117 ?_
              refine lv_iload hx hb dX0_lay_118 (lv_at hl 2 rfl) ?_
              refine va_getsN hx hb zzCOLUMN_STEPS hS hown lk28 (fun _ h9 => h9) dX0_lay_120 ?_
              refine lv_iload hx hb dX0_lay_123 (lv_at hl 3 rfl) ?_
              obtain ⟨z13, h⟩ := zck_s h
              refine va_ti (v := .int (zCS (x6_81h).toNatClampNeg)) hx hb ztCOLUMN_STEPS hS (zin_s z13) rfl dX0_lay_125 ?_
              refine lv_iadd hx hb dX0_lay_126 ?_
              obtain ⟨r14, g15, h⟩ := zb1_s h
              have hFc := va_free (wc := (zwG cI Go Gp Gs_5 Ga_81h)) hD hS hA [0, 1] (zC_0 (cI := cI) (cB := cB) (cO := cO))
              refine zcp_i (va_runV (As := [.int (x4_57h + (zRS (x6_81h).toNatClampNeg)), .int (x5_69h + (zCS (x6_81h).toNatClampNeg))]) (rest := [.int ((((x4_57h * (Gs_5 1)) + x5_69h) * (8 : Int32)) + x6_81h), .ref (Gp 3)]) ⟨hx, hb, hml, hown, hts⟩ (c_X0_placeAt l D cI cB cO Go Gp Gs_5 Ga_81h (x4_57h + (zRS (x6_81h).toNatClampNeg)) (x5_69h + (zCS (x6_81h).toNatClampNeg)) _ _ g15) (cwV 2 hts gX0_lay_X0_placeAt rfl rfl rfl kV_X0_placeAt ⟨Nat.le_trans (Nat.le_of_ble_eq_true rfl) hRf, Nat.le_trans (Nat.le_of_ble_eq_true rfl) hRl⟩) (zpreV hK hP hD hS hE hFc [0, 1] (zC_0 (cI := cI) (cB := cB) (cO := cO)) rfl 0 (ci := 0) rfl rfl [.int (x4_57h + (zRS (x6_81h).toNatClampNeg)), .int (x5_69h + (zCS (x6_81h).toNatClampNeg))]) rfl rfl hl.1 rfl (lv_room (Nat.le_of_ble_eq_true rfl)) dX0_lay_127 ⟨Nat.zero_le _, Nat.zero_le _⟩) hP hD hS hFc [0, 1] (zC_0 (cI := cI) (cB := cB) (cO := cO)) (fun H locs hP hS => ?_)
              clear hFc
              obtain ⟨z16, h⟩ := zck_s h
              refine va_iast hx hb hK hP hD hS 1 0 rfl rfl (zin_s z16) dX0_lay_130 (fun H locs hP hD hS => ?_)
              have hset : ∀ v9 : Nat → Int32, (zwG cI Go Gp Gs_5 Ga_81h).set 1 ((Gp 3), .inl (cI, 96, .inl v9)) = (zwG cI Go Gp Gs_5 (va_up Ga_81h 3 v9)) := fun _ => rfl
              obtain ⟨Ga_17, eGa_17, hP, hD⟩ : ∃ y9, y9 = (va_up Ga_81h 3 (upd (Ga_81h 3) (((((x4_57h * (Gs_5 1)) + x5_69h) * (8 : Int32)) + x6_81h)).toNatClampNeg r14)) ∧ va_P D vwCl (zwG cI Go Gp Gs_5 y9) H ∧ va_D A (zwG cI Go Gp Gs_5 y9) := ⟨_, rfl, zsetP (hset _) hP, zsetD (hset _) hD⟩
              have h := zlt_s h eGa_17
              clear hset
              refine lv_iinc (v := (x6_81h + (1 : Int32))) (lv' := [(6, .int (x6_81h + (1 : Int32))), (0, .ref Go), (4, .int x4_57h), (5, .int x5_69h)]) hx hb dX0_lay_131 hl (k := 3) rfl rfl (by decide) rfl (fun ls hl => ?_)
              refine lv_goto (tgt := 81) hx hb dX0_lay_134 (by decide) ?_
              exact zl81 _ _ (zend h).symm _ _ _ hP hD hS (lv_sub hl [1, 2, 3, 0] rfl)
      · have h := zif_f c2 h
        cases zend h
        exact hq hP hD hS dX0_lay_36
  clear h
  have h := j21
  clear j21
  obtain ⟨J22, eJ22, h⟩ := zjn_s h
  have K22 : ∀ (u : Unit), J22 u = some v23 → ∀ (H : Heap) (locs : List Loc) (ls : Array Slot), va_P D vwCl (zwG cI Go Gp Gs Ga) H → va_D A (zwG cI Go Gp Gs Ga) → va_S A s.heap H locs → lv_has ls 7 [(0, .ref Go), (1, .int a0), (2, .int a1)] → W p l e R s m args below meth c H locs 0 0 Q (F0 m 22 ls []) := by
    subst eJ22
    intro u h H locs ls hP hD hS hl
    refine lv_iconst (v := (0 : Int32)) hx hb dX0_lay_22 (by decide) ?_
    cases zend h
    exact K23 _ _ _ hP hD hS (lv_sub hl [0, 1, 2] rfl)
  clear eJ22
  refine lv_if_le (tgt := 22) hx hb dX0_lay_1 (by decide) (fun c22 => ?_) (fun c22 => ?_)
  · have h := zif_t c22 h
    exact K22 _ h _ _ _ hP hD hS (lv_sub hl [0, 1, 2] rfl)
  · have h := zif_f c22 h
    refine lv_iload_n hx hb dX0_lay_4 rfl (lv_at hl 1 rfl) ?_
    refine lv_iconst (v := (4 : Int32)) hx hb dX0_lay_5 (by decide) ?_
    refine lv_icmp_gt (tgt := 22) hx hb dX0_lay_6 (by decide) (fun c23 => ?_) (fun c23 => ?_)
    · have h := zif_t c23 h
      exact K22 _ h _ _ _ hP hD hS (lv_sub hl [0, 1, 2] rfl)
    · have h := zif_f c23 h
      refine lv_iload_n hx hb dX0_lay_9 rfl (lv_at hl 2 rfl) ?_
      refine lv_if_le (tgt := 22) hx hb dX0_lay_10 (by decide) (fun c24 => ?_) (fun c24 => ?_)
      · have h := zif_t c24 h
        exact K22 _ h _ _ _ hP hD hS (lv_sub hl [0, 1, 2] rfl)
      · have h := zif_f c24 h
        refine lv_iload_n hx hb dX0_lay_13 rfl (lv_at hl 2 rfl) ?_
        refine lv_iconst (v := (4 : Int32)) hx hb dX0_lay_14 (by decide) ?_
        refine lv_icmp_gt (tgt := 22) hx hb dX0_lay_15 (by decide) (fun c25 => ?_) (fun c25 => ?_)
        · have h := zif_t c25 h
          exact K22 _ h _ _ _ hP hD hS (lv_sub hl [0, 1, 2] rfl)
        · have h := zif_f c25 h
          refine lv_iconst (v := (1 : Int32)) hx hb dX0_lay_18 (by decide) ?_
          refine lv_goto (tgt := 23) hx hb dX0_lay_19 (by decide) ?_
          cases zend h
          exact K23 _ _ _ hP hD hS (lv_sub hl [0, 1, 2] rfl)
set_option maxHeartbeats 4000000 in
set_option maxRecDepth 100000 in
theorem c_X0_has (l : Launch) (D : va_G) (cI cB cO : ClassId) (Go : Nat) (Gp : Nat → Nat) (Gs : Nat → Int32) (Ga : Nat → Nat → Int32) (a0 : Int32) (rv : Int32) (sz : Nat) (h : fX0_has Gs a0 = some rv) : Met l yX0_has wsX0_has ({ frames := 0, cells := 0, slots := 0, locals := 0 } : Room) (va_Pc [.ref Go, .int a0] (zPre D (zTY cI cB cO) (zwG cI Go Gp Gs Ga) sz)) (va_Qi (fun r (_ : Unit) => r = rv) (fun _ => zPost D (zTY cI cB cO) (zwG cI Go Gp Gs Ga) (va_A (zwG cI Go Gp Gs Ga) sz)) (va_A (zwG cI Go Gp Gs Ga) sz)) 0 0 (va_A (zwG cI Go Gp Gs Ga) sz) := by
  unfold fX0_has at h
  refine zmet_z (cc := cX0_has) (maxL := 2) (by decide) rfl (Nat.le_of_ble_eq_true rfl) rfl rfl ?_
  intro p e s m args below meth c R Q A ls hx hb hts hown hml hK hP hD hE hA hS hRf hRl hl hq
  have hown : s.vm.findClass RX0 = some m.cls := hown
  have hl : lv_has ls 2 [(0, .ref Go), (1, .int a0)] := hl
  have inX0 : ∀ w ∈ u_ws RX0 TX0 4, w ∈ wsX0_has := by decide +kernel
  have lk22 : (Cond.fieldLink RX0 22 "PegField$Grid" "places" "I").before args s = true := hts _ (by decide +kernel)
  refine lv_iload_n hx hb dX0_has_0 rfl (lv_at hl 1 rfl) ?_
  refine lv_if_lt (tgt := 22) hx hb dX0_has_1 (by decide) (fun c1 => ?_) (fun c1 => ?_)
  · have h := zif_t c1 h
    refine lv_iconst (v := (0 : Int32)) hx hb dX0_has_22 (by decide) ?_
    cases zend h
    exact hq hP hD hS (by decide) dX0_has_23
  · have h := zif_f c1 h
    refine lv_iload_n hx hb dX0_has_4 rfl (lv_at hl 1 rfl) ?_
    refine lv_bipush (v := (12 : Int32)) hx hb dX0_has_5 (by decide) ?_
    refine lv_icmp_ge (tgt := 22) hx hb dX0_has_7 (by decide) (fun c2 => ?_) (fun c2 => ?_)
    · have h := zif_t c2 h
      refine lv_iconst (v := (0 : Int32)) hx hb dX0_has_22 (by decide) ?_
      cases zend h
      exact hq hP hD hS (by decide) dX0_has_23
    · have h := zif_f c2 h
      refine lv_iload_n hx hb dX0_has_10 rfl (lv_at hl 1 rfl) ?_
      refine lv_aload_n hx hb dX0_has_11 rfl (lv_at hl 0 rfl) ?_
      refine va_get (D := D) (ci := 0) (v := .int (Gs 2)) (C := RX0) (T := TX0) (N := 4) hx hb hts inX0 hown hK hP 0 rfl rfl 2 (by decide) lk22 (fun _ h9 => h9) rfl dX0_has_12 ?_
      refine lv_icmp_ge (tgt := 22) hx hb dX0_has_15 (by decide) (fun c3 => ?_) (fun c3 => ?_)
      · have h := zif_t c3 h
        refine lv_iconst (v := (0 : Int32)) hx hb dX0_has_22 (by decide) ?_
        cases zend h
        exact hq hP hD hS (by decide) dX0_has_23
      · have h := zif_f c3 h
        refine lv_iconst (v := (1 : Int32)) hx hb dX0_has_18 (by decide) ?_
        refine lv_goto (tgt := 23) hx hb dX0_has_19 (by decide) ?_
        cases zend h
        exact hq hP hD hS (by decide) dX0_has_23
set_option maxHeartbeats 4000000 in
set_option maxRecDepth 100000 in
theorem c_X0_next (l : Launch) (D : va_G) (cI cB cO : ClassId) (Go : Nat) (Gp : Nat → Nat) (Gs : Nat → Int32) (Ga : Nat → Nat → Int32) (a0 : Int32) (a1 : Int32) (rv : Int32) (sz : Nat) (h : fX0_next Gs Ga a0 a1 = some rv) : Met l yX0_next wsX0_next ({ frames := 1, cells := 0, slots := 0, locals := 21 } : Room) (va_Pc [.ref Go, .int a0, .int a1] (zPre D (zTY cI cB cO) (zwG cI Go Gp Gs Ga) sz)) (va_Qi (fun r (_ : Unit) => r = rv) (fun _ => zPost D (zTY cI cB cO) (zwG cI Go Gp Gs Ga) (va_A (zwG cI Go Gp Gs Ga) sz)) (va_A (zwG cI Go Gp Gs Ga) sz)) 0 0 (va_A (zwG cI Go Gp Gs Ga) sz) := by
  unfold fX0_next at h
  refine zmet_i (cc := cX0_next) (maxL := 4) (by decide) rfl (Nat.le_of_ble_eq_true rfl) rfl rfl ?_
  intro p e s m args below meth c R Q A ls hx hb hts hown hml hK hP hD hE hA hS hRf hRl hl hq
  have hown : s.vm.findClass RX0 = some m.cls := hown
  have hl : lv_has ls 4 [(0, .ref Go), (1, .int a0), (2, .int a1)] := hl
  have inX0 : ∀ w ∈ u_ws RX0 TX0 4, w ∈ wsX0_next := by decide +kernel
  have lk9 : (Cond.fieldLink RX0 9 "PegField$Grid" "beside" "[I").before args s = true := hts _ (by decide +kernel)
  refine lv_aload_n hx hb dX0_next_0 rfl (lv_at hl 0 rfl) ?_
  refine lv_iload_n hx hb dX0_next_1 rfl (lv_at hl 1 rfl) ?_
  obtain ⟨r1, g2, h⟩ := zb1_s h
  have hFc := va_free (wc := (zwG cI Go Gp Gs Ga)) hD hS hA [0, 1] (zC_0 (cI := cI) (cB := cB) (cO := cO))
  refine zcp_i (va_runV (As := [.int a0]) (rest := []) ⟨hx, hb, hml, hown, hts⟩ (c_X0_has l D cI cB cO Go Gp Gs Ga a0 _ _ g2) (cwV 1 hts gX0_next_X0_has rfl rfl rfl kV_X0_has ⟨Nat.le_trans (Nat.le_of_ble_eq_true rfl) hRf, Nat.le_trans (Nat.le_of_ble_eq_true rfl) hRl⟩) (zpreV hK hP hD hS hE hFc [0, 1] (zC_0 (cI := cI) (cB := cB) (cO := cO)) rfl 0 (ci := 0) rfl rfl [.int a0]) rfl rfl hl.1 rfl (lv_room (Nat.le_of_ble_eq_true rfl)) dX0_next_2 ⟨Nat.zero_le _, Nat.zero_le _⟩) hP hD hS hFc [0, 1] (zC_0 (cI := cI) (cB := cB) (cO := cO)) (fun H locs hP hS => ?_)
  clear hFc
  obtain ⟨v23, j5, h⟩ := zb1_s h
  have K23 : ∀ (H : Heap) (locs : List Loc) (ls : Array Slot), va_P D vwCl (zwG cI Go Gp Gs Ga) H → va_D A (zwG cI Go Gp Gs Ga) → va_S A s.heap H locs → lv_has ls 4 [(0, .ref Go), (1, .int a0), (2, .int a1)] → W p l e R s m args below meth c H locs 0 0 Q (F0 m 23 ls [.int v23]) := by
    intro H locs ls hP hD hS hl
    refine lv_istore_n (lv' := [(3, .int v23), (0, .ref Go), (1, .int a0), (2, .int a1)]) hx hb dX0_next_23 rfl hl (by decide) rfl (fun ls hl => ?_)
    refine lv_iload_n hx hb dX0_next_24 rfl (lv_at hl 0 rfl) ?_
    refine lv_if_eq (tgt := 42) hx hb dX0_next_25 (by decide) (fun c3 => ?_) (fun c3 => ?_)
    · have h := zif_t c3 h
      refine lv_iconst (v := (-1 : Int32)) hx hb dX0_next_42 (by decide) ?_
      cases zend h
      exact hq hP hD hS dX0_next_43
    · have h := zif_f c3 h
      refine lv_aload_n hx hb dX0_next_28 rfl (lv_at hl 1 rfl) ?_
      refine va_get (D := D) (ci := 0) (v := .ref (Gp 3)) (C := RX0) (T := TX0) (N := 4) hx hb hts inX0 hown hK hP 0 rfl rfl 3 (by decide) lk9 (fun _ h9 => h9) rfl dX0_next_29 ?_
      refine lv_iload_n hx hb dX0_next_32 rfl (lv_at hl 2 rfl) ?_
      refine lv_bipush (v := (8 : Int32)) hx hb dX0_next_33 (by decide) ?_
      refine lv_imul hx hb dX0_next_35 ?_
      refine lv_iload_n hx hb dX0_next_36 rfl (lv_at hl 3 rfl) ?_
      refine lv_iadd hx hb dX0_next_37 ?_
      obtain ⟨z4, h⟩ := zck_s h
      refine va_iald hx hb hK hP 1 0 rfl rfl (zin_s z4) dX0_next_38 ?_
      refine lv_goto (tgt := 43) hx hb dX0_next_39 (by decide) ?_
      cases zend h
      exact hq hP hD hS dX0_next_43
  clear h
  have h := j5
  clear j5
  obtain ⟨J22, eJ22, h⟩ := zjn_s h
  have K22 : ∀ (u : Unit), J22 u = some v23 → ∀ (H : Heap) (locs : List Loc) (ls : Array Slot), va_P D vwCl (zwG cI Go Gp Gs Ga) H → va_D A (zwG cI Go Gp Gs Ga) → va_S A s.heap H locs → lv_has ls 4 [(0, .ref Go), (1, .int a0), (2, .int a1)] → W p l e R s m args below meth c H locs 0 0 Q (F0 m 22 ls []) := by
    subst eJ22
    intro u h H locs ls hP hD hS hl
    refine lv_iconst (v := (0 : Int32)) hx hb dX0_next_22 (by decide) ?_
    cases zend h
    exact K23 _ _ _ hP hD hS (lv_sub hl [0, 1, 2] rfl)
  clear eJ22
  refine lv_if_eq (tgt := 22) hx hb dX0_next_5 (by decide) (fun c6 => ?_) (fun c6 => ?_)
  · have h := zif_t c6 h
    exact K22 _ h _ _ _ hP hD hS (lv_sub hl [0, 1, 2] rfl)
  · have h := zif_f c6 h
    refine lv_iload_n hx hb dX0_next_8 rfl (lv_at hl 2 rfl) ?_
    refine lv_if_lt (tgt := 22) hx hb dX0_next_9 (by decide) (fun c7 => ?_) (fun c7 => ?_)
    · have h := zif_t c7 h
      exact K22 _ h _ _ _ hP hD hS (lv_sub hl [0, 1, 2] rfl)
    · have h := zif_f c7 h
      refine lv_iload_n hx hb dX0_next_12 rfl (lv_at hl 2 rfl) ?_
      refine lv_bipush (v := (8 : Int32)) hx hb dX0_next_13 (by decide) ?_
      refine lv_icmp_ge (tgt := 22) hx hb dX0_next_15 (by decide) (fun c8 => ?_) (fun c8 => ?_)
      · have h := zif_t c8 h
        exact K22 _ h _ _ _ hP hD hS (lv_sub hl [0, 1, 2] rfl)
      · have h := zif_f c8 h
        refine lv_iconst (v := (1 : Int32)) hx hb dX0_next_18 (by decide) ?_
        refine lv_goto (tgt := 23) hx hb dX0_next_19 (by decide) ?_
        cases zend h
        exact K23 _ _ _ hP hD hS (lv_sub hl [0, 1, 2] rfl)
