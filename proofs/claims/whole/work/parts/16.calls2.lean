set_option maxHeartbeats 4000000 in
set_option maxRecDepth 100000 in
/-- look(which) -/
theorem cb_M_look (l : Launch) (dC : Nat → ClassId) (dI : Nat → Nat → Nat) (cB cI cJ : ClassId) (sz : Nat) (h : Nat) (g0 g1 g2 g3 g4 g6 g12 g13 g14 g16 g23 g25 g26 g27 g28 g30 g31 g32 : Int32) (g5 g7 g8 g9 g10 g11 g15 g17 g18 g19 g20 g21 g22 g24 g29 : Nat) (p0 : Int32) : Met l yy_M_look (Cond.code yy_M_look cc_M_look 2 (some .int) :: gw) { frames := 0, cells := 0, slots := 0, locals := 0 } (va_Pc [.ref h, .int p0] (ks_pre dC dI [(cB, .byte), (cI, .int), (cJ, .long)] [(h, .inr (1, [.int g0, .int g1, .int g2, .int g3, .int g4, .ref g5, .int g6, .ref g7, .ref g8, .ref g9, .ref g10, .ref g11, .int g12, .int g13, .int g14, .ref g15, .int g16, .ref g17, .ref g18, .ref g19, .ref g20, .ref g21, .ref g22, .int g23, .ref g24, .int g25, .int g26, .int g27, .int g28, .ref g29, .int g30, .int g31, .int g32]))] sz)) (va_Qi (fun r (_u : Unit) => r = (if p0 = 0 then g23 else if p0 = 1 then g25 else if p0 = 2 then g26 else if p0 = 3 then g27 else if p0 = 4 then g28 else -1)) (fun (_u : Unit) => ks_post dC dI [(cB, .byte), (cI, .int), (cJ, .long)] (va_A [(h, .inr (1, [.int g0, .int g1, .int g2, .int g3, .int g4, .ref g5, .int g6, .ref g7, .ref g8, .ref g9, .ref g10, .ref g11, .int g12, .int g13, .int g14, .ref g15, .int g16, .ref g17, .ref g18, .ref g19, .ref g20, .ref g21, .ref g22, .int g23, .ref g24, .int g25, .int g26, .int g27, .int g28, .ref g29, .int g30, .int g31, .int g32]))] sz) [(h, .inr (1, [.int 0, .int g1, .int g2, .int g3, .int g4, .ref g5, .int g6, .ref g7, .ref g8, .ref g9, .ref g10, .ref g11, .int g12, .int g13, .int g14, .ref g15, .int g16, .ref g17, .ref g18, .ref g19, .ref g20, .ref g21, .ref g22, .int g23, .ref g24, .int g25, .int g26, .int g27, .int g28, .ref g29, .int g30, .int g31, .int g32]))]) (va_A [(h, .inr (1, [.int g0, .int g1, .int g2, .int g3, .int g4, .ref g5, .int g6, .ref g7, .ref g8, .ref g9, .ref g10, .ref g11, .int g12, .int g13, .int g14, .ref g15, .int g16, .ref g17, .ref g18, .ref g19, .ref g20, .ref g21, .ref g22, .int g23, .ref g24, .int g25, .int g26, .int g27, .int g28, .ref g29, .int g30, .int g31, .int g32]))] sz)) 0 0 (va_A [(h, .inr (1, [.int g0, .int g1, .int g2, .int g3, .int g4, .ref g5, .int g6, .ref g7, .ref g8, .ref g9, .ref g10, .ref g11, .int g12, .int g13, .int g14, .ref g15, .int g16, .ref g17, .ref g18, .ref g19, .ref g20, .ref g21, .ref g22, .int g23, .ref g24, .int g25, .int g26, .int g27, .int g28, .ref g29, .int g30, .int g31, .int g32]))] sz) := by
  refine Met.ofW (cc := cc_M_look) (maxL := 2) (ret := (some .int)) (by decide) rfl ?_
  intro p e s m args below meth c s₁ B hml hv
  obtain ⟨rfl, hsz, hP, hK, hD0⟩ := hv
  have hx := B.exec
  have hb := B.bytes
  have hr := B.returns
  have hw : ∀ w ∈ gw, w.before _ s = true := fun w h => atoms_spec (ws := (Cond.code yy_M_look cc_M_look 2 (some .int) :: gw)) B.pre w (List.mem_cons_of_mem _ h)
  have hown : s.vm.findClass RR_M = some m.cls := findClass_of_methodNamed B.named
  have hlocks := B.notSynchronized
  subst hsz
  have hD := hD0.self (sz := s.heap.size)
  generalize hAe : va_A [(h, .inr (1, [.int g0, .int g1, .int g2, .int g3, .int g4, .ref g5, .int g6, .ref g7, .ref g8, .ref g9, .ref g10, .ref g11, .int g12, .int g13, .int g14, .ref g15, .int g16, .ref g17, .ref g18, .ref g19, .ref g20, .ref g21, .ref g22, .int g23, .ref g24, .int g25, .int g26, .int g27, .int g28, .ref g29, .int g30, .int g31, .int g32]))] s.heap.size = A at hD ⊢
  have hA : ∀ q : Nat, s.heap.size ≤ q → A q := fun q h => by rw [← hAe]; exact Or.inr h
  have hS : va_S A s.heap s.heap [] := va_S.rf
  have hP : va_P (dC, dI) vcl [(h, .inr (1, [.int g0, .int g1, .int g2, .int g3, .int g4, .ref g5, .int g6, .ref g7, .ref g8, .ref g9, .ref g10, .ref g11, .int g12, .int g13, .int g14, .ref g15, .int g16, .ref g17, .ref g18, .ref g19, .ref g20, .ref g21, .ref g22, .int g23, .ref g24, .int g25, .int g26, .int g27, .int g28, .ref g29, .int g30, .int g31, .int g32]))] s.heap := hP
  have hl := lv_entry ([.ref h, .int p0]) (n := 2) (Nat.le_of_ble_eq_true rfl)
  rw [lg_entry_eq]
  generalize (lg_sl ([.ref h, .int p0]) ++ List.replicate (2 - (lg_sl ([.ref h, .int p0])).length) Slot.unset).toArray = ls at hl ⊢
  have hl : lv_has ls 2 [(0, .ref h), (1, .int p0)] := hl
  refine lv_aload_n hx hb dd_M_look_0 rfl (lv_at hl 0 rfl) ?_
  refine lv_iconst (v := 0) hx hb dd_M_look_1 (by decide) ?_
  refine va_put (D := (dC, dI)) (ci := 1) (v := .int 0) (ty := .int) (C := RR_M) (T := TT_M) (N := 33) hx hb hw hh_M ty_M ty_M_ok nm_M hown hK hP hD hS 0 rfl rfl 0 (by decide) (hw _ qq_579) (fun _ h9 => h9) rfl (by decide +kernel) rfl rfl (Nat.le_of_ble_eq_true rfl) dd_M_look_2 (fun H locs hP hD hS => ?_)
  have hP : va_P (dC, dI) vcl [(h, .inr (1, [.int 0, .int g1, .int g2, .int g3, .int g4, .ref g5, .int g6, .ref g7, .ref g8, .ref g9, .ref g10, .ref g11, .int g12, .int g13, .int g14, .ref g15, .int g16, .ref g17, .ref g18, .ref g19, .ref g20, .ref g21, .ref g22, .int g23, .ref g24, .int g25, .int g26, .int g27, .int g28, .ref g29, .int g30, .int g31, .int g32]))] H := hP
  have hD : va_D A [(h, .inr (1, [.int 0, .int g1, .int g2, .int g3, .int g4, .ref g5, .int g6, .ref g7, .ref g8, .ref g9, .ref g10, .ref g11, .int g12, .int g13, .int g14, .ref g15, .int g16, .ref g17, .ref g18, .ref g19, .ref g20, .ref g21, .ref g22, .int g23, .ref g24, .int g25, .int g26, .int g27, .int g28, .ref g29, .int g30, .int g31, .int g32]))] := hD
  refine lv_iload_n hx hb dd_M_look_5 rfl (lv_at hl 1 rfl) ?_
  refine lv_if_ne (tgt := 16) hx hb dd_M_look_6 (by decide) (fun c_1 => ?_) (fun c_1 => ?_)
  · refine lv_iload_n hx hb dd_M_look_16 rfl (lv_at hl 1 rfl) ?_
    refine lv_iconst (v := 1) hx hb dd_M_look_17 (by decide) ?_
    refine lv_icmp_ne (tgt := 28) hx hb dd_M_look_18 (by decide) (fun c_2 => ?_) (fun c_2 => ?_)
    · refine lv_iload_n hx hb dd_M_look_28 rfl (lv_at hl 1 rfl) ?_
      refine lv_iconst (v := 2) hx hb dd_M_look_29 (by decide) ?_
      refine lv_icmp_ne (tgt := 40) hx hb dd_M_look_30 (by decide) (fun c_3 => ?_) (fun c_3 => ?_)
      · refine lv_iload_n hx hb dd_M_look_40 rfl (lv_at hl 1 rfl) ?_
        refine lv_iconst (v := 3) hx hb dd_M_look_41 (by decide) ?_
        refine lv_icmp_ne (tgt := 52) hx hb dd_M_look_42 (by decide) (fun c_4 => ?_) (fun c_4 => ?_)
        · refine lv_iload_n hx hb dd_M_look_52 rfl (lv_at hl 1 rfl) ?_
          refine lv_iconst (v := 4) hx hb dd_M_look_53 (by decide) ?_
          refine lv_icmp_ne (tgt := 64) hx hb dd_M_look_54 (by decide) (fun c_5 => ?_) (fun c_5 => ?_)
          · refine lv_iconst (v := -1) hx hb dd_M_look_64 (by decide) ?_
            have hP9 := hP.sub (ws' := [(h, .inr (1, [.int 0, .int g1, .int g2, .int g3, .int g4, .ref g5, .int g6, .ref g7, .ref g8, .ref g9, .ref g10, .ref g11, .int g12, .int g13, .int g14, .ref g15, .int g16, .ref g17, .ref g18, .ref g19, .ref g20, .ref g21, .ref g22, .int g23, .ref g24, .int g25, .int g26, .int g27, .int g28, .ref g29, .int g30, .int g31, .int g32]))]) [0] rfl
            have hD9 := hD.sub (ws' := [(h, .inr (1, [.int 0, .int g1, .int g2, .int g3, .int g4, .ref g5, .int g6, .ref g7, .ref g8, .ref g9, .ref g10, .ref g11, .int g12, .int g13, .int g14, .ref g15, .int g16, .ref g17, .ref g18, .ref g19, .ref g20, .ref g21, .ref g22, .int g23, .ref g24, .int g25, .int g26, .int g27, .int g28, .ref g29, .int g30, .int g31, .int g32]))]) [0] (by decide) rfl
            refine W.widen (k := 0) (n := 0) (by first | exact Nat.le_refl _ | omega) (by first | exact Nat.le_refl _ | omega) ?_
            exact W.iret (v := -1) hx hb hr (fun t ht hW => ⟨⟨-1, (), rfl, (by rw [if_neg c_1, if_neg c_2, if_neg c_3, if_neg c_4, if_neg c_5]), by rw [ht]; exact hP9, va_K.moved hW.alike hK, hD9⟩, hS.F ht⟩) hS.2.2 dd_M_look_65
          · refine lv_aload_n hx hb dd_M_look_57 rfl (lv_at hl 0 rfl) ?_
            refine va_get (D := (dC, dI)) (ci := 1) (v := .int g28) (C := RR_M) (T := TT_M) (N := 33) hx hb hw hh_M hown hK hP 0 rfl rfl 28 (by decide) (hw _ qq_607) (fun _ h9 => h9) rfl dd_M_look_58 ?_
            refine lv_goto (tgt := 65) hx hb dd_M_look_61 (by decide) ?_
            have hP9 := hP.sub (ws' := [(h, .inr (1, [.int 0, .int g1, .int g2, .int g3, .int g4, .ref g5, .int g6, .ref g7, .ref g8, .ref g9, .ref g10, .ref g11, .int g12, .int g13, .int g14, .ref g15, .int g16, .ref g17, .ref g18, .ref g19, .ref g20, .ref g21, .ref g22, .int g23, .ref g24, .int g25, .int g26, .int g27, .int g28, .ref g29, .int g30, .int g31, .int g32]))]) [0] rfl
            have hD9 := hD.sub (ws' := [(h, .inr (1, [.int 0, .int g1, .int g2, .int g3, .int g4, .ref g5, .int g6, .ref g7, .ref g8, .ref g9, .ref g10, .ref g11, .int g12, .int g13, .int g14, .ref g15, .int g16, .ref g17, .ref g18, .ref g19, .ref g20, .ref g21, .ref g22, .int g23, .ref g24, .int g25, .int g26, .int g27, .int g28, .ref g29, .int g30, .int g31, .int g32]))]) [0] (by decide) rfl
            refine W.widen (k := 0) (n := 0) (by first | exact Nat.le_refl _ | omega) (by first | exact Nat.le_refl _ | omega) ?_
            exact W.iret (v := g28) hx hb hr (fun t ht hW => ⟨⟨g28, (), rfl, (by rw [if_neg c_1, if_neg c_2, if_neg c_3, if_neg c_4, if_pos c_5]), by rw [ht]; exact hP9, va_K.moved hW.alike hK, hD9⟩, hS.F ht⟩) hS.2.2 dd_M_look_65
        · refine lv_aload_n hx hb dd_M_look_45 rfl (lv_at hl 0 rfl) ?_
          refine va_get (D := (dC, dI)) (ci := 1) (v := .int g27) (C := RR_M) (T := TT_M) (N := 33) hx hb hw hh_M hown hK hP 0 rfl rfl 27 (by decide) (hw _ qq_606) (fun _ h9 => h9) rfl dd_M_look_46 ?_
          refine lv_goto (tgt := 65) hx hb dd_M_look_49 (by decide) ?_
          have hP9 := hP.sub (ws' := [(h, .inr (1, [.int 0, .int g1, .int g2, .int g3, .int g4, .ref g5, .int g6, .ref g7, .ref g8, .ref g9, .ref g10, .ref g11, .int g12, .int g13, .int g14, .ref g15, .int g16, .ref g17, .ref g18, .ref g19, .ref g20, .ref g21, .ref g22, .int g23, .ref g24, .int g25, .int g26, .int g27, .int g28, .ref g29, .int g30, .int g31, .int g32]))]) [0] rfl
          have hD9 := hD.sub (ws' := [(h, .inr (1, [.int 0, .int g1, .int g2, .int g3, .int g4, .ref g5, .int g6, .ref g7, .ref g8, .ref g9, .ref g10, .ref g11, .int g12, .int g13, .int g14, .ref g15, .int g16, .ref g17, .ref g18, .ref g19, .ref g20, .ref g21, .ref g22, .int g23, .ref g24, .int g25, .int g26, .int g27, .int g28, .ref g29, .int g30, .int g31, .int g32]))]) [0] (by decide) rfl
          refine W.widen (k := 0) (n := 0) (by first | exact Nat.le_refl _ | omega) (by first | exact Nat.le_refl _ | omega) ?_
          exact W.iret (v := g27) hx hb hr (fun t ht hW => ⟨⟨g27, (), rfl, (by rw [if_neg c_1, if_neg c_2, if_neg c_3, if_pos c_4]), by rw [ht]; exact hP9, va_K.moved hW.alike hK, hD9⟩, hS.F ht⟩) hS.2.2 dd_M_look_65
      · refine lv_aload_n hx hb dd_M_look_33 rfl (lv_at hl 0 rfl) ?_
        refine va_get (D := (dC, dI)) (ci := 1) (v := .int g26) (C := RR_M) (T := TT_M) (N := 33) hx hb hw hh_M hown hK hP 0 rfl rfl 26 (by decide) (hw _ qq_605) (fun _ h9 => h9) rfl dd_M_look_34 ?_
        refine lv_goto (tgt := 65) hx hb dd_M_look_37 (by decide) ?_
        have hP9 := hP.sub (ws' := [(h, .inr (1, [.int 0, .int g1, .int g2, .int g3, .int g4, .ref g5, .int g6, .ref g7, .ref g8, .ref g9, .ref g10, .ref g11, .int g12, .int g13, .int g14, .ref g15, .int g16, .ref g17, .ref g18, .ref g19, .ref g20, .ref g21, .ref g22, .int g23, .ref g24, .int g25, .int g26, .int g27, .int g28, .ref g29, .int g30, .int g31, .int g32]))]) [0] rfl
        have hD9 := hD.sub (ws' := [(h, .inr (1, [.int 0, .int g1, .int g2, .int g3, .int g4, .ref g5, .int g6, .ref g7, .ref g8, .ref g9, .ref g10, .ref g11, .int g12, .int g13, .int g14, .ref g15, .int g16, .ref g17, .ref g18, .ref g19, .ref g20, .ref g21, .ref g22, .int g23, .ref g24, .int g25, .int g26, .int g27, .int g28, .ref g29, .int g30, .int g31, .int g32]))]) [0] (by decide) rfl
        refine W.widen (k := 0) (n := 0) (by first | exact Nat.le_refl _ | omega) (by first | exact Nat.le_refl _ | omega) ?_
        exact W.iret (v := g26) hx hb hr (fun t ht hW => ⟨⟨g26, (), rfl, (by rw [if_neg c_1, if_neg c_2, if_pos c_3]), by rw [ht]; exact hP9, va_K.moved hW.alike hK, hD9⟩, hS.F ht⟩) hS.2.2 dd_M_look_65
    · refine lv_aload_n hx hb dd_M_look_21 rfl (lv_at hl 0 rfl) ?_
      refine va_get (D := (dC, dI)) (ci := 1) (v := .int g25) (C := RR_M) (T := TT_M) (N := 33) hx hb hw hh_M hown hK hP 0 rfl rfl 25 (by decide) (hw _ qq_604) (fun _ h9 => h9) rfl dd_M_look_22 ?_
      refine lv_goto (tgt := 65) hx hb dd_M_look_25 (by decide) ?_
      have hP9 := hP.sub (ws' := [(h, .inr (1, [.int 0, .int g1, .int g2, .int g3, .int g4, .ref g5, .int g6, .ref g7, .ref g8, .ref g9, .ref g10, .ref g11, .int g12, .int g13, .int g14, .ref g15, .int g16, .ref g17, .ref g18, .ref g19, .ref g20, .ref g21, .ref g22, .int g23, .ref g24, .int g25, .int g26, .int g27, .int g28, .ref g29, .int g30, .int g31, .int g32]))]) [0] rfl
      have hD9 := hD.sub (ws' := [(h, .inr (1, [.int 0, .int g1, .int g2, .int g3, .int g4, .ref g5, .int g6, .ref g7, .ref g8, .ref g9, .ref g10, .ref g11, .int g12, .int g13, .int g14, .ref g15, .int g16, .ref g17, .ref g18, .ref g19, .ref g20, .ref g21, .ref g22, .int g23, .ref g24, .int g25, .int g26, .int g27, .int g28, .ref g29, .int g30, .int g31, .int g32]))]) [0] (by decide) rfl
      refine W.widen (k := 0) (n := 0) (by first | exact Nat.le_refl _ | omega) (by first | exact Nat.le_refl _ | omega) ?_
      exact W.iret (v := g25) hx hb hr (fun t ht hW => ⟨⟨g25, (), rfl, (by rw [if_neg c_1, if_pos c_2]), by rw [ht]; exact hP9, va_K.moved hW.alike hK, hD9⟩, hS.F ht⟩) hS.2.2 dd_M_look_65
  · refine lv_aload_n hx hb dd_M_look_9 rfl (lv_at hl 0 rfl) ?_
    refine va_get (D := (dC, dI)) (ci := 1) (v := .int g23) (C := RR_M) (T := TT_M) (N := 33) hx hb hw hh_M hown hK hP 0 rfl rfl 23 (by decide) (hw _ qq_602) (fun _ h9 => h9) rfl dd_M_look_10 ?_
    refine lv_goto (tgt := 65) hx hb dd_M_look_13 (by decide) ?_
    have hP9 := hP.sub (ws' := [(h, .inr (1, [.int 0, .int g1, .int g2, .int g3, .int g4, .ref g5, .int g6, .ref g7, .ref g8, .ref g9, .ref g10, .ref g11, .int g12, .int g13, .int g14, .ref g15, .int g16, .ref g17, .ref g18, .ref g19, .ref g20, .ref g21, .ref g22, .int g23, .ref g24, .int g25, .int g26, .int g27, .int g28, .ref g29, .int g30, .int g31, .int g32]))]) [0] rfl
    have hD9 := hD.sub (ws' := [(h, .inr (1, [.int 0, .int g1, .int g2, .int g3, .int g4, .ref g5, .int g6, .ref g7, .ref g8, .ref g9, .ref g10, .ref g11, .int g12, .int g13, .int g14, .ref g15, .int g16, .ref g17, .ref g18, .ref g19, .ref g20, .ref g21, .ref g22, .int g23, .ref g24, .int g25, .int g26, .int g27, .int g28, .ref g29, .int g30, .int g31, .int g32]))]) [0] (by decide) rfl
    refine W.widen (k := 0) (n := 0) (by first | exact Nat.le_refl _ | omega) (by first | exact Nat.le_refl _ | omega) ?_
    exact W.iret (v := g23) hx hb hr (fun t ht hW => ⟨⟨g23, (), rfl, (by rw [if_pos c_1]), by rw [ht]; exact hP9, va_K.moved hW.alike hK, hD9⟩, hS.F ht⟩) hS.2.2 dd_M_look_65

set_option maxHeartbeats 4000000 in
set_option maxRecDepth 100000 in
/-- of(w) -/
theorem cb_M_of (l : Launch) (dC : Nat → ClassId) (dI : Nat → Nat → Nat) (cB cI cJ : ClassId) (sz : Nat) (h : Nat) (g0 g1 g2 g3 g4 g6 g12 g13 g14 g16 g23 g25 g26 g27 g28 g30 g31 g32 : Int32) (g5 g7 g8 g9 g10 g11 g15 g17 g18 g19 g20 g21 g22 g24 g29 : Nat) (fc : Nat → Int32) (p0 : Int32) : Met l yy_M_of (Cond.code yy_M_of cc_M_of 2 (some .int) :: gw) { frames := 0, cells := 0, slots := 0, locals := 0 } (va_Pc [.ref h, .int p0] (ks_pre dC dI [(cB, .byte), (cI, .int), (cJ, .long)] [(h, .inr (1, [.int g0, .int g1, .int g2, .int g3, .int g4, .ref g5, .int g6, .ref g7, .ref g8, .ref g9, .ref g10, .ref g11, .int g12, .int g13, .int g14, .ref g15, .int g16, .ref g17, .ref g18, .ref g19, .ref g20, .ref g21, .ref g22, .int g23, .ref g24, .int g25, .int g26, .int g27, .int g28, .ref g29, .int g30, .int g31, .int g32])), (g5, .inl (cI, 8, .inl fc))] sz)) (va_Qi (fun r (_u : Unit) => r = (if g1 = 0 then -1 else if p0 < 8 then (if p0 = 0 then g2 else if p0 = 1 then g3 else if p0 = 2 then g4 else if p0 = 3 then g6 else -1) else if 16 ≤ p0 then (if p0 = 0 then g2 else if p0 = 1 then g3 else if p0 = 2 then g4 else if p0 = 3 then g6 else -1) else fc (p0 - 8).toNatClampNeg)) (fun (_u : Unit) => ks_post dC dI [(cB, .byte), (cI, .int), (cJ, .long)] (va_A [(h, .inr (1, [.int g0, .int g1, .int g2, .int g3, .int g4, .ref g5, .int g6, .ref g7, .ref g8, .ref g9, .ref g10, .ref g11, .int g12, .int g13, .int g14, .ref g15, .int g16, .ref g17, .ref g18, .ref g19, .ref g20, .ref g21, .ref g22, .int g23, .ref g24, .int g25, .int g26, .int g27, .int g28, .ref g29, .int g30, .int g31, .int g32])), (g5, .inl (cI, 8, .inl fc))] sz) [(h, .inr (1, [.int 0, .int g1, .int g2, .int g3, .int g4, .ref g5, .int g6, .ref g7, .ref g8, .ref g9, .ref g10, .ref g11, .int g12, .int g13, .int g14, .ref g15, .int g16, .ref g17, .ref g18, .ref g19, .ref g20, .ref g21, .ref g22, .int g23, .ref g24, .int g25, .int g26, .int g27, .int g28, .ref g29, .int g30, .int g31, .int g32])), (g5, .inl (cI, 8, .inl fc))]) (va_A [(h, .inr (1, [.int g0, .int g1, .int g2, .int g3, .int g4, .ref g5, .int g6, .ref g7, .ref g8, .ref g9, .ref g10, .ref g11, .int g12, .int g13, .int g14, .ref g15, .int g16, .ref g17, .ref g18, .ref g19, .ref g20, .ref g21, .ref g22, .int g23, .ref g24, .int g25, .int g26, .int g27, .int g28, .ref g29, .int g30, .int g31, .int g32])), (g5, .inl (cI, 8, .inl fc))] sz)) 0 0 (va_A [(h, .inr (1, [.int g0, .int g1, .int g2, .int g3, .int g4, .ref g5, .int g6, .ref g7, .ref g8, .ref g9, .ref g10, .ref g11, .int g12, .int g13, .int g14, .ref g15, .int g16, .ref g17, .ref g18, .ref g19, .ref g20, .ref g21, .ref g22, .int g23, .ref g24, .int g25, .int g26, .int g27, .int g28, .ref g29, .int g30, .int g31, .int g32])), (g5, .inl (cI, 8, .inl fc))] sz) := by
  refine Met.ofW (cc := cc_M_of) (maxL := 2) (ret := (some .int)) (by decide) rfl ?_
  intro p e s m args below meth c s₁ B hml hv
  obtain ⟨rfl, hsz, hP, hK, hD0⟩ := hv
  have hx := B.exec
  have hb := B.bytes
  have hr := B.returns
  have hw : ∀ w ∈ gw, w.before _ s = true := fun w h => atoms_spec (ws := (Cond.code yy_M_of cc_M_of 2 (some .int) :: gw)) B.pre w (List.mem_cons_of_mem _ h)
  have hown : s.vm.findClass RR_M = some m.cls := findClass_of_methodNamed B.named
  have hlocks := B.notSynchronized
  subst hsz
  have hD := hD0.self (sz := s.heap.size)
  generalize hAe : va_A [(h, .inr (1, [.int g0, .int g1, .int g2, .int g3, .int g4, .ref g5, .int g6, .ref g7, .ref g8, .ref g9, .ref g10, .ref g11, .int g12, .int g13, .int g14, .ref g15, .int g16, .ref g17, .ref g18, .ref g19, .ref g20, .ref g21, .ref g22, .int g23, .ref g24, .int g25, .int g26, .int g27, .int g28, .ref g29, .int g30, .int g31, .int g32])), (g5, .inl (cI, 8, .inl fc))] s.heap.size = A at hD ⊢
  have hA : ∀ q : Nat, s.heap.size ≤ q → A q := fun q h => by rw [← hAe]; exact Or.inr h
  have hS : va_S A s.heap s.heap [] := va_S.rf
  have hP : va_P (dC, dI) vcl [(h, .inr (1, [.int g0, .int g1, .int g2, .int g3, .int g4, .ref g5, .int g6, .ref g7, .ref g8, .ref g9, .ref g10, .ref g11, .int g12, .int g13, .int g14, .ref g15, .int g16, .ref g17, .ref g18, .ref g19, .ref g20, .ref g21, .ref g22, .int g23, .ref g24, .int g25, .int g26, .int g27, .int g28, .ref g29, .int g30, .int g31, .int g32])), (g5, .inl (cI, 8, .inl fc))] s.heap := hP
  have hl := lv_entry ([.ref h, .int p0]) (n := 2) (Nat.le_of_ble_eq_true rfl)
  rw [lg_entry_eq]
  generalize (lg_sl ([.ref h, .int p0]) ++ List.replicate (2 - (lg_sl ([.ref h, .int p0])).length) Slot.unset).toArray = ls at hl ⊢
  have hl : lv_has ls 2 [(0, .ref h), (1, .int p0)] := hl
  refine lv_aload_n hx hb dd_M_of_0 rfl (lv_at hl 0 rfl) ?_
  refine lv_iconst (v := 0) hx hb dd_M_of_1 (by decide) ?_
  refine va_put (D := (dC, dI)) (ci := 1) (v := .int 0) (ty := .int) (C := RR_M) (T := TT_M) (N := 33) hx hb hw hh_M ty_M ty_M_ok nm_M hown hK hP hD hS 0 rfl rfl 0 (by decide) (hw _ qq_579) (fun _ h9 => h9) rfl (by decide +kernel) rfl rfl (Nat.le_of_ble_eq_true rfl) dd_M_of_2 (fun H locs hP hD hS => ?_)
  have hP : va_P (dC, dI) vcl [(h, .inr (1, [.int 0, .int g1, .int g2, .int g3, .int g4, .ref g5, .int g6, .ref g7, .ref g8, .ref g9, .ref g10, .ref g11, .int g12, .int g13, .int g14, .ref g15, .int g16, .ref g17, .ref g18, .ref g19, .ref g20, .ref g21, .ref g22, .int g23, .ref g24, .int g25, .int g26, .int g27, .int g28, .ref g29, .int g30, .int g31, .int g32])), (g5, .inl (cI, 8, .inl fc))] H := hP
  have hD : va_D A [(h, .inr (1, [.int 0, .int g1, .int g2, .int g3, .int g4, .ref g5, .int g6, .ref g7, .ref g8, .ref g9, .ref g10, .ref g11, .int g12, .int g13, .int g14, .ref g15, .int g16, .ref g17, .ref g18, .ref g19, .ref g20, .ref g21, .ref g22, .int g23, .ref g24, .int g25, .int g26, .int g27, .int g28, .ref g29, .int g30, .int g31, .int g32])), (g5, .inl (cI, 8, .inl fc))] := hD
  refine lv_aload_n hx hb dd_M_of_5 rfl (lv_at hl 0 rfl) ?_
  refine va_get (D := (dC, dI)) (ci := 1) (v := .int g1) (C := RR_M) (T := TT_M) (N := 33) hx hb hw hh_M hown hK hP 0 rfl rfl 1 (by decide) (hw _ qq_580) (fun _ h9 => h9) rfl dd_M_of_6 ?_
  refine lv_if_ne (tgt := 14) hx hb dd_M_of_9 (by decide) (fun c_1 => ?_) (fun c_1 => ?_)
  · refine lv_iload_n hx hb dd_M_of_14 rfl (lv_at hl 1 rfl) ?_
    refine lv_bipush (v := 8) hx hb dd_M_of_15 (by decide) ?_
    refine lv_icmp_lt (tgt := 36) hx hb dd_M_of_17 (by decide) (fun c_2 => ?_) (fun c_2 => ?_)
    · refine lv_iload_n hx hb dd_M_of_36 rfl (lv_at hl 1 rfl) ?_
      refine lv_if_ne (tgt := 47) hx hb dd_M_of_37 (by decide) (fun c_3 => ?_) (fun c_3 => ?_)
      · refine lv_iload_n hx hb dd_M_of_47 rfl (lv_at hl 1 rfl) ?_
        refine lv_iconst (v := 1) hx hb dd_M_of_48 (by decide) ?_
        refine lv_icmp_ne (tgt := 59) hx hb dd_M_of_49 (by decide) (fun c_4 => ?_) (fun c_4 => ?_)
        · refine lv_iload_n hx hb dd_M_of_59 rfl (lv_at hl 1 rfl) ?_
          refine lv_iconst (v := 2) hx hb dd_M_of_60 (by decide) ?_
          refine lv_icmp_ne (tgt := 71) hx hb dd_M_of_61 (by decide) (fun c_5 => ?_) (fun c_5 => ?_)
          · refine lv_iload_n hx hb dd_M_of_71 rfl (lv_at hl 1 rfl) ?_
            refine lv_iconst (v := 3) hx hb dd_M_of_72 (by decide) ?_
            refine lv_icmp_ne (tgt := 83) hx hb dd_M_of_73 (by decide) (fun c_6 => ?_) (fun c_6 => ?_)
            · refine lv_iconst (v := -1) hx hb dd_M_of_83 (by decide) ?_
              have hP9 := hP.sub (ws' := [(h, .inr (1, [.int 0, .int g1, .int g2, .int g3, .int g4, .ref g5, .int g6, .ref g7, .ref g8, .ref g9, .ref g10, .ref g11, .int g12, .int g13, .int g14, .ref g15, .int g16, .ref g17, .ref g18, .ref g19, .ref g20, .ref g21, .ref g22, .int g23, .ref g24, .int g25, .int g26, .int g27, .int g28, .ref g29, .int g30, .int g31, .int g32])), (g5, .inl (cI, 8, .inl fc))]) [0, 1] rfl
              have hD9 := hD.sub (ws' := [(h, .inr (1, [.int 0, .int g1, .int g2, .int g3, .int g4, .ref g5, .int g6, .ref g7, .ref g8, .ref g9, .ref g10, .ref g11, .int g12, .int g13, .int g14, .ref g15, .int g16, .ref g17, .ref g18, .ref g19, .ref g20, .ref g21, .ref g22, .int g23, .ref g24, .int g25, .int g26, .int g27, .int g28, .ref g29, .int g30, .int g31, .int g32])), (g5, .inl (cI, 8, .inl fc))]) [0, 1] (by decide) rfl
              refine W.widen (k := 0) (n := 0) (by first | exact Nat.le_refl _ | omega) (by first | exact Nat.le_refl _ | omega) ?_
              exact W.iret (v := -1) hx hb hr (fun t ht hW => ⟨⟨-1, (), rfl, (by rw [if_neg c_1, if_pos c_2, if_neg c_3, if_neg c_4, if_neg c_5, if_neg c_6]), by rw [ht]; exact hP9, va_K.moved hW.alike hK, hD9⟩, hS.F ht⟩) hS.2.2 dd_M_of_84
            · refine lv_aload_n hx hb dd_M_of_76 rfl (lv_at hl 0 rfl) ?_
              refine va_get (D := (dC, dI)) (ci := 1) (v := .int g6) (C := RR_M) (T := TT_M) (N := 33) hx hb hw hh_M hown hK hP 0 rfl rfl 6 (by decide) (hw _ qq_585) (fun _ h9 => h9) rfl dd_M_of_77 ?_
              refine lv_goto (tgt := 84) hx hb dd_M_of_80 (by decide) ?_
              have hP9 := hP.sub (ws' := [(h, .inr (1, [.int 0, .int g1, .int g2, .int g3, .int g4, .ref g5, .int g6, .ref g7, .ref g8, .ref g9, .ref g10, .ref g11, .int g12, .int g13, .int g14, .ref g15, .int g16, .ref g17, .ref g18, .ref g19, .ref g20, .ref g21, .ref g22, .int g23, .ref g24, .int g25, .int g26, .int g27, .int g28, .ref g29, .int g30, .int g31, .int g32])), (g5, .inl (cI, 8, .inl fc))]) [0, 1] rfl
              have hD9 := hD.sub (ws' := [(h, .inr (1, [.int 0, .int g1, .int g2, .int g3, .int g4, .ref g5, .int g6, .ref g7, .ref g8, .ref g9, .ref g10, .ref g11, .int g12, .int g13, .int g14, .ref g15, .int g16, .ref g17, .ref g18, .ref g19, .ref g20, .ref g21, .ref g22, .int g23, .ref g24, .int g25, .int g26, .int g27, .int g28, .ref g29, .int g30, .int g31, .int g32])), (g5, .inl (cI, 8, .inl fc))]) [0, 1] (by decide) rfl
              refine W.widen (k := 0) (n := 0) (by first | exact Nat.le_refl _ | omega) (by first | exact Nat.le_refl _ | omega) ?_
              exact W.iret (v := g6) hx hb hr (fun t ht hW => ⟨⟨g6, (), rfl, (by rw [if_neg c_1, if_pos c_2, if_neg c_3, if_neg c_4, if_neg c_5, if_pos c_6]), by rw [ht]; exact hP9, va_K.moved hW.alike hK, hD9⟩, hS.F ht⟩) hS.2.2 dd_M_of_84
          · refine lv_aload_n hx hb dd_M_of_64 rfl (lv_at hl 0 rfl) ?_
            refine va_get (D := (dC, dI)) (ci := 1) (v := .int g4) (C := RR_M) (T := TT_M) (N := 33) hx hb hw hh_M hown hK hP 0 rfl rfl 4 (by decide) (hw _ qq_583) (fun _ h9 => h9) rfl dd_M_of_65 ?_
            refine lv_goto (tgt := 84) hx hb dd_M_of_68 (by decide) ?_
            have hP9 := hP.sub (ws' := [(h, .inr (1, [.int 0, .int g1, .int g2, .int g3, .int g4, .ref g5, .int g6, .ref g7, .ref g8, .ref g9, .ref g10, .ref g11, .int g12, .int g13, .int g14, .ref g15, .int g16, .ref g17, .ref g18, .ref g19, .ref g20, .ref g21, .ref g22, .int g23, .ref g24, .int g25, .int g26, .int g27, .int g28, .ref g29, .int g30, .int g31, .int g32])), (g5, .inl (cI, 8, .inl fc))]) [0, 1] rfl
            have hD9 := hD.sub (ws' := [(h, .inr (1, [.int 0, .int g1, .int g2, .int g3, .int g4, .ref g5, .int g6, .ref g7, .ref g8, .ref g9, .ref g10, .ref g11, .int g12, .int g13, .int g14, .ref g15, .int g16, .ref g17, .ref g18, .ref g19, .ref g20, .ref g21, .ref g22, .int g23, .ref g24, .int g25, .int g26, .int g27, .int g28, .ref g29, .int g30, .int g31, .int g32])), (g5, .inl (cI, 8, .inl fc))]) [0, 1] (by decide) rfl
            refine W.widen (k := 0) (n := 0) (by first | exact Nat.le_refl _ | omega) (by first | exact Nat.le_refl _ | omega) ?_
            exact W.iret (v := g4) hx hb hr (fun t ht hW => ⟨⟨g4, (), rfl, (by rw [if_neg c_1, if_pos c_2, if_neg c_3, if_neg c_4, if_pos c_5]), by rw [ht]; exact hP9, va_K.moved hW.alike hK, hD9⟩, hS.F ht⟩) hS.2.2 dd_M_of_84
        · refine lv_aload_n hx hb dd_M_of_52 rfl (lv_at hl 0 rfl) ?_
          refine va_get (D := (dC, dI)) (ci := 1) (v := .int g3) (C := RR_M) (T := TT_M) (N := 33) hx hb hw hh_M hown hK hP 0 rfl rfl 3 (by decide) (hw _ qq_582) (fun _ h9 => h9) rfl dd_M_of_53 ?_
          refine lv_goto (tgt := 84) hx hb dd_M_of_56 (by decide) ?_
          have hP9 := hP.sub (ws' := [(h, .inr (1, [.int 0, .int g1, .int g2, .int g3, .int g4, .ref g5, .int g6, .ref g7, .ref g8, .ref g9, .ref g10, .ref g11, .int g12, .int g13, .int g14, .ref g15, .int g16, .ref g17, .ref g18, .ref g19, .ref g20, .ref g21, .ref g22, .int g23, .ref g24, .int g25, .int g26, .int g27, .int g28, .ref g29, .int g30, .int g31, .int g32])), (g5, .inl (cI, 8, .inl fc))]) [0, 1] rfl
          have hD9 := hD.sub (ws' := [(h, .inr (1, [.int 0, .int g1, .int g2, .int g3, .int g4, .ref g5, .int g6, .ref g7, .ref g8, .ref g9, .ref g10, .ref g11, .int g12, .int g13, .int g14, .ref g15, .int g16, .ref g17, .ref g18, .ref g19, .ref g20, .ref g21, .ref g22, .int g23, .ref g24, .int g25, .int g26, .int g27, .int g28, .ref g29, .int g30, .int g31, .int g32])), (g5, .inl (cI, 8, .inl fc))]) [0, 1] (by decide) rfl
          refine W.widen (k := 0) (n := 0) (by first | exact Nat.le_refl _ | omega) (by first | exact Nat.le_refl _ | omega) ?_
          exact W.iret (v := g3) hx hb hr (fun t ht hW => ⟨⟨g3, (), rfl, (by rw [if_neg c_1, if_pos c_2, if_neg c_3, if_pos c_4]), by rw [ht]; exact hP9, va_K.moved hW.alike hK, hD9⟩, hS.F ht⟩) hS.2.2 dd_M_of_84
      · refine lv_aload_n hx hb dd_M_of_40 rfl (lv_at hl 0 rfl) ?_
        refine va_get (D := (dC, dI)) (ci := 1) (v := .int g2) (C := RR_M) (T := TT_M) (N := 33) hx hb hw hh_M hown hK hP 0 rfl rfl 2 (by decide) (hw _ qq_581) (fun _ h9 => h9) rfl dd_M_of_41 ?_
        refine lv_goto (tgt := 84) hx hb dd_M_of_44 (by decide) ?_
        have hP9 := hP.sub (ws' := [(h, .inr (1, [.int 0, .int g1, .int g2, .int g3, .int g4, .ref g5, .int g6, .ref g7, .ref g8, .ref g9, .ref g10, .ref g11, .int g12, .int g13, .int g14, .ref g15, .int g16, .ref g17, .ref g18, .ref g19, .ref g20, .ref g21, .ref g22, .int g23, .ref g24, .int g25, .int g26, .int g27, .int g28, .ref g29, .int g30, .int g31, .int g32])), (g5, .inl (cI, 8, .inl fc))]) [0, 1] rfl
        have hD9 := hD.sub (ws' := [(h, .inr (1, [.int 0, .int g1, .int g2, .int g3, .int g4, .ref g5, .int g6, .ref g7, .ref g8, .ref g9, .ref g10, .ref g11, .int g12, .int g13, .int g14, .ref g15, .int g16, .ref g17, .ref g18, .ref g19, .ref g20, .ref g21, .ref g22, .int g23, .ref g24, .int g25, .int g26, .int g27, .int g28, .ref g29, .int g30, .int g31, .int g32])), (g5, .inl (cI, 8, .inl fc))]) [0, 1] (by decide) rfl
        refine W.widen (k := 0) (n := 0) (by first | exact Nat.le_refl _ | omega) (by first | exact Nat.le_refl _ | omega) ?_
        exact W.iret (v := g2) hx hb hr (fun t ht hW => ⟨⟨g2, (), rfl, (by rw [if_neg c_1, if_pos c_2, if_pos c_3]), by rw [ht]; exact hP9, va_K.moved hW.alike hK, hD9⟩, hS.F ht⟩) hS.2.2 dd_M_of_84
    · refine lv_iload_n hx hb dd_M_of_20 rfl (lv_at hl 1 rfl) ?_
      refine lv_bipush (v := 16) hx hb dd_M_of_21 (by decide) ?_
      refine lv_icmp_ge (tgt := 36) hx hb dd_M_of_23 (by decide) (fun c_7 => ?_) (fun c_7 => ?_)
      · refine lv_iload_n hx hb dd_M_of_36 rfl (lv_at hl 1 rfl) ?_
        refine lv_if_ne (tgt := 47) hx hb dd_M_of_37 (by decide) (fun c_8 => ?_) (fun c_8 => ?_)
        · refine lv_iload_n hx hb dd_M_of_47 rfl (lv_at hl 1 rfl) ?_
          refine lv_iconst (v := 1) hx hb dd_M_of_48 (by decide) ?_
          refine lv_icmp_ne (tgt := 59) hx hb dd_M_of_49 (by decide) (fun c_9 => ?_) (fun c_9 => ?_)
          · refine lv_iload_n hx hb dd_M_of_59 rfl (lv_at hl 1 rfl) ?_
            refine lv_iconst (v := 2) hx hb dd_M_of_60 (by decide) ?_
            refine lv_icmp_ne (tgt := 71) hx hb dd_M_of_61 (by decide) (fun c_10 => ?_) (fun c_10 => ?_)
            · refine lv_iload_n hx hb dd_M_of_71 rfl (lv_at hl 1 rfl) ?_
              refine lv_iconst (v := 3) hx hb dd_M_of_72 (by decide) ?_
              refine lv_icmp_ne (tgt := 83) hx hb dd_M_of_73 (by decide) (fun c_11 => ?_) (fun c_11 => ?_)
              · refine lv_iconst (v := -1) hx hb dd_M_of_83 (by decide) ?_
                have hP9 := hP.sub (ws' := [(h, .inr (1, [.int 0, .int g1, .int g2, .int g3, .int g4, .ref g5, .int g6, .ref g7, .ref g8, .ref g9, .ref g10, .ref g11, .int g12, .int g13, .int g14, .ref g15, .int g16, .ref g17, .ref g18, .ref g19, .ref g20, .ref g21, .ref g22, .int g23, .ref g24, .int g25, .int g26, .int g27, .int g28, .ref g29, .int g30, .int g31, .int g32])), (g5, .inl (cI, 8, .inl fc))]) [0, 1] rfl
                have hD9 := hD.sub (ws' := [(h, .inr (1, [.int 0, .int g1, .int g2, .int g3, .int g4, .ref g5, .int g6, .ref g7, .ref g8, .ref g9, .ref g10, .ref g11, .int g12, .int g13, .int g14, .ref g15, .int g16, .ref g17, .ref g18, .ref g19, .ref g20, .ref g21, .ref g22, .int g23, .ref g24, .int g25, .int g26, .int g27, .int g28, .ref g29, .int g30, .int g31, .int g32])), (g5, .inl (cI, 8, .inl fc))]) [0, 1] (by decide) rfl
                refine W.widen (k := 0) (n := 0) (by first | exact Nat.le_refl _ | omega) (by first | exact Nat.le_refl _ | omega) ?_
                exact W.iret (v := -1) hx hb hr (fun t ht hW => ⟨⟨-1, (), rfl, (by rw [if_neg c_1, if_neg c_2, if_pos c_7, if_neg c_8, if_neg c_9, if_neg c_10, if_neg c_11]), by rw [ht]; exact hP9, va_K.moved hW.alike hK, hD9⟩, hS.F ht⟩) hS.2.2 dd_M_of_84
              · refine lv_aload_n hx hb dd_M_of_76 rfl (lv_at hl 0 rfl) ?_
                refine va_get (D := (dC, dI)) (ci := 1) (v := .int g6) (C := RR_M) (T := TT_M) (N := 33) hx hb hw hh_M hown hK hP 0 rfl rfl 6 (by decide) (hw _ qq_585) (fun _ h9 => h9) rfl dd_M_of_77 ?_
                refine lv_goto (tgt := 84) hx hb dd_M_of_80 (by decide) ?_
                have hP9 := hP.sub (ws' := [(h, .inr (1, [.int 0, .int g1, .int g2, .int g3, .int g4, .ref g5, .int g6, .ref g7, .ref g8, .ref g9, .ref g10, .ref g11, .int g12, .int g13, .int g14, .ref g15, .int g16, .ref g17, .ref g18, .ref g19, .ref g20, .ref g21, .ref g22, .int g23, .ref g24, .int g25, .int g26, .int g27, .int g28, .ref g29, .int g30, .int g31, .int g32])), (g5, .inl (cI, 8, .inl fc))]) [0, 1] rfl
                have hD9 := hD.sub (ws' := [(h, .inr (1, [.int 0, .int g1, .int g2, .int g3, .int g4, .ref g5, .int g6, .ref g7, .ref g8, .ref g9, .ref g10, .ref g11, .int g12, .int g13, .int g14, .ref g15, .int g16, .ref g17, .ref g18, .ref g19, .ref g20, .ref g21, .ref g22, .int g23, .ref g24, .int g25, .int g26, .int g27, .int g28, .ref g29, .int g30, .int g31, .int g32])), (g5, .inl (cI, 8, .inl fc))]) [0, 1] (by decide) rfl
                refine W.widen (k := 0) (n := 0) (by first | exact Nat.le_refl _ | omega) (by first | exact Nat.le_refl _ | omega) ?_
                exact W.iret (v := g6) hx hb hr (fun t ht hW => ⟨⟨g6, (), rfl, (by rw [if_neg c_1, if_neg c_2, if_pos c_7, if_neg c_8, if_neg c_9, if_neg c_10, if_pos c_11]), by rw [ht]; exact hP9, va_K.moved hW.alike hK, hD9⟩, hS.F ht⟩) hS.2.2 dd_M_of_84
            · refine lv_aload_n hx hb dd_M_of_64 rfl (lv_at hl 0 rfl) ?_
              refine va_get (D := (dC, dI)) (ci := 1) (v := .int g4) (C := RR_M) (T := TT_M) (N := 33) hx hb hw hh_M hown hK hP 0 rfl rfl 4 (by decide) (hw _ qq_583) (fun _ h9 => h9) rfl dd_M_of_65 ?_
              refine lv_goto (tgt := 84) hx hb dd_M_of_68 (by decide) ?_
              have hP9 := hP.sub (ws' := [(h, .inr (1, [.int 0, .int g1, .int g2, .int g3, .int g4, .ref g5, .int g6, .ref g7, .ref g8, .ref g9, .ref g10, .ref g11, .int g12, .int g13, .int g14, .ref g15, .int g16, .ref g17, .ref g18, .ref g19, .ref g20, .ref g21, .ref g22, .int g23, .ref g24, .int g25, .int g26, .int g27, .int g28, .ref g29, .int g30, .int g31, .int g32])), (g5, .inl (cI, 8, .inl fc))]) [0, 1] rfl
              have hD9 := hD.sub (ws' := [(h, .inr (1, [.int 0, .int g1, .int g2, .int g3, .int g4, .ref g5, .int g6, .ref g7, .ref g8, .ref g9, .ref g10, .ref g11, .int g12, .int g13, .int g14, .ref g15, .int g16, .ref g17, .ref g18, .ref g19, .ref g20, .ref g21, .ref g22, .int g23, .ref g24, .int g25, .int g26, .int g27, .int g28, .ref g29, .int g30, .int g31, .int g32])), (g5, .inl (cI, 8, .inl fc))]) [0, 1] (by decide) rfl
              refine W.widen (k := 0) (n := 0) (by first | exact Nat.le_refl _ | omega) (by first | exact Nat.le_refl _ | omega) ?_
              exact W.iret (v := g4) hx hb hr (fun t ht hW => ⟨⟨g4, (), rfl, (by rw [if_neg c_1, if_neg c_2, if_pos c_7, if_neg c_8, if_neg c_9, if_pos c_10]), by rw [ht]; exact hP9, va_K.moved hW.alike hK, hD9⟩, hS.F ht⟩) hS.2.2 dd_M_of_84
          · refine lv_aload_n hx hb dd_M_of_52 rfl (lv_at hl 0 rfl) ?_
            refine va_get (D := (dC, dI)) (ci := 1) (v := .int g3) (C := RR_M) (T := TT_M) (N := 33) hx hb hw hh_M hown hK hP 0 rfl rfl 3 (by decide) (hw _ qq_582) (fun _ h9 => h9) rfl dd_M_of_53 ?_
            refine lv_goto (tgt := 84) hx hb dd_M_of_56 (by decide) ?_
            have hP9 := hP.sub (ws' := [(h, .inr (1, [.int 0, .int g1, .int g2, .int g3, .int g4, .ref g5, .int g6, .ref g7, .ref g8, .ref g9, .ref g10, .ref g11, .int g12, .int g13, .int g14, .ref g15, .int g16, .ref g17, .ref g18, .ref g19, .ref g20, .ref g21, .ref g22, .int g23, .ref g24, .int g25, .int g26, .int g27, .int g28, .ref g29, .int g30, .int g31, .int g32])), (g5, .inl (cI, 8, .inl fc))]) [0, 1] rfl
            have hD9 := hD.sub (ws' := [(h, .inr (1, [.int 0, .int g1, .int g2, .int g3, .int g4, .ref g5, .int g6, .ref g7, .ref g8, .ref g9, .ref g10, .ref g11, .int g12, .int g13, .int g14, .ref g15, .int g16, .ref g17, .ref g18, .ref g19, .ref g20, .ref g21, .ref g22, .int g23, .ref g24, .int g25, .int g26, .int g27, .int g28, .ref g29, .int g30, .int g31, .int g32])), (g5, .inl (cI, 8, .inl fc))]) [0, 1] (by decide) rfl
            refine W.widen (k := 0) (n := 0) (by first | exact Nat.le_refl _ | omega) (by first | exact Nat.le_refl _ | omega) ?_
            exact W.iret (v := g3) hx hb hr (fun t ht hW => ⟨⟨g3, (), rfl, (by rw [if_neg c_1, if_neg c_2, if_pos c_7, if_neg c_8, if_pos c_9]), by rw [ht]; exact hP9, va_K.moved hW.alike hK, hD9⟩, hS.F ht⟩) hS.2.2 dd_M_of_84
        · refine lv_aload_n hx hb dd_M_of_40 rfl (lv_at hl 0 rfl) ?_
          refine va_get (D := (dC, dI)) (ci := 1) (v := .int g2) (C := RR_M) (T := TT_M) (N := 33) hx hb hw hh_M hown hK hP 0 rfl rfl 2 (by decide) (hw _ qq_581) (fun _ h9 => h9) rfl dd_M_of_41 ?_
          refine lv_goto (tgt := 84) hx hb dd_M_of_44 (by decide) ?_
          have hP9 := hP.sub (ws' := [(h, .inr (1, [.int 0, .int g1, .int g2, .int g3, .int g4, .ref g5, .int g6, .ref g7, .ref g8, .ref g9, .ref g10, .ref g11, .int g12, .int g13, .int g14, .ref g15, .int g16, .ref g17, .ref g18, .ref g19, .ref g20, .ref g21, .ref g22, .int g23, .ref g24, .int g25, .int g26, .int g27, .int g28, .ref g29, .int g30, .int g31, .int g32])), (g5, .inl (cI, 8, .inl fc))]) [0, 1] rfl
          have hD9 := hD.sub (ws' := [(h, .inr (1, [.int 0, .int g1, .int g2, .int g3, .int g4, .ref g5, .int g6, .ref g7, .ref g8, .ref g9, .ref g10, .ref g11, .int g12, .int g13, .int g14, .ref g15, .int g16, .ref g17, .ref g18, .ref g19, .ref g20, .ref g21, .ref g22, .int g23, .ref g24, .int g25, .int g26, .int g27, .int g28, .ref g29, .int g30, .int g31, .int g32])), (g5, .inl (cI, 8, .inl fc))]) [0, 1] (by decide) rfl
          refine W.widen (k := 0) (n := 0) (by first | exact Nat.le_refl _ | omega) (by first | exact Nat.le_refl _ | omega) ?_
          exact W.iret (v := g2) hx hb hr (fun t ht hW => ⟨⟨g2, (), rfl, (by rw [if_neg c_1, if_neg c_2, if_pos c_7, if_pos c_8]), by rw [ht]; exact hP9, va_K.moved hW.alike hK, hD9⟩, hS.F ht⟩) hS.2.2 dd_M_of_84
      · refine lv_aload_n hx hb dd_M_of_26 rfl (lv_at hl 0 rfl) ?_
        refine va_get (D := (dC, dI)) (ci := 1) (v := .ref g5) (C := RR_M) (T := TT_M) (N := 33) hx hb hw hh_M hown hK hP 0 rfl rfl 5 (by decide) (hw _ qq_584) (fun _ h9 => h9) rfl dd_M_of_27 ?_
        refine lv_iload_n hx hb dd_M_of_30 rfl (lv_at hl 1 rfl) ?_
        refine lv_bipush (v := 8) hx hb dd_M_of_31 (by decide) ?_
        refine lv_isub hx hb dd_M_of_33 ?_
        refine va_iald hx hb hK hP 1 1 rfl rfl (vp_in_s8 c_2 c_7) dd_M_of_34 ?_
        have hP9 := hP.sub (ws' := [(h, .inr (1, [.int 0, .int g1, .int g2, .int g3, .int g4, .ref g5, .int g6, .ref g7, .ref g8, .ref g9, .ref g10, .ref g11, .int g12, .int g13, .int g14, .ref g15, .int g16, .ref g17, .ref g18, .ref g19, .ref g20, .ref g21, .ref g22, .int g23, .ref g24, .int g25, .int g26, .int g27, .int g28, .ref g29, .int g30, .int g31, .int g32])), (g5, .inl (cI, 8, .inl fc))]) [0, 1] rfl
        have hD9 := hD.sub (ws' := [(h, .inr (1, [.int 0, .int g1, .int g2, .int g3, .int g4, .ref g5, .int g6, .ref g7, .ref g8, .ref g9, .ref g10, .ref g11, .int g12, .int g13, .int g14, .ref g15, .int g16, .ref g17, .ref g18, .ref g19, .ref g20, .ref g21, .ref g22, .int g23, .ref g24, .int g25, .int g26, .int g27, .int g28, .ref g29, .int g30, .int g31, .int g32])), (g5, .inl (cI, 8, .inl fc))]) [0, 1] (by decide) rfl
        refine W.widen (k := 0) (n := 0) (by first | exact Nat.le_refl _ | omega) (by first | exact Nat.le_refl _ | omega) ?_
        exact W.iret (v := fc (p0 - 8).toNatClampNeg) hx hb hr (fun t ht hW => ⟨⟨fc (p0 - 8).toNatClampNeg, (), rfl, (by rw [if_neg c_1, if_neg c_2, if_neg c_7]), by rw [ht]; exact hP9, va_K.moved hW.alike hK, hD9⟩, hS.F ht⟩) hS.2.2 dd_M_of_35
  · refine lv_iconst (v := -1) hx hb dd_M_of_12 (by decide) ?_
    have hP9 := hP.sub (ws' := [(h, .inr (1, [.int 0, .int g1, .int g2, .int g3, .int g4, .ref g5, .int g6, .ref g7, .ref g8, .ref g9, .ref g10, .ref g11, .int g12, .int g13, .int g14, .ref g15, .int g16, .ref g17, .ref g18, .ref g19, .ref g20, .ref g21, .ref g22, .int g23, .ref g24, .int g25, .int g26, .int g27, .int g28, .ref g29, .int g30, .int g31, .int g32])), (g5, .inl (cI, 8, .inl fc))]) [0, 1] rfl
    have hD9 := hD.sub (ws' := [(h, .inr (1, [.int 0, .int g1, .int g2, .int g3, .int g4, .ref g5, .int g6, .ref g7, .ref g8, .ref g9, .ref g10, .ref g11, .int g12, .int g13, .int g14, .ref g15, .int g16, .ref g17, .ref g18, .ref g19, .ref g20, .ref g21, .ref g22, .int g23, .ref g24, .int g25, .int g26, .int g27, .int g28, .ref g29, .int g30, .int g31, .int g32])), (g5, .inl (cI, 8, .inl fc))]) [0, 1] (by decide) rfl
    refine W.widen (k := 0) (n := 0) (by first | exact Nat.le_refl _ | omega) (by first | exact Nat.le_refl _ | omega) ?_
    exact W.iret (v := -1) hx hb hr (fun t ht hW => ⟨⟨-1, (), rfl, (by rw [if_pos c_1]), by rw [ht]; exact hP9, va_K.moved hW.alike hK, hD9⟩, hS.F ht⟩) hS.2.2 dd_M_of_13

set_option maxHeartbeats 4000000 in
set_option maxRecDepth 100000 in
/-- output(k) -/
theorem cb_M_output (l : Launch) (dC : Nat → ClassId) (dI : Nat → Nat → Nat) (cB cI cJ : ClassId) (sz : Nat) (h : Nat) (g0 g1 g2 g3 g4 g6 g12 g13 g14 g16 g25 g26 g27 g28 g30 g31 g32 : Int32) (g5 g7 g8 g9 g10 g11 g15 g17 g18 g19 g20 g21 g22 g24 g29 : Nat) (f : Nat → Int32) (bs : List Int32) (hH : Hd bs f) (hb4 : bs.length ≤ 4096) (p0 : Int32) : Met l yy_M_output (Cond.code yy_M_output cc_M_output 2 (some .int) :: gw) { frames := 0, cells := 0, slots := 0, locals := 0 } (va_Pc [.ref h, .int p0] (ks_pre dC dI [(cB, .byte), (cI, .int), (cJ, .long)] [(h, .inr (1, [.int g0, .int g1, .int g2, .int g3, .int g4, .ref g5, .int g6, .ref g7, .ref g8, .ref g9, .ref g10, .ref g11, .int g12, .int g13, .int g14, .ref g15, .int g16, .ref g17, .ref g18, .ref g19, .ref g20, .ref g21, .ref g22, .int (nI bs.length), .ref g24, .int g25, .int g26, .int g27, .int g28, .ref g29, .int g30, .int g31, .int g32])), (g22, .inl (cB, 4096, .inl f))] sz)) (va_Qi (fun r (_u : Unit) => r = (if p0 < 0 then -1 else if p0 < nI bs.length then bs.getD p0.toNatClampNeg 0 &&& 255 else -1)) (fun (_u : Unit) => ks_post dC dI [(cB, .byte), (cI, .int), (cJ, .long)] (va_A [(h, .inr (1, [.int g0, .int g1, .int g2, .int g3, .int g4, .ref g5, .int g6, .ref g7, .ref g8, .ref g9, .ref g10, .ref g11, .int g12, .int g13, .int g14, .ref g15, .int g16, .ref g17, .ref g18, .ref g19, .ref g20, .ref g21, .ref g22, .int (nI bs.length), .ref g24, .int g25, .int g26, .int g27, .int g28, .ref g29, .int g30, .int g31, .int g32])), (g22, .inl (cB, 4096, .inl f))] sz) [(h, .inr (1, [.int 0, .int g1, .int g2, .int g3, .int g4, .ref g5, .int g6, .ref g7, .ref g8, .ref g9, .ref g10, .ref g11, .int g12, .int g13, .int g14, .ref g15, .int g16, .ref g17, .ref g18, .ref g19, .ref g20, .ref g21, .ref g22, .int (nI bs.length), .ref g24, .int g25, .int g26, .int g27, .int g28, .ref g29, .int g30, .int g31, .int g32])), (g22, .inl (cB, 4096, .inl f))]) (va_A [(h, .inr (1, [.int g0, .int g1, .int g2, .int g3, .int g4, .ref g5, .int g6, .ref g7, .ref g8, .ref g9, .ref g10, .ref g11, .int g12, .int g13, .int g14, .ref g15, .int g16, .ref g17, .ref g18, .ref g19, .ref g20, .ref g21, .ref g22, .int (nI bs.length), .ref g24, .int g25, .int g26, .int g27, .int g28, .ref g29, .int g30, .int g31, .int g32])), (g22, .inl (cB, 4096, .inl f))] sz)) 0 0 (va_A [(h, .inr (1, [.int g0, .int g1, .int g2, .int g3, .int g4, .ref g5, .int g6, .ref g7, .ref g8, .ref g9, .ref g10, .ref g11, .int g12, .int g13, .int g14, .ref g15, .int g16, .ref g17, .ref g18, .ref g19, .ref g20, .ref g21, .ref g22, .int (nI bs.length), .ref g24, .int g25, .int g26, .int g27, .int g28, .ref g29, .int g30, .int g31, .int g32])), (g22, .inl (cB, 4096, .inl f))] sz) := by
  refine Met.ofW (cc := cc_M_output) (maxL := 2) (ret := (some .int)) (by decide) rfl ?_
  intro p e s m args below meth c s₁ B hml hv
  obtain ⟨rfl, hsz, hP, hK, hD0⟩ := hv
  have hx := B.exec
  have hb := B.bytes
  have hr := B.returns
  have hw : ∀ w ∈ gw, w.before _ s = true := fun w h => atoms_spec (ws := (Cond.code yy_M_output cc_M_output 2 (some .int) :: gw)) B.pre w (List.mem_cons_of_mem _ h)
  have hown : s.vm.findClass RR_M = some m.cls := findClass_of_methodNamed B.named
  have hlocks := B.notSynchronized
  subst hsz
  have hD := hD0.self (sz := s.heap.size)
  generalize hAe : va_A [(h, .inr (1, [.int g0, .int g1, .int g2, .int g3, .int g4, .ref g5, .int g6, .ref g7, .ref g8, .ref g9, .ref g10, .ref g11, .int g12, .int g13, .int g14, .ref g15, .int g16, .ref g17, .ref g18, .ref g19, .ref g20, .ref g21, .ref g22, .int (nI bs.length), .ref g24, .int g25, .int g26, .int g27, .int g28, .ref g29, .int g30, .int g31, .int g32])), (g22, .inl (cB, 4096, .inl f))] s.heap.size = A at hD ⊢
  have hA : ∀ q : Nat, s.heap.size ≤ q → A q := fun q h => by rw [← hAe]; exact Or.inr h
  have hS : va_S A s.heap s.heap [] := va_S.rf
  have hP : va_P (dC, dI) vcl [(h, .inr (1, [.int g0, .int g1, .int g2, .int g3, .int g4, .ref g5, .int g6, .ref g7, .ref g8, .ref g9, .ref g10, .ref g11, .int g12, .int g13, .int g14, .ref g15, .int g16, .ref g17, .ref g18, .ref g19, .ref g20, .ref g21, .ref g22, .int (nI bs.length), .ref g24, .int g25, .int g26, .int g27, .int g28, .ref g29, .int g30, .int g31, .int g32])), (g22, .inl (cB, 4096, .inl f))] s.heap := hP
  have hl := lv_entry ([.ref h, .int p0]) (n := 2) (Nat.le_of_ble_eq_true rfl)
  rw [lg_entry_eq]
  generalize (lg_sl ([.ref h, .int p0]) ++ List.replicate (2 - (lg_sl ([.ref h, .int p0])).length) Slot.unset).toArray = ls at hl ⊢
  have hl : lv_has ls 2 [(0, .ref h), (1, .int p0)] := hl
  refine lv_aload_n hx hb dd_M_output_0 rfl (lv_at hl 0 rfl) ?_
  refine lv_iconst (v := 0) hx hb dd_M_output_1 (by decide) ?_
  refine va_put (D := (dC, dI)) (ci := 1) (v := .int 0) (ty := .int) (C := RR_M) (T := TT_M) (N := 33) hx hb hw hh_M ty_M ty_M_ok nm_M hown hK hP hD hS 0 rfl rfl 0 (by decide) (hw _ qq_579) (fun _ h9 => h9) rfl (by decide +kernel) rfl rfl (Nat.le_of_ble_eq_true rfl) dd_M_output_2 (fun H locs hP hD hS => ?_)
  have hP : va_P (dC, dI) vcl [(h, .inr (1, [.int 0, .int g1, .int g2, .int g3, .int g4, .ref g5, .int g6, .ref g7, .ref g8, .ref g9, .ref g10, .ref g11, .int g12, .int g13, .int g14, .ref g15, .int g16, .ref g17, .ref g18, .ref g19, .ref g20, .ref g21, .ref g22, .int (nI bs.length), .ref g24, .int g25, .int g26, .int g27, .int g28, .ref g29, .int g30, .int g31, .int g32])), (g22, .inl (cB, 4096, .inl f))] H := hP
  have hD : va_D A [(h, .inr (1, [.int 0, .int g1, .int g2, .int g3, .int g4, .ref g5, .int g6, .ref g7, .ref g8, .ref g9, .ref g10, .ref g11, .int g12, .int g13, .int g14, .ref g15, .int g16, .ref g17, .ref g18, .ref g19, .ref g20, .ref g21, .ref g22, .int (nI bs.length), .ref g24, .int g25, .int g26, .int g27, .int g28, .ref g29, .int g30, .int g31, .int g32])), (g22, .inl (cB, 4096, .inl f))] := hD
  refine lv_iload_n hx hb dd_M_output_5 rfl (lv_at hl 1 rfl) ?_
  refine lv_if_lt (tgt := 17) hx hb dd_M_output_6 (by decide) (fun c_1 => ?_) (fun c_1 => ?_)
  · refine lv_iconst (v := -1) hx hb dd_M_output_17 (by decide) ?_
    refine lv_goto (tgt := 31) hx hb dd_M_output_18 (by decide) ?_
    have hP9 := hP.sub (ws' := [(h, .inr (1, [.int 0, .int g1, .int g2, .int g3, .int g4, .ref g5, .int g6, .ref g7, .ref g8, .ref g9, .ref g10, .ref g11, .int g12, .int g13, .int g14, .ref g15, .int g16, .ref g17, .ref g18, .ref g19, .ref g20, .ref g21, .ref g22, .int (nI bs.length), .ref g24, .int g25, .int g26, .int g27, .int g28, .ref g29, .int g30, .int g31, .int g32])), (g22, .inl (cB, 4096, .inl f))]) [0, 1] rfl
    have hD9 := hD.sub (ws' := [(h, .inr (1, [.int 0, .int g1, .int g2, .int g3, .int g4, .ref g5, .int g6, .ref g7, .ref g8, .ref g9, .ref g10, .ref g11, .int g12, .int g13, .int g14, .ref g15, .int g16, .ref g17, .ref g18, .ref g19, .ref g20, .ref g21, .ref g22, .int (nI bs.length), .ref g24, .int g25, .int g26, .int g27, .int g28, .ref g29, .int g30, .int g31, .int g32])), (g22, .inl (cB, 4096, .inl f))]) [0, 1] (by decide) rfl
    refine W.widen (k := 0) (n := 0) (by first | exact Nat.le_refl _ | omega) (by first | exact Nat.le_refl _ | omega) ?_
    exact W.iret (v := -1) hx hb hr (fun t ht hW => ⟨⟨-1, (), rfl, (by rw [if_pos c_1]), by rw [ht]; exact hP9, va_K.moved hW.alike hK, hD9⟩, hS.F ht⟩) hS.2.2 dd_M_output_31
  · refine lv_iload_n hx hb dd_M_output_9 rfl (lv_at hl 1 rfl) ?_
    refine lv_aload_n hx hb dd_M_output_10 rfl (lv_at hl 0 rfl) ?_
    refine va_get (D := (dC, dI)) (ci := 1) (v := .int (nI bs.length)) (C := RR_M) (T := TT_M) (N := 33) hx hb hw hh_M hown hK hP 0 rfl rfl 23 (by decide) (hw _ qq_602) (fun _ h9 => h9) rfl dd_M_output_11 ?_
    refine lv_icmp_lt (tgt := 21) hx hb dd_M_output_14 (by decide) (fun c_2 => ?_) (fun c_2 => ?_)
    · refine lv_aload_n hx hb dd_M_output_21 rfl (lv_at hl 0 rfl) ?_
      refine va_get (D := (dC, dI)) (ci := 1) (v := .ref g22) (C := RR_M) (T := TT_M) (N := 33) hx hb hw hh_M hown hK hP 0 rfl rfl 22 (by decide) (hw _ qq_601) (fun _ h9 => h9) rfl dd_M_output_22 ?_
      refine lv_iload_n hx hb dd_M_output_25 rfl (lv_at hl 1 rfl) ?_
      refine va_bald hx hb hK hP 1 0 rfl rfl (vp_in_mn (mn := bs.length) (by omega) (by decide) c_1 (fun z => absurd c_2 (Int32.not_lt.mpr z))) dd_M_output_26 ?_
      refine lv_sipush (v := 255) hx hb dd_M_output_27 (by decide) ?_
      refine lv_iand hx hb dd_M_output_30 ?_
      have hP9 := hP.sub (ws' := [(h, .inr (1, [.int 0, .int g1, .int g2, .int g3, .int g4, .ref g5, .int g6, .ref g7, .ref g8, .ref g9, .ref g10, .ref g11, .int g12, .int g13, .int g14, .ref g15, .int g16, .ref g17, .ref g18, .ref g19, .ref g20, .ref g21, .ref g22, .int (nI bs.length), .ref g24, .int g25, .int g26, .int g27, .int g28, .ref g29, .int g30, .int g31, .int g32])), (g22, .inl (cB, 4096, .inl f))]) [0, 1] rfl
      have hD9 := hD.sub (ws' := [(h, .inr (1, [.int 0, .int g1, .int g2, .int g3, .int g4, .ref g5, .int g6, .ref g7, .ref g8, .ref g9, .ref g10, .ref g11, .int g12, .int g13, .int g14, .ref g15, .int g16, .ref g17, .ref g18, .ref g19, .ref g20, .ref g21, .ref g22, .int (nI bs.length), .ref g24, .int g25, .int g26, .int g27, .int g28, .ref g29, .int g30, .int g31, .int g32])), (g22, .inl (cB, 4096, .inl f))]) [0, 1] (by decide) rfl
      refine W.widen (k := 0) (n := 0) (by first | exact Nat.le_refl _ | omega) (by first | exact Nat.le_refl _ | omega) ?_
      exact W.iret (v := (f p0.toNatClampNeg) &&& 255) hx hb hr (fun t ht hW => ⟨⟨(f p0.toNatClampNeg) &&& 255, (), rfl, (by rw [if_neg c_1, if_pos c_2, hH _ (vp_lt_n (by omega) c_1 c_2)]; exact by8_and _), by rw [ht]; exact hP9, va_K.moved hW.alike hK, hD9⟩, hS.F ht⟩) hS.2.2 dd_M_output_31
    · refine lv_iconst (v := -1) hx hb dd_M_output_17 (by decide) ?_
      refine lv_goto (tgt := 31) hx hb dd_M_output_18 (by decide) ?_
      have hP9 := hP.sub (ws' := [(h, .inr (1, [.int 0, .int g1, .int g2, .int g3, .int g4, .ref g5, .int g6, .ref g7, .ref g8, .ref g9, .ref g10, .ref g11, .int g12, .int g13, .int g14, .ref g15, .int g16, .ref g17, .ref g18, .ref g19, .ref g20, .ref g21, .ref g22, .int (nI bs.length), .ref g24, .int g25, .int g26, .int g27, .int g28, .ref g29, .int g30, .int g31, .int g32])), (g22, .inl (cB, 4096, .inl f))]) [0, 1] rfl
      have hD9 := hD.sub (ws' := [(h, .inr (1, [.int 0, .int g1, .int g2, .int g3, .int g4, .ref g5, .int g6, .ref g7, .ref g8, .ref g9, .ref g10, .ref g11, .int g12, .int g13, .int g14, .ref g15, .int g16, .ref g17, .ref g18, .ref g19, .ref g20, .ref g21, .ref g22, .int (nI bs.length), .ref g24, .int g25, .int g26, .int g27, .int g28, .ref g29, .int g30, .int g31, .int g32])), (g22, .inl (cB, 4096, .inl f))]) [0, 1] (by decide) rfl
      refine W.widen (k := 0) (n := 0) (by first | exact Nat.le_refl _ | omega) (by first | exact Nat.le_refl _ | omega) ?_
      exact W.iret (v := -1) hx hb hr (fun t ht hW => ⟨⟨-1, (), rfl, (by rw [if_neg c_1, if_neg c_2]), by rw [ht]; exact hP9, va_K.moved hW.alike hK, hD9⟩, hS.F ht⟩) hS.2.2 dd_M_output_31

set_option maxHeartbeats 4000000 in
set_option maxRecDepth 100000 in
/-- key(i), there is one -/
theorem cb_M_key_y (l : Launch) (dC : Nat → ClassId) (dI : Nat → Nat → Nat) (cB cI cJ : ClassId) (sz : Nat) (h : Nat) (g0 g1 g2 g3 g4 g12 g13 g14 g16 g23 g25 g26 g27 g28 g30 g31 g32 : Int32) (g5 g7 g8 g9 g10 g11 g15 g17 g18 g19 g20 g21 g22 g24 g29 : Nat) (mn : Nat) (hmn : mn ≤ 16) (fk : Nat → Int64) (p0 : Int32) (hC : (¬ g1 = 0 ∧ ¬ p0 < 0 ∧ ¬ nI mn ≤ p0)) : Met l yy_M_key (Cond.code yy_M_key cc_M_key 2 (some .long) :: gw) { frames := 1, cells := 0, slots := 0, locals := 21 } (va_Pc [.ref h, .int p0] (ks_pre dC dI [(cB, .byte), (cI, .int), (cJ, .long)] [(h, .inr (1, [.int g0, .int g1, .int g2, .int g3, .int g4, .ref g5, .int (nI mn), .ref g7, .ref g8, .ref g9, .ref g10, .ref g11, .int g12, .int g13, .int g14, .ref g15, .int g16, .ref g17, .ref g18, .ref g19, .ref g20, .ref g21, .ref g22, .int g23, .ref g24, .int g25, .int g26, .int g27, .int g28, .ref g29, .int g30, .int g31, .int g32])), (g9, .inl (cJ, 16, .inr (.inl fk)))] sz)) (va_Ql (fun r (_u : Unit) => r = fk p0.toNatClampNeg) (fun (_u : Unit) => ks_post dC dI [(cB, .byte), (cI, .int), (cJ, .long)] (va_A [(h, .inr (1, [.int g0, .int g1, .int g2, .int g3, .int g4, .ref g5, .int (nI mn), .ref g7, .ref g8, .ref g9, .ref g10, .ref g11, .int g12, .int g13, .int g14, .ref g15, .int g16, .ref g17, .ref g18, .ref g19, .ref g20, .ref g21, .ref g22, .int g23, .ref g24, .int g25, .int g26, .int g27, .int g28, .ref g29, .int g30, .int g31, .int g32])), (g9, .inl (cJ, 16, .inr (.inl fk)))] sz) [(h, .inr (1, [.int 0, .int g1, .int g2, .int g3, .int g4, .ref g5, .int (nI mn), .ref g7, .ref g8, .ref g9, .ref g10, .ref g11, .int g12, .int g13, .int g14, .ref g15, .int g16, .ref g17, .ref g18, .ref g19, .ref g20, .ref g21, .ref g22, .int g23, .ref g24, .int g25, .int g26, .int g27, .int g28, .ref g29, .int g30, .int g31, .int g32])), (g9, .inl (cJ, 16, .inr (.inl fk)))]) (va_A [(h, .inr (1, [.int g0, .int g1, .int g2, .int g3, .int g4, .ref g5, .int (nI mn), .ref g7, .ref g8, .ref g9, .ref g10, .ref g11, .int g12, .int g13, .int g14, .ref g15, .int g16, .ref g17, .ref g18, .ref g19, .ref g20, .ref g21, .ref g22, .int g23, .ref g24, .int g25, .int g26, .int g27, .int g28, .ref g29, .int g30, .int g31, .int g32])), (g9, .inl (cJ, 16, .inr (.inl fk)))] sz)) 0 0 (va_A [(h, .inr (1, [.int g0, .int g1, .int g2, .int g3, .int g4, .ref g5, .int (nI mn), .ref g7, .ref g8, .ref g9, .ref g10, .ref g11, .int g12, .int g13, .int g14, .ref g15, .int g16, .ref g17, .ref g18, .ref g19, .ref g20, .ref g21, .ref g22, .int g23, .ref g24, .int g25, .int g26, .int g27, .int g28, .ref g29, .int g30, .int g31, .int g32])), (g9, .inl (cJ, 16, .inr (.inl fk)))] sz) := by
  refine Met.ofW (cc := cc_M_key) (maxL := 2) (ret := (some .long)) (by decide) rfl ?_
  intro p e s m args below meth c s₁ B hml hv
  obtain ⟨rfl, hsz, hP, hK, hD0⟩ := hv
  have hx := B.exec
  have hb := B.bytes
  have hr := B.returns
  have hw : ∀ w ∈ gw, w.before _ s = true := fun w h => atoms_spec (ws := (Cond.code yy_M_key cc_M_key 2 (some .long) :: gw)) B.pre w (List.mem_cons_of_mem _ h)
  have hown : s.vm.findClass RR_M = some m.cls := findClass_of_methodNamed B.named
  have hlocks := B.notSynchronized
  subst hsz
  have hD := hD0.self (sz := s.heap.size)
  generalize hAe : va_A [(h, .inr (1, [.int g0, .int g1, .int g2, .int g3, .int g4, .ref g5, .int (nI mn), .ref g7, .ref g8, .ref g9, .ref g10, .ref g11, .int g12, .int g13, .int g14, .ref g15, .int g16, .ref g17, .ref g18, .ref g19, .ref g20, .ref g21, .ref g22, .int g23, .ref g24, .int g25, .int g26, .int g27, .int g28, .ref g29, .int g30, .int g31, .int g32])), (g9, .inl (cJ, 16, .inr (.inl fk)))] s.heap.size = A at hD ⊢
  have hA : ∀ q : Nat, s.heap.size ≤ q → A q := fun q h => by rw [← hAe]; exact Or.inr h
  have hS : va_S A s.heap s.heap [] := va_S.rf
  have hP : va_P (dC, dI) vcl [(h, .inr (1, [.int g0, .int g1, .int g2, .int g3, .int g4, .ref g5, .int (nI mn), .ref g7, .ref g8, .ref g9, .ref g10, .ref g11, .int g12, .int g13, .int g14, .ref g15, .int g16, .ref g17, .ref g18, .ref g19, .ref g20, .ref g21, .ref g22, .int g23, .ref g24, .int g25, .int g26, .int g27, .int g28, .ref g29, .int g30, .int g31, .int g32])), (g9, .inl (cJ, 16, .inr (.inl fk)))] s.heap := hP
  have hl := lv_entry ([.ref h, .int p0]) (n := 2) (Nat.le_of_ble_eq_true rfl)
  rw [lg_entry_eq]
  generalize (lg_sl ([.ref h, .int p0]) ++ List.replicate (2 - (lg_sl ([.ref h, .int p0])).length) Slot.unset).toArray = ls at hl ⊢
  have hl : lv_has ls 2 [(0, .ref h), (1, .int p0)] := hl
  refine lv_aload_n hx hb dd_M_key_0 rfl (lv_at hl 0 rfl) ?_
  refine lv_aload_n hx hb dd_M_key_1 rfl (lv_at hl 0 rfl) ?_
  refine lv_iload_n hx hb dd_M_key_2 rfl (lv_at hl 1 rfl) ?_
  have hPc := hP.sub (ws' := [(h, .inr (1, [.int g0, .int g1, .int g2, .int g3, .int g4, .ref g5, .int (nI mn), .ref g7, .ref g8, .ref g9, .ref g10, .ref g11, .int g12, .int g13, .int g14, .ref g15, .int g16, .ref g17, .ref g18, .ref g19, .ref g20, .ref g21, .ref g22, .int g23, .ref g24, .int g25, .int g26, .int g27, .int g28, .ref g29, .int g30, .int g31, .int g32]))]) [0] rfl
  refine W.callR (W.runV (As := [.int p0]) (rest := [.ref h]) ⟨hx, hb, hml, hown, hw⟩ (cp_M_isIn l dC dI cB cI cJ h g0 g1 g2 g3 g4 (nI mn) g12 g13 g14 g16 g23 g25 g26 g27 g28 g30 g31 g32 g5 g7 g8 g9 g10 g11 g15 g17 g18 g19 g20 g21 g22 g24 g29 p0) (kw_V 1 hw qq_845 qq_5 qq_848 qq_847 qs_M_isIn rfl rfl (by decide +kernel) ⟨Nat.le_of_ble_eq_true rfl, Nat.le_of_ble_eq_true rfl⟩) ⟨fun a U g mk q => by obtain ⟨q0, qP, qK⟩ := q; exact ⟨q0, qP, va_K.moved (u := U) (U := U.calling g mk a) (Vm.Alike.refl U.vm) qK⟩, va_recv hK hPc (ci := 1) (q0 := 0) rfl rfl, fun U hU hW => ⟨rfl, by rw [hU]; exact hPc, va_K.moved hW.alike hK⟩⟩ rfl rfl hl.1 rfl (lv_room (Nat.le_of_ble_eq_true rfl)) dd_M_key_3 ⟨by first | exact Nat.le_of_ble_eq_true rfl | (simp only [headSpec]; omega), by first | exact Nat.le_of_ble_eq_true rfl | (simp only [headSpec]; omega)⟩) ?_
  refine W.eq (g2 := F0 m 6 ls [.int (b2i (decide (¬ g1 = 0 ∧ ¬ p0 < 0 ∧ ¬ (nI mn) ≤ p0))), .ref h]) rfl ?_
  refine lv_if_eq (tgt := 13) hx hb dd_M_key_6 (by decide) (fun c_1 => ?_) (fun c_1 => ?_)
  · have c_1 := b2i_1.mp c_1
    exact absurd hC c_1
  · have c_1 := Classical.not_not.mp (mt b2i_1.mpr c_1)
    refine lv_iconst (v := 0) hx hb dd_M_key_9 (by decide) ?_
    refine lv_goto (tgt := 14) hx hb dd_M_key_10 (by decide) ?_
    refine va_put (D := (dC, dI)) (ci := 1) (v := .int 0) (ty := .int) (C := RR_M) (T := TT_M) (N := 33) hx hb hw hh_M ty_M ty_M_ok nm_M hown hK hP hD hS 0 rfl rfl 0 (by decide) (hw _ qq_579) (fun _ h9 => h9) rfl (by decide +kernel) rfl rfl (Nat.le_of_ble_eq_true rfl) dd_M_key_14 (fun H locs hP hD hS => ?_)
    have hP : va_P (dC, dI) vcl [(h, .inr (1, [.int 0, .int g1, .int g2, .int g3, .int g4, .ref g5, .int (nI mn), .ref g7, .ref g8, .ref g9, .ref g10, .ref g11, .int g12, .int g13, .int g14, .ref g15, .int g16, .ref g17, .ref g18, .ref g19, .ref g20, .ref g21, .ref g22, .int g23, .ref g24, .int g25, .int g26, .int g27, .int g28, .ref g29, .int g30, .int g31, .int g32])), (g9, .inl (cJ, 16, .inr (.inl fk)))] H := hP
    have hD : va_D A [(h, .inr (1, [.int 0, .int g1, .int g2, .int g3, .int g4, .ref g5, .int (nI mn), .ref g7, .ref g8, .ref g9, .ref g10, .ref g11, .int g12, .int g13, .int g14, .ref g15, .int g16, .ref g17, .ref g18, .ref g19, .ref g20, .ref g21, .ref g22, .int g23, .ref g24, .int g25, .int g26, .int g27, .int g28, .ref g29, .int g30, .int g31, .int g32])), (g9, .inl (cJ, 16, .inr (.inl fk)))] := hD
    refine lv_aload_n hx hb dd_M_key_17 rfl (lv_at hl 0 rfl) ?_
    refine va_get (D := (dC, dI)) (ci := 1) (v := .int 0) (C := RR_M) (T := TT_M) (N := 33) hx hb hw hh_M hown hK hP 0 rfl rfl 0 (by decide) (hw _ qq_579) (fun _ h9 => h9) rfl dd_M_key_18 ?_
    refine lv_if_le (tgt := 28) hx hb dd_M_key_21 (by decide) (fun c_2 => ?_) (fun c_2 => ?_)
    · refine lv_aload_n hx hb dd_M_key_28 rfl (lv_at hl 0 rfl) ?_
      refine va_get (D := (dC, dI)) (ci := 1) (v := .ref g9) (C := RR_M) (T := TT_M) (N := 33) hx hb hw hh_M hown hK hP 0 rfl rfl 9 (by decide) (hw _ qq_588) (fun _ h9 => h9) rfl dd_M_key_29 ?_
      refine lv_iload_n hx hb dd_M_key_32 rfl (lv_at hl 1 rfl) ?_
      refine va_lald hx hb hK hP 1 2 rfl rfl (vp_in_mn hmn (by decide) hC.2.1 hC.2.2) dd_M_key_33 ?_
      have hP9 := hP.sub (ws' := [(h, .inr (1, [.int 0, .int g1, .int g2, .int g3, .int g4, .ref g5, .int (nI mn), .ref g7, .ref g8, .ref g9, .ref g10, .ref g11, .int g12, .int g13, .int g14, .ref g15, .int g16, .ref g17, .ref g18, .ref g19, .ref g20, .ref g21, .ref g22, .int g23, .ref g24, .int g25, .int g26, .int g27, .int g28, .ref g29, .int g30, .int g31, .int g32])), (g9, .inl (cJ, 16, .inr (.inl fk)))]) [0, 1] rfl
      have hD9 := hD.sub (ws' := [(h, .inr (1, [.int 0, .int g1, .int g2, .int g3, .int g4, .ref g5, .int (nI mn), .ref g7, .ref g8, .ref g9, .ref g10, .ref g11, .int g12, .int g13, .int g14, .ref g15, .int g16, .ref g17, .ref g18, .ref g19, .ref g20, .ref g21, .ref g22, .int g23, .ref g24, .int g25, .int g26, .int g27, .int g28, .ref g29, .int g30, .int g31, .int g32])), (g9, .inl (cJ, 16, .inr (.inl fk)))]) [0, 1] (by decide) rfl
      refine W.widen (k := 0) (n := 0) (by first | exact Nat.le_refl _ | omega) (by first | exact Nat.le_refl _ | omega) ?_
      exact W.lret (v := fk p0.toNatClampNeg) hx hb hr (fun t ht hW => ⟨⟨fk p0.toNatClampNeg, (), rfl, rfl, by rw [ht]; exact hP9, va_K.moved hW.alike hK, hD9⟩, hS.F ht⟩) hS.2.2 dd_M_key_34
    · exact absurd (by decide) c_2

set_option maxHeartbeats 4000000 in
set_option maxRecDepth 100000 in
/-- key(i), there is none -/
theorem cb_M_key_n (l : Launch) (dC : Nat → ClassId) (dI : Nat → Nat → Nat) (cB cI cJ : ClassId) (sz : Nat) (h : Nat) (g0 g1 g2 g3 g4 g12 g13 g14 g16 g23 g25 g26 g27 g28 g30 g31 g32 : Int32) (g5 g7 g8 g9 g10 g11 g15 g17 g18 g19 g20 g21 g22 g24 g29 : Nat) (mn : Nat) (hmn : mn ≤ 16) (p0 : Int32) (hC : ¬ (¬ g1 = 0 ∧ ¬ p0 < 0 ∧ ¬ nI mn ≤ p0)) : Met l yy_M_key (Cond.code yy_M_key cc_M_key 2 (some .long) :: gw) { frames := 1, cells := 0, slots := 0, locals := 21 } (va_Pc [.ref h, .int p0] (ks_pre dC dI [(cB, .byte), (cI, .int), (cJ, .long)] [(h, .inr (1, [.int g0, .int g1, .int g2, .int g3, .int g4, .ref g5, .int (nI mn), .ref g7, .ref g8, .ref g9, .ref g10, .ref g11, .int g12, .int g13, .int g14, .ref g15, .int g16, .ref g17, .ref g18, .ref g19, .ref g20, .ref g21, .ref g22, .int g23, .ref g24, .int g25, .int g26, .int g27, .int g28, .ref g29, .int g30, .int g31, .int g32]))] sz)) (va_Ql (fun r (_u : Unit) => r = 0) (fun (_u : Unit) => ks_post dC dI [(cB, .byte), (cI, .int), (cJ, .long)] (va_A [(h, .inr (1, [.int g0, .int g1, .int g2, .int g3, .int g4, .ref g5, .int (nI mn), .ref g7, .ref g8, .ref g9, .ref g10, .ref g11, .int g12, .int g13, .int g14, .ref g15, .int g16, .ref g17, .ref g18, .ref g19, .ref g20, .ref g21, .ref g22, .int g23, .ref g24, .int g25, .int g26, .int g27, .int g28, .ref g29, .int g30, .int g31, .int g32]))] sz) [(h, .inr (1, [.int 1, .int g1, .int g2, .int g3, .int g4, .ref g5, .int (nI mn), .ref g7, .ref g8, .ref g9, .ref g10, .ref g11, .int g12, .int g13, .int g14, .ref g15, .int g16, .ref g17, .ref g18, .ref g19, .ref g20, .ref g21, .ref g22, .int g23, .ref g24, .int g25, .int g26, .int g27, .int g28, .ref g29, .int g30, .int g31, .int g32]))]) (va_A [(h, .inr (1, [.int g0, .int g1, .int g2, .int g3, .int g4, .ref g5, .int (nI mn), .ref g7, .ref g8, .ref g9, .ref g10, .ref g11, .int g12, .int g13, .int g14, .ref g15, .int g16, .ref g17, .ref g18, .ref g19, .ref g20, .ref g21, .ref g22, .int g23, .ref g24, .int g25, .int g26, .int g27, .int g28, .ref g29, .int g30, .int g31, .int g32]))] sz)) 0 0 (va_A [(h, .inr (1, [.int g0, .int g1, .int g2, .int g3, .int g4, .ref g5, .int (nI mn), .ref g7, .ref g8, .ref g9, .ref g10, .ref g11, .int g12, .int g13, .int g14, .ref g15, .int g16, .ref g17, .ref g18, .ref g19, .ref g20, .ref g21, .ref g22, .int g23, .ref g24, .int g25, .int g26, .int g27, .int g28, .ref g29, .int g30, .int g31, .int g32]))] sz) := by
  refine Met.ofW (cc := cc_M_key) (maxL := 2) (ret := (some .long)) (by decide) rfl ?_
  intro p e s m args below meth c s₁ B hml hv
  obtain ⟨rfl, hsz, hP, hK, hD0⟩ := hv
  have hx := B.exec
  have hb := B.bytes
  have hr := B.returns
  have hw : ∀ w ∈ gw, w.before _ s = true := fun w h => atoms_spec (ws := (Cond.code yy_M_key cc_M_key 2 (some .long) :: gw)) B.pre w (List.mem_cons_of_mem _ h)
  have hown : s.vm.findClass RR_M = some m.cls := findClass_of_methodNamed B.named
  have hlocks := B.notSynchronized
  subst hsz
  have hD := hD0.self (sz := s.heap.size)
  generalize hAe : va_A [(h, .inr (1, [.int g0, .int g1, .int g2, .int g3, .int g4, .ref g5, .int (nI mn), .ref g7, .ref g8, .ref g9, .ref g10, .ref g11, .int g12, .int g13, .int g14, .ref g15, .int g16, .ref g17, .ref g18, .ref g19, .ref g20, .ref g21, .ref g22, .int g23, .ref g24, .int g25, .int g26, .int g27, .int g28, .ref g29, .int g30, .int g31, .int g32]))] s.heap.size = A at hD ⊢
  have hA : ∀ q : Nat, s.heap.size ≤ q → A q := fun q h => by rw [← hAe]; exact Or.inr h
  have hS : va_S A s.heap s.heap [] := va_S.rf
  have hP : va_P (dC, dI) vcl [(h, .inr (1, [.int g0, .int g1, .int g2, .int g3, .int g4, .ref g5, .int (nI mn), .ref g7, .ref g8, .ref g9, .ref g10, .ref g11, .int g12, .int g13, .int g14, .ref g15, .int g16, .ref g17, .ref g18, .ref g19, .ref g20, .ref g21, .ref g22, .int g23, .ref g24, .int g25, .int g26, .int g27, .int g28, .ref g29, .int g30, .int g31, .int g32]))] s.heap := hP
  have hl := lv_entry ([.ref h, .int p0]) (n := 2) (Nat.le_of_ble_eq_true rfl)
  rw [lg_entry_eq]
  generalize (lg_sl ([.ref h, .int p0]) ++ List.replicate (2 - (lg_sl ([.ref h, .int p0])).length) Slot.unset).toArray = ls at hl ⊢
  have hl : lv_has ls 2 [(0, .ref h), (1, .int p0)] := hl
  refine lv_aload_n hx hb dd_M_key_0 rfl (lv_at hl 0 rfl) ?_
  refine lv_aload_n hx hb dd_M_key_1 rfl (lv_at hl 0 rfl) ?_
  refine lv_iload_n hx hb dd_M_key_2 rfl (lv_at hl 1 rfl) ?_
  have hPc := hP.sub (ws' := [(h, .inr (1, [.int g0, .int g1, .int g2, .int g3, .int g4, .ref g5, .int (nI mn), .ref g7, .ref g8, .ref g9, .ref g10, .ref g11, .int g12, .int g13, .int g14, .ref g15, .int g16, .ref g17, .ref g18, .ref g19, .ref g20, .ref g21, .ref g22, .int g23, .ref g24, .int g25, .int g26, .int g27, .int g28, .ref g29, .int g30, .int g31, .int g32]))]) [0] rfl
  refine W.callR (W.runV (As := [.int p0]) (rest := [.ref h]) ⟨hx, hb, hml, hown, hw⟩ (cp_M_isIn l dC dI cB cI cJ h g0 g1 g2 g3 g4 (nI mn) g12 g13 g14 g16 g23 g25 g26 g27 g28 g30 g31 g32 g5 g7 g8 g9 g10 g11 g15 g17 g18 g19 g20 g21 g22 g24 g29 p0) (kw_V 1 hw qq_845 qq_5 qq_848 qq_847 qs_M_isIn rfl rfl (by decide +kernel) ⟨Nat.le_of_ble_eq_true rfl, Nat.le_of_ble_eq_true rfl⟩) ⟨fun a U g mk q => by obtain ⟨q0, qP, qK⟩ := q; exact ⟨q0, qP, va_K.moved (u := U) (U := U.calling g mk a) (Vm.Alike.refl U.vm) qK⟩, va_recv hK hPc (ci := 1) (q0 := 0) rfl rfl, fun U hU hW => ⟨rfl, by rw [hU]; exact hPc, va_K.moved hW.alike hK⟩⟩ rfl rfl hl.1 rfl (lv_room (Nat.le_of_ble_eq_true rfl)) dd_M_key_3 ⟨by first | exact Nat.le_of_ble_eq_true rfl | (simp only [headSpec]; omega), by first | exact Nat.le_of_ble_eq_true rfl | (simp only [headSpec]; omega)⟩) ?_
  refine W.eq (g2 := F0 m 6 ls [.int (b2i (decide (¬ g1 = 0 ∧ ¬ p0 < 0 ∧ ¬ (nI mn) ≤ p0))), .ref h]) rfl ?_
  refine lv_if_eq (tgt := 13) hx hb dd_M_key_6 (by decide) (fun c_1 => ?_) (fun c_1 => ?_)
  · have c_1 := b2i_1.mp c_1
    refine lv_iconst (v := 1) hx hb dd_M_key_13 (by decide) ?_
    refine va_put (D := (dC, dI)) (ci := 1) (v := .int 1) (ty := .int) (C := RR_M) (T := TT_M) (N := 33) hx hb hw hh_M ty_M ty_M_ok nm_M hown hK hP hD hS 0 rfl rfl 0 (by decide) (hw _ qq_579) (fun _ h9 => h9) rfl (by decide +kernel) rfl rfl (Nat.le_of_ble_eq_true rfl) dd_M_key_14 (fun H locs hP hD hS => ?_)
    have hP : va_P (dC, dI) vcl [(h, .inr (1, [.int 1, .int g1, .int g2, .int g3, .int g4, .ref g5, .int (nI mn), .ref g7, .ref g8, .ref g9, .ref g10, .ref g11, .int g12, .int g13, .int g14, .ref g15, .int g16, .ref g17, .ref g18, .ref g19, .ref g20, .ref g21, .ref g22, .int g23, .ref g24, .int g25, .int g26, .int g27, .int g28, .ref g29, .int g30, .int g31, .int g32]))] H := hP
    have hD : va_D A [(h, .inr (1, [.int 1, .int g1, .int g2, .int g3, .int g4, .ref g5, .int (nI mn), .ref g7, .ref g8, .ref g9, .ref g10, .ref g11, .int g12, .int g13, .int g14, .ref g15, .int g16, .ref g17, .ref g18, .ref g19, .ref g20, .ref g21, .ref g22, .int g23, .ref g24, .int g25, .int g26, .int g27, .int g28, .ref g29, .int g30, .int g31, .int g32]))] := hD
    refine lv_aload_n hx hb dd_M_key_17 rfl (lv_at hl 0 rfl) ?_
    refine va_get (D := (dC, dI)) (ci := 1) (v := .int 1) (C := RR_M) (T := TT_M) (N := 33) hx hb hw hh_M hown hK hP 0 rfl rfl 0 (by decide) (hw _ qq_579) (fun _ h9 => h9) rfl dd_M_key_18 ?_
    refine lv_if_le (tgt := 28) hx hb dd_M_key_21 (by decide) (fun c_2 => ?_) (fun c_2 => ?_)
    · exact absurd c_2 (by decide)
    · refine lv_lconst (v := 0) hx hb dd_M_key_24 (by decide) ?_
      refine lv_goto (tgt := 34) hx hb dd_M_key_25 (by decide) ?_
      have hP9 := hP.sub (ws' := [(h, .inr (1, [.int 1, .int g1, .int g2, .int g3, .int g4, .ref g5, .int (nI mn), .ref g7, .ref g8, .ref g9, .ref g10, .ref g11, .int g12, .int g13, .int g14, .ref g15, .int g16, .ref g17, .ref g18, .ref g19, .ref g20, .ref g21, .ref g22, .int g23, .ref g24, .int g25, .int g26, .int g27, .int g28, .ref g29, .int g30, .int g31, .int g32]))]) [0] rfl
      have hD9 := hD.sub (ws' := [(h, .inr (1, [.int 1, .int g1, .int g2, .int g3, .int g4, .ref g5, .int (nI mn), .ref g7, .ref g8, .ref g9, .ref g10, .ref g11, .int g12, .int g13, .int g14, .ref g15, .int g16, .ref g17, .ref g18, .ref g19, .ref g20, .ref g21, .ref g22, .int g23, .ref g24, .int g25, .int g26, .int g27, .int g28, .ref g29, .int g30, .int g31, .int g32]))]) [0] (by decide) rfl
      refine W.widen (k := 0) (n := 0) (by first | exact Nat.le_refl _ | omega) (by first | exact Nat.le_refl _ | omega) ?_
      exact W.lret (v := 0) hx hb hr (fun t ht hW => ⟨⟨0, (), rfl, rfl, by rw [ht]; exact hP9, va_K.moved hW.alike hK, hD9⟩, hS.F ht⟩) hS.2.2 dd_M_key_34
  · have c_1 := Classical.not_not.mp (mt b2i_1.mpr c_1)
    exact absurd c_1 hC
