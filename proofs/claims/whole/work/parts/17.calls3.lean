set_option maxHeartbeats 4000000 in
set_option maxRecDepth 100000 in
/-- operation(i, w), there is one -/
theorem cb_M_operation_y (l : Launch) (dC : Nat → ClassId) (dI : Nat → Nat → Nat) (cB cI cJ : ClassId) (sz : Nat) (h : Nat) (g0 g1 g2 g3 g4 g12 g13 g14 g16 g23 g25 g26 g27 g28 g30 g31 g32 : Int32) (g5 g7 g8 g9 g10 g11 g15 g17 g18 g19 g20 g21 g22 g24 g29 : Nat) (mn : Nat) (hmn : mn ≤ 16) (ft fo fd fv : Nat → Int32) (p0 p1 : Int32) (hC : ((¬ g1 = 0 ∧ ¬ p0 < 0 ∧ ¬ nI mn ≤ p0) ∧ ¬ p1 < 0 ∧ ¬ 4 < p1)) : Met l yy_M_operation (Cond.code yy_M_operation cc_M_operation 3 (some .int) :: gw) { frames := 1, cells := 0, slots := 0, locals := 21 } (va_Pc [.ref h, .int p0, .int p1] (ks_pre dC dI [(cB, .byte), (cI, .int), (cJ, .long)] [(h, .inr (1, [.int g0, .int g1, .int g2, .int g3, .int g4, .ref g5, .int (nI mn), .ref g7, .ref g8, .ref g9, .ref g10, .ref g11, .int g12, .int g13, .int g14, .ref g15, .int g16, .ref g17, .ref g18, .ref g19, .ref g20, .ref g21, .ref g22, .int g23, .ref g24, .int g25, .int g26, .int g27, .int g28, .ref g29, .int g30, .int g31, .int g32])), (g7, .inl (cI, 16, .inl ft)), (g8, .inl (cI, 16, .inl fo)), (g10, .inl (cI, 16, .inl fd)), (g11, .inl (cI, 16, .inl fv))] sz)) (va_Qi (fun r (_u : Unit) => r = (if p1 = 0 then ft p0.toNatClampNeg else if p1 = 1 then fo p0.toNatClampNeg else if p1 = 2 then fd p0.toNatClampNeg else if p1 = 3 then fv p0.toNatClampNeg else (g4 + p0) * 8 + g2)) (fun (_u : Unit) => ks_post dC dI [(cB, .byte), (cI, .int), (cJ, .long)] (va_A [(h, .inr (1, [.int g0, .int g1, .int g2, .int g3, .int g4, .ref g5, .int (nI mn), .ref g7, .ref g8, .ref g9, .ref g10, .ref g11, .int g12, .int g13, .int g14, .ref g15, .int g16, .ref g17, .ref g18, .ref g19, .ref g20, .ref g21, .ref g22, .int g23, .ref g24, .int g25, .int g26, .int g27, .int g28, .ref g29, .int g30, .int g31, .int g32])), (g7, .inl (cI, 16, .inl ft)), (g8, .inl (cI, 16, .inl fo)), (g10, .inl (cI, 16, .inl fd)), (g11, .inl (cI, 16, .inl fv))] sz) [(h, .inr (1, [.int 0, .int g1, .int g2, .int g3, .int g4, .ref g5, .int (nI mn), .ref g7, .ref g8, .ref g9, .ref g10, .ref g11, .int g12, .int g13, .int g14, .ref g15, .int g16, .ref g17, .ref g18, .ref g19, .ref g20, .ref g21, .ref g22, .int g23, .ref g24, .int g25, .int g26, .int g27, .int g28, .ref g29, .int g30, .int g31, .int g32])), (g7, .inl (cI, 16, .inl ft)), (g8, .inl (cI, 16, .inl fo)), (g10, .inl (cI, 16, .inl fd)), (g11, .inl (cI, 16, .inl fv))]) (va_A [(h, .inr (1, [.int g0, .int g1, .int g2, .int g3, .int g4, .ref g5, .int (nI mn), .ref g7, .ref g8, .ref g9, .ref g10, .ref g11, .int g12, .int g13, .int g14, .ref g15, .int g16, .ref g17, .ref g18, .ref g19, .ref g20, .ref g21, .ref g22, .int g23, .ref g24, .int g25, .int g26, .int g27, .int g28, .ref g29, .int g30, .int g31, .int g32])), (g7, .inl (cI, 16, .inl ft)), (g8, .inl (cI, 16, .inl fo)), (g10, .inl (cI, 16, .inl fd)), (g11, .inl (cI, 16, .inl fv))] sz)) 0 0 (va_A [(h, .inr (1, [.int g0, .int g1, .int g2, .int g3, .int g4, .ref g5, .int (nI mn), .ref g7, .ref g8, .ref g9, .ref g10, .ref g11, .int g12, .int g13, .int g14, .ref g15, .int g16, .ref g17, .ref g18, .ref g19, .ref g20, .ref g21, .ref g22, .int g23, .ref g24, .int g25, .int g26, .int g27, .int g28, .ref g29, .int g30, .int g31, .int g32])), (g7, .inl (cI, 16, .inl ft)), (g8, .inl (cI, 16, .inl fo)), (g10, .inl (cI, 16, .inl fd)), (g11, .inl (cI, 16, .inl fv))] sz) := by
  refine Met.ofW (cc := cc_M_operation) (maxL := 3) (ret := (some .int)) (by decide) rfl ?_
  intro p e s m args below meth c s₁ B hml hv
  obtain ⟨rfl, hsz, hP, hK, hD0⟩ := hv
  have hx := B.exec
  have hb := B.bytes
  have hr := B.returns
  have hw : ∀ w ∈ gw, w.before _ s = true := fun w h => atoms_spec (ws := (Cond.code yy_M_operation cc_M_operation 3 (some .int) :: gw)) B.pre w (List.mem_cons_of_mem _ h)
  have hown : s.vm.findClass RR_M = some m.cls := findClass_of_methodNamed B.named
  have hlocks := B.notSynchronized
  subst hsz
  have hD := hD0.self (sz := s.heap.size)
  generalize hAe : va_A [(h, .inr (1, [.int g0, .int g1, .int g2, .int g3, .int g4, .ref g5, .int (nI mn), .ref g7, .ref g8, .ref g9, .ref g10, .ref g11, .int g12, .int g13, .int g14, .ref g15, .int g16, .ref g17, .ref g18, .ref g19, .ref g20, .ref g21, .ref g22, .int g23, .ref g24, .int g25, .int g26, .int g27, .int g28, .ref g29, .int g30, .int g31, .int g32])), (g7, .inl (cI, 16, .inl ft)), (g8, .inl (cI, 16, .inl fo)), (g10, .inl (cI, 16, .inl fd)), (g11, .inl (cI, 16, .inl fv))] s.heap.size = A at hD ⊢
  have hA : ∀ q : Nat, s.heap.size ≤ q → A q := fun q h => by rw [← hAe]; exact Or.inr h
  have hS : va_S A s.heap s.heap [] := va_S.rf
  have hP : va_P (dC, dI) vcl [(h, .inr (1, [.int g0, .int g1, .int g2, .int g3, .int g4, .ref g5, .int (nI mn), .ref g7, .ref g8, .ref g9, .ref g10, .ref g11, .int g12, .int g13, .int g14, .ref g15, .int g16, .ref g17, .ref g18, .ref g19, .ref g20, .ref g21, .ref g22, .int g23, .ref g24, .int g25, .int g26, .int g27, .int g28, .ref g29, .int g30, .int g31, .int g32])), (g7, .inl (cI, 16, .inl ft)), (g8, .inl (cI, 16, .inl fo)), (g10, .inl (cI, 16, .inl fd)), (g11, .inl (cI, 16, .inl fv))] s.heap := hP
  have hl := lv_entry ([.ref h, .int p0, .int p1]) (n := 3) (Nat.le_of_ble_eq_true rfl)
  rw [lg_entry_eq]
  generalize (lg_sl ([.ref h, .int p0, .int p1]) ++ List.replicate (3 - (lg_sl ([.ref h, .int p0, .int p1])).length) Slot.unset).toArray = ls at hl ⊢
  have hl : lv_has ls 3 [(0, .ref h), (1, .int p0), (2, .int p1)] := hl
  refine lv_aload_n hx hb dd_M_operation_0 rfl (lv_at hl 0 rfl) ?_
  refine lv_aload_n hx hb dd_M_operation_1 rfl (lv_at hl 0 rfl) ?_
  refine lv_iload_n hx hb dd_M_operation_2 rfl (lv_at hl 1 rfl) ?_
  have hPc := hP.sub (ws' := [(h, .inr (1, [.int g0, .int g1, .int g2, .int g3, .int g4, .ref g5, .int (nI mn), .ref g7, .ref g8, .ref g9, .ref g10, .ref g11, .int g12, .int g13, .int g14, .ref g15, .int g16, .ref g17, .ref g18, .ref g19, .ref g20, .ref g21, .ref g22, .int g23, .ref g24, .int g25, .int g26, .int g27, .int g28, .ref g29, .int g30, .int g31, .int g32]))]) [0] rfl
  refine W.callR (W.runV (As := [.int p0]) (rest := [.ref h]) ⟨hx, hb, hml, hown, hw⟩ (cp_M_isIn l dC dI cB cI cJ h g0 g1 g2 g3 g4 (nI mn) g12 g13 g14 g16 g23 g25 g26 g27 g28 g30 g31 g32 g5 g7 g8 g9 g10 g11 g15 g17 g18 g19 g20 g21 g22 g24 g29 p0) (kw_V 1 hw qq_845 qq_5 qq_848 qq_847 qs_M_isIn rfl rfl (by decide +kernel) ⟨Nat.le_of_ble_eq_true rfl, Nat.le_of_ble_eq_true rfl⟩) ⟨fun a U g mk q => by obtain ⟨q0, qP, qK⟩ := q; exact ⟨q0, qP, va_K.moved (u := U) (U := U.calling g mk a) (Vm.Alike.refl U.vm) qK⟩, va_recv hK hPc (ci := 1) (q0 := 0) rfl rfl, fun U hU hW => ⟨rfl, by rw [hU]; exact hPc, va_K.moved hW.alike hK⟩⟩ rfl rfl hl.1 rfl (lv_room (Nat.le_of_ble_eq_true rfl)) dd_M_operation_3 ⟨by first | exact Nat.le_of_ble_eq_true rfl | (simp only [headSpec]; omega), by first | exact Nat.le_of_ble_eq_true rfl | (simp only [headSpec]; omega)⟩) ?_
  refine W.eq (g2 := F0 m 6 ls [.int (b2i (decide (¬ g1 = 0 ∧ ¬ p0 < 0 ∧ ¬ (nI mn) ≤ p0))), .ref h]) rfl ?_
  refine lv_if_eq (tgt := 22) hx hb dd_M_operation_6 (by decide) (fun c_1 => ?_) (fun c_1 => ?_)
  · have c_1 := b2i_1.mp c_1
    exact absurd hC.1 c_1
  · have c_1 := Classical.not_not.mp (mt b2i_1.mpr c_1)
    refine lv_iload_n hx hb dd_M_operation_9 rfl (lv_at hl 2 rfl) ?_
    refine lv_if_lt (tgt := 22) hx hb dd_M_operation_10 (by decide) (fun c_2 => ?_) (fun c_2 => ?_)
    · exact absurd c_2 hC.2.1
    · refine lv_iload_n hx hb dd_M_operation_13 rfl (lv_at hl 2 rfl) ?_
      refine lv_iconst (v := 4) hx hb dd_M_operation_14 (by decide) ?_
      refine lv_icmp_gt (tgt := 22) hx hb dd_M_operation_15 (by decide) (fun c_3 => ?_) (fun c_3 => ?_)
      · exact absurd c_3 hC.2.2
      · refine lv_iconst (v := 0) hx hb dd_M_operation_18 (by decide) ?_
        refine lv_goto (tgt := 23) hx hb dd_M_operation_19 (by decide) ?_
        refine va_put (D := (dC, dI)) (ci := 1) (v := .int 0) (ty := .int) (C := RR_M) (T := TT_M) (N := 33) hx hb hw hh_M ty_M ty_M_ok nm_M hown hK hP hD hS 0 rfl rfl 0 (by decide) (hw _ qq_579) (fun _ h9 => h9) rfl (by decide +kernel) rfl rfl (Nat.le_of_ble_eq_true rfl) dd_M_operation_23 (fun H locs hP hD hS => ?_)
        have hP : va_P (dC, dI) vcl [(h, .inr (1, [.int 0, .int g1, .int g2, .int g3, .int g4, .ref g5, .int (nI mn), .ref g7, .ref g8, .ref g9, .ref g10, .ref g11, .int g12, .int g13, .int g14, .ref g15, .int g16, .ref g17, .ref g18, .ref g19, .ref g20, .ref g21, .ref g22, .int g23, .ref g24, .int g25, .int g26, .int g27, .int g28, .ref g29, .int g30, .int g31, .int g32])), (g7, .inl (cI, 16, .inl ft)), (g8, .inl (cI, 16, .inl fo)), (g10, .inl (cI, 16, .inl fd)), (g11, .inl (cI, 16, .inl fv))] H := hP
        have hD : va_D A [(h, .inr (1, [.int 0, .int g1, .int g2, .int g3, .int g4, .ref g5, .int (nI mn), .ref g7, .ref g8, .ref g9, .ref g10, .ref g11, .int g12, .int g13, .int g14, .ref g15, .int g16, .ref g17, .ref g18, .ref g19, .ref g20, .ref g21, .ref g22, .int g23, .ref g24, .int g25, .int g26, .int g27, .int g28, .ref g29, .int g30, .int g31, .int g32])), (g7, .inl (cI, 16, .inl ft)), (g8, .inl (cI, 16, .inl fo)), (g10, .inl (cI, 16, .inl fd)), (g11, .inl (cI, 16, .inl fv))] := hD
        refine lv_aload_n hx hb dd_M_operation_26 rfl (lv_at hl 0 rfl) ?_
        refine va_get (D := (dC, dI)) (ci := 1) (v := .int 0) (C := RR_M) (T := TT_M) (N := 33) hx hb hw hh_M hown hK hP 0 rfl rfl 0 (by decide) (hw _ qq_579) (fun _ h9 => h9) rfl dd_M_operation_27 ?_
        refine lv_if_le (tgt := 35) hx hb dd_M_operation_30 (by decide) (fun c_4 => ?_) (fun c_4 => ?_)
        · refine lv_iload_n hx hb dd_M_operation_35 rfl (lv_at hl 2 rfl) ?_
          refine lv_if_ne (tgt := 48) hx hb dd_M_operation_36 (by decide) (fun c_5 => ?_) (fun c_5 => ?_)
          · refine lv_iload_n hx hb dd_M_operation_48 rfl (lv_at hl 2 rfl) ?_
            refine lv_iconst (v := 1) hx hb dd_M_operation_49 (by decide) ?_
            refine lv_icmp_ne (tgt := 62) hx hb dd_M_operation_50 (by decide) (fun c_6 => ?_) (fun c_6 => ?_)
            · refine lv_iload_n hx hb dd_M_operation_62 rfl (lv_at hl 2 rfl) ?_
              refine lv_iconst (v := 2) hx hb dd_M_operation_63 (by decide) ?_
              refine lv_icmp_ne (tgt := 76) hx hb dd_M_operation_64 (by decide) (fun c_7 => ?_) (fun c_7 => ?_)
              · refine lv_iload_n hx hb dd_M_operation_76 rfl (lv_at hl 2 rfl) ?_
                refine lv_iconst (v := 3) hx hb dd_M_operation_77 (by decide) ?_
                refine lv_icmp_ne (tgt := 90) hx hb dd_M_operation_78 (by decide) (fun c_8 => ?_) (fun c_8 => ?_)
                · refine lv_aload_n hx hb dd_M_operation_90 rfl (lv_at hl 0 rfl) ?_
                  refine lv_iload_n hx hb dd_M_operation_91 rfl (lv_at hl 1 rfl) ?_
                  have hPc := hP.sub (ws' := [(h, .inr (1, [.int 0, .int g1, .int g2, .int g3, .int g4, .ref g5, .int (nI mn), .ref g7, .ref g8, .ref g9, .ref g10, .ref g11, .int g12, .int g13, .int g14, .ref g15, .int g16, .ref g17, .ref g18, .ref g19, .ref g20, .ref g21, .ref g22, .int g23, .ref g24, .int g25, .int g26, .int g27, .int g28, .ref g29, .int g30, .int g31, .int g32]))]) [0] rfl
                  refine W.callR (W.runV (As := [.int p0]) (rest := []) ⟨hx, hb, hml, hown, hw⟩ (cp_M_idOf l dC dI cB cI cJ h 0 g1 g2 g3 g4 (nI mn) g12 g13 g14 g16 g23 g25 g26 g27 g28 g30 g31 g32 g5 g7 g8 g9 g10 g11 g15 g17 g18 g19 g20 g21 g22 g24 g29 p0) (kw_V 1 hw qq_699 qq_5 qq_702 qq_701 qs_M_idOf rfl rfl (by decide +kernel) ⟨Nat.le_of_ble_eq_true rfl, Nat.le_of_ble_eq_true rfl⟩) ⟨fun a U g mk q => by obtain ⟨q0, qP, qK⟩ := q; exact ⟨q0, qP, va_K.moved (u := U) (U := U.calling g mk a) (Vm.Alike.refl U.vm) qK⟩, va_recv hK hPc (ci := 1) (q0 := 0) rfl rfl, fun U hU hW => ⟨rfl, by rw [hU]; exact hPc, va_K.moved hW.alike hK⟩⟩ rfl rfl hl.1 rfl (lv_room (Nat.le_of_ble_eq_true rfl)) dd_M_operation_92 ⟨by first | exact Nat.le_of_ble_eq_true rfl | (simp only [headSpec]; omega), by first | exact Nat.le_of_ble_eq_true rfl | (simp only [headSpec]; omega)⟩) ?_
                  refine W.eq (g2 := F0 m 95 ls [.int ((g4 + p0) * 8 + g2)]) rfl ?_
                  have hP9 := hP.sub (ws' := [(h, .inr (1, [.int 0, .int g1, .int g2, .int g3, .int g4, .ref g5, .int (nI mn), .ref g7, .ref g8, .ref g9, .ref g10, .ref g11, .int g12, .int g13, .int g14, .ref g15, .int g16, .ref g17, .ref g18, .ref g19, .ref g20, .ref g21, .ref g22, .int g23, .ref g24, .int g25, .int g26, .int g27, .int g28, .ref g29, .int g30, .int g31, .int g32])), (g7, .inl (cI, 16, .inl ft)), (g8, .inl (cI, 16, .inl fo)), (g10, .inl (cI, 16, .inl fd)), (g11, .inl (cI, 16, .inl fv))]) [0, 1, 2, 3, 4] rfl
                  have hD9 := hD.sub (ws' := [(h, .inr (1, [.int 0, .int g1, .int g2, .int g3, .int g4, .ref g5, .int (nI mn), .ref g7, .ref g8, .ref g9, .ref g10, .ref g11, .int g12, .int g13, .int g14, .ref g15, .int g16, .ref g17, .ref g18, .ref g19, .ref g20, .ref g21, .ref g22, .int g23, .ref g24, .int g25, .int g26, .int g27, .int g28, .ref g29, .int g30, .int g31, .int g32])), (g7, .inl (cI, 16, .inl ft)), (g8, .inl (cI, 16, .inl fo)), (g10, .inl (cI, 16, .inl fd)), (g11, .inl (cI, 16, .inl fv))]) [0, 1, 2, 3, 4] (by decide) rfl
                  refine W.widen (k := 0) (n := 0) (by first | exact Nat.le_refl _ | omega) (by first | exact Nat.le_refl _ | omega) ?_
                  exact W.iret (v := (g4 + p0) * 8 + g2) hx hb hr (fun t ht hW => ⟨⟨(g4 + p0) * 8 + g2, (), rfl, (by rw [if_neg c_5, if_neg c_6, if_neg c_7, if_neg c_8]), by rw [ht]; exact hP9, va_K.moved hW.alike hK, hD9⟩, hS.F ht⟩) hS.2.2 dd_M_operation_95
                · refine lv_aload_n hx hb dd_M_operation_81 rfl (lv_at hl 0 rfl) ?_
                  refine va_get (D := (dC, dI)) (ci := 1) (v := .ref g11) (C := RR_M) (T := TT_M) (N := 33) hx hb hw hh_M hown hK hP 0 rfl rfl 11 (by decide) (hw _ qq_590) (fun _ h9 => h9) rfl dd_M_operation_82 ?_
                  refine lv_iload_n hx hb dd_M_operation_85 rfl (lv_at hl 1 rfl) ?_
                  refine va_iald hx hb hK hP 4 1 rfl rfl (vp_in_mn hmn (by decide) hC.1.2.1 hC.1.2.2) dd_M_operation_86 ?_
                  refine lv_goto (tgt := 95) hx hb dd_M_operation_87 (by decide) ?_
                  have hP9 := hP.sub (ws' := [(h, .inr (1, [.int 0, .int g1, .int g2, .int g3, .int g4, .ref g5, .int (nI mn), .ref g7, .ref g8, .ref g9, .ref g10, .ref g11, .int g12, .int g13, .int g14, .ref g15, .int g16, .ref g17, .ref g18, .ref g19, .ref g20, .ref g21, .ref g22, .int g23, .ref g24, .int g25, .int g26, .int g27, .int g28, .ref g29, .int g30, .int g31, .int g32])), (g7, .inl (cI, 16, .inl ft)), (g8, .inl (cI, 16, .inl fo)), (g10, .inl (cI, 16, .inl fd)), (g11, .inl (cI, 16, .inl fv))]) [0, 1, 2, 3, 4] rfl
                  have hD9 := hD.sub (ws' := [(h, .inr (1, [.int 0, .int g1, .int g2, .int g3, .int g4, .ref g5, .int (nI mn), .ref g7, .ref g8, .ref g9, .ref g10, .ref g11, .int g12, .int g13, .int g14, .ref g15, .int g16, .ref g17, .ref g18, .ref g19, .ref g20, .ref g21, .ref g22, .int g23, .ref g24, .int g25, .int g26, .int g27, .int g28, .ref g29, .int g30, .int g31, .int g32])), (g7, .inl (cI, 16, .inl ft)), (g8, .inl (cI, 16, .inl fo)), (g10, .inl (cI, 16, .inl fd)), (g11, .inl (cI, 16, .inl fv))]) [0, 1, 2, 3, 4] (by decide) rfl
                  refine W.widen (k := 0) (n := 0) (by first | exact Nat.le_refl _ | omega) (by first | exact Nat.le_refl _ | omega) ?_
                  exact W.iret (v := fv p0.toNatClampNeg) hx hb hr (fun t ht hW => ⟨⟨fv p0.toNatClampNeg, (), rfl, (by rw [if_neg c_5, if_neg c_6, if_neg c_7, if_pos c_8]), by rw [ht]; exact hP9, va_K.moved hW.alike hK, hD9⟩, hS.F ht⟩) hS.2.2 dd_M_operation_95
              · refine lv_aload_n hx hb dd_M_operation_67 rfl (lv_at hl 0 rfl) ?_
                refine va_get (D := (dC, dI)) (ci := 1) (v := .ref g10) (C := RR_M) (T := TT_M) (N := 33) hx hb hw hh_M hown hK hP 0 rfl rfl 10 (by decide) (hw _ qq_589) (fun _ h9 => h9) rfl dd_M_operation_68 ?_
                refine lv_iload_n hx hb dd_M_operation_71 rfl (lv_at hl 1 rfl) ?_
                refine va_iald hx hb hK hP 3 1 rfl rfl (vp_in_mn hmn (by decide) hC.1.2.1 hC.1.2.2) dd_M_operation_72 ?_
                refine lv_goto (tgt := 95) hx hb dd_M_operation_73 (by decide) ?_
                have hP9 := hP.sub (ws' := [(h, .inr (1, [.int 0, .int g1, .int g2, .int g3, .int g4, .ref g5, .int (nI mn), .ref g7, .ref g8, .ref g9, .ref g10, .ref g11, .int g12, .int g13, .int g14, .ref g15, .int g16, .ref g17, .ref g18, .ref g19, .ref g20, .ref g21, .ref g22, .int g23, .ref g24, .int g25, .int g26, .int g27, .int g28, .ref g29, .int g30, .int g31, .int g32])), (g7, .inl (cI, 16, .inl ft)), (g8, .inl (cI, 16, .inl fo)), (g10, .inl (cI, 16, .inl fd)), (g11, .inl (cI, 16, .inl fv))]) [0, 1, 2, 3, 4] rfl
                have hD9 := hD.sub (ws' := [(h, .inr (1, [.int 0, .int g1, .int g2, .int g3, .int g4, .ref g5, .int (nI mn), .ref g7, .ref g8, .ref g9, .ref g10, .ref g11, .int g12, .int g13, .int g14, .ref g15, .int g16, .ref g17, .ref g18, .ref g19, .ref g20, .ref g21, .ref g22, .int g23, .ref g24, .int g25, .int g26, .int g27, .int g28, .ref g29, .int g30, .int g31, .int g32])), (g7, .inl (cI, 16, .inl ft)), (g8, .inl (cI, 16, .inl fo)), (g10, .inl (cI, 16, .inl fd)), (g11, .inl (cI, 16, .inl fv))]) [0, 1, 2, 3, 4] (by decide) rfl
                refine W.widen (k := 0) (n := 0) (by first | exact Nat.le_refl _ | omega) (by first | exact Nat.le_refl _ | omega) ?_
                exact W.iret (v := fd p0.toNatClampNeg) hx hb hr (fun t ht hW => ⟨⟨fd p0.toNatClampNeg, (), rfl, (by rw [if_neg c_5, if_neg c_6, if_pos c_7]), by rw [ht]; exact hP9, va_K.moved hW.alike hK, hD9⟩, hS.F ht⟩) hS.2.2 dd_M_operation_95
            · refine lv_aload_n hx hb dd_M_operation_53 rfl (lv_at hl 0 rfl) ?_
              refine va_get (D := (dC, dI)) (ci := 1) (v := .ref g8) (C := RR_M) (T := TT_M) (N := 33) hx hb hw hh_M hown hK hP 0 rfl rfl 8 (by decide) (hw _ qq_587) (fun _ h9 => h9) rfl dd_M_operation_54 ?_
              refine lv_iload_n hx hb dd_M_operation_57 rfl (lv_at hl 1 rfl) ?_
              refine va_iald hx hb hK hP 2 1 rfl rfl (vp_in_mn hmn (by decide) hC.1.2.1 hC.1.2.2) dd_M_operation_58 ?_
              refine lv_goto (tgt := 95) hx hb dd_M_operation_59 (by decide) ?_
              have hP9 := hP.sub (ws' := [(h, .inr (1, [.int 0, .int g1, .int g2, .int g3, .int g4, .ref g5, .int (nI mn), .ref g7, .ref g8, .ref g9, .ref g10, .ref g11, .int g12, .int g13, .int g14, .ref g15, .int g16, .ref g17, .ref g18, .ref g19, .ref g20, .ref g21, .ref g22, .int g23, .ref g24, .int g25, .int g26, .int g27, .int g28, .ref g29, .int g30, .int g31, .int g32])), (g7, .inl (cI, 16, .inl ft)), (g8, .inl (cI, 16, .inl fo)), (g10, .inl (cI, 16, .inl fd)), (g11, .inl (cI, 16, .inl fv))]) [0, 1, 2, 3, 4] rfl
              have hD9 := hD.sub (ws' := [(h, .inr (1, [.int 0, .int g1, .int g2, .int g3, .int g4, .ref g5, .int (nI mn), .ref g7, .ref g8, .ref g9, .ref g10, .ref g11, .int g12, .int g13, .int g14, .ref g15, .int g16, .ref g17, .ref g18, .ref g19, .ref g20, .ref g21, .ref g22, .int g23, .ref g24, .int g25, .int g26, .int g27, .int g28, .ref g29, .int g30, .int g31, .int g32])), (g7, .inl (cI, 16, .inl ft)), (g8, .inl (cI, 16, .inl fo)), (g10, .inl (cI, 16, .inl fd)), (g11, .inl (cI, 16, .inl fv))]) [0, 1, 2, 3, 4] (by decide) rfl
              refine W.widen (k := 0) (n := 0) (by first | exact Nat.le_refl _ | omega) (by first | exact Nat.le_refl _ | omega) ?_
              exact W.iret (v := fo p0.toNatClampNeg) hx hb hr (fun t ht hW => ⟨⟨fo p0.toNatClampNeg, (), rfl, (by rw [if_neg c_5, if_pos c_6]), by rw [ht]; exact hP9, va_K.moved hW.alike hK, hD9⟩, hS.F ht⟩) hS.2.2 dd_M_operation_95
          · refine lv_aload_n hx hb dd_M_operation_39 rfl (lv_at hl 0 rfl) ?_
            refine va_get (D := (dC, dI)) (ci := 1) (v := .ref g7) (C := RR_M) (T := TT_M) (N := 33) hx hb hw hh_M hown hK hP 0 rfl rfl 7 (by decide) (hw _ qq_586) (fun _ h9 => h9) rfl dd_M_operation_40 ?_
            refine lv_iload_n hx hb dd_M_operation_43 rfl (lv_at hl 1 rfl) ?_
            refine va_iald hx hb hK hP 1 1 rfl rfl (vp_in_mn hmn (by decide) hC.1.2.1 hC.1.2.2) dd_M_operation_44 ?_
            refine lv_goto (tgt := 95) hx hb dd_M_operation_45 (by decide) ?_
            have hP9 := hP.sub (ws' := [(h, .inr (1, [.int 0, .int g1, .int g2, .int g3, .int g4, .ref g5, .int (nI mn), .ref g7, .ref g8, .ref g9, .ref g10, .ref g11, .int g12, .int g13, .int g14, .ref g15, .int g16, .ref g17, .ref g18, .ref g19, .ref g20, .ref g21, .ref g22, .int g23, .ref g24, .int g25, .int g26, .int g27, .int g28, .ref g29, .int g30, .int g31, .int g32])), (g7, .inl (cI, 16, .inl ft)), (g8, .inl (cI, 16, .inl fo)), (g10, .inl (cI, 16, .inl fd)), (g11, .inl (cI, 16, .inl fv))]) [0, 1, 2, 3, 4] rfl
            have hD9 := hD.sub (ws' := [(h, .inr (1, [.int 0, .int g1, .int g2, .int g3, .int g4, .ref g5, .int (nI mn), .ref g7, .ref g8, .ref g9, .ref g10, .ref g11, .int g12, .int g13, .int g14, .ref g15, .int g16, .ref g17, .ref g18, .ref g19, .ref g20, .ref g21, .ref g22, .int g23, .ref g24, .int g25, .int g26, .int g27, .int g28, .ref g29, .int g30, .int g31, .int g32])), (g7, .inl (cI, 16, .inl ft)), (g8, .inl (cI, 16, .inl fo)), (g10, .inl (cI, 16, .inl fd)), (g11, .inl (cI, 16, .inl fv))]) [0, 1, 2, 3, 4] (by decide) rfl
            refine W.widen (k := 0) (n := 0) (by first | exact Nat.le_refl _ | omega) (by first | exact Nat.le_refl _ | omega) ?_
            exact W.iret (v := ft p0.toNatClampNeg) hx hb hr (fun t ht hW => ⟨⟨ft p0.toNatClampNeg, (), rfl, (by rw [if_pos c_5]), by rw [ht]; exact hP9, va_K.moved hW.alike hK, hD9⟩, hS.F ht⟩) hS.2.2 dd_M_operation_95
        · exact absurd (by decide) c_4

set_option maxHeartbeats 4000000 in
set_option maxRecDepth 100000 in
/-- operation(i, w), there is none -/
theorem cb_M_operation_n (l : Launch) (dC : Nat → ClassId) (dI : Nat → Nat → Nat) (cB cI cJ : ClassId) (sz : Nat) (h : Nat) (g0 g1 g2 g3 g4 g12 g13 g14 g16 g23 g25 g26 g27 g28 g30 g31 g32 : Int32) (g5 g7 g8 g9 g10 g11 g15 g17 g18 g19 g20 g21 g22 g24 g29 : Nat) (mn : Nat) (hmn : mn ≤ 16) (p0 p1 : Int32) (hC : ¬ ((¬ g1 = 0 ∧ ¬ p0 < 0 ∧ ¬ nI mn ≤ p0) ∧ ¬ p1 < 0 ∧ ¬ 4 < p1)) : Met l yy_M_operation (Cond.code yy_M_operation cc_M_operation 3 (some .int) :: gw) { frames := 1, cells := 0, slots := 0, locals := 21 } (va_Pc [.ref h, .int p0, .int p1] (ks_pre dC dI [(cB, .byte), (cI, .int), (cJ, .long)] [(h, .inr (1, [.int g0, .int g1, .int g2, .int g3, .int g4, .ref g5, .int (nI mn), .ref g7, .ref g8, .ref g9, .ref g10, .ref g11, .int g12, .int g13, .int g14, .ref g15, .int g16, .ref g17, .ref g18, .ref g19, .ref g20, .ref g21, .ref g22, .int g23, .ref g24, .int g25, .int g26, .int g27, .int g28, .ref g29, .int g30, .int g31, .int g32]))] sz)) (va_Qi (fun r (_u : Unit) => r = 0) (fun (_u : Unit) => ks_post dC dI [(cB, .byte), (cI, .int), (cJ, .long)] (va_A [(h, .inr (1, [.int g0, .int g1, .int g2, .int g3, .int g4, .ref g5, .int (nI mn), .ref g7, .ref g8, .ref g9, .ref g10, .ref g11, .int g12, .int g13, .int g14, .ref g15, .int g16, .ref g17, .ref g18, .ref g19, .ref g20, .ref g21, .ref g22, .int g23, .ref g24, .int g25, .int g26, .int g27, .int g28, .ref g29, .int g30, .int g31, .int g32]))] sz) [(h, .inr (1, [.int 1, .int g1, .int g2, .int g3, .int g4, .ref g5, .int (nI mn), .ref g7, .ref g8, .ref g9, .ref g10, .ref g11, .int g12, .int g13, .int g14, .ref g15, .int g16, .ref g17, .ref g18, .ref g19, .ref g20, .ref g21, .ref g22, .int g23, .ref g24, .int g25, .int g26, .int g27, .int g28, .ref g29, .int g30, .int g31, .int g32]))]) (va_A [(h, .inr (1, [.int g0, .int g1, .int g2, .int g3, .int g4, .ref g5, .int (nI mn), .ref g7, .ref g8, .ref g9, .ref g10, .ref g11, .int g12, .int g13, .int g14, .ref g15, .int g16, .ref g17, .ref g18, .ref g19, .ref g20, .ref g21, .ref g22, .int g23, .ref g24, .int g25, .int g26, .int g27, .int g28, .ref g29, .int g30, .int g31, .int g32]))] sz)) 0 0 (va_A [(h, .inr (1, [.int g0, .int g1, .int g2, .int g3, .int g4, .ref g5, .int (nI mn), .ref g7, .ref g8, .ref g9, .ref g10, .ref g11, .int g12, .int g13, .int g14, .ref g15, .int g16, .ref g17, .ref g18, .ref g19, .ref g20, .ref g21, .ref g22, .int g23, .ref g24, .int g25, .int g26, .int g27, .int g28, .ref g29, .int g30, .int g31, .int g32]))] sz) := by
  refine Met.ofW (cc := cc_M_operation) (maxL := 3) (ret := (some .int)) (by decide) rfl ?_
  intro p e s m args below meth c s₁ B hml hv
  obtain ⟨rfl, hsz, hP, hK, hD0⟩ := hv
  have hx := B.exec
  have hb := B.bytes
  have hr := B.returns
  have hw : ∀ w ∈ gw, w.before _ s = true := fun w h => atoms_spec (ws := (Cond.code yy_M_operation cc_M_operation 3 (some .int) :: gw)) B.pre w (List.mem_cons_of_mem _ h)
  have hown : s.vm.findClass RR_M = some m.cls := findClass_of_methodNamed B.named
  have hlocks := B.notSynchronized
  subst hsz
  have hD := hD0.self (sz := s.heap.size)
  generalize hAe : va_A [(h, .inr (1, [.int g0, .int g1, .int g2, .int g3, .int g4, .ref g5, .int (nI mn), .ref g7, .ref g8, .ref g9, .ref g10, .ref g11, .int g12, .int g13, .int g14, .ref g15, .int g16, .ref g17, .ref g18, .ref g19, .ref g20, .ref g21, .ref g22, .int g23, .ref g24, .int g25, .int g26, .int g27, .int g28, .ref g29, .int g30, .int g31, .int g32]))] s.heap.size = A at hD ⊢
  have hA : ∀ q : Nat, s.heap.size ≤ q → A q := fun q h => by rw [← hAe]; exact Or.inr h
  have hS : va_S A s.heap s.heap [] := va_S.rf
  have hP : va_P (dC, dI) vcl [(h, .inr (1, [.int g0, .int g1, .int g2, .int g3, .int g4, .ref g5, .int (nI mn), .ref g7, .ref g8, .ref g9, .ref g10, .ref g11, .int g12, .int g13, .int g14, .ref g15, .int g16, .ref g17, .ref g18, .ref g19, .ref g20, .ref g21, .ref g22, .int g23, .ref g24, .int g25, .int g26, .int g27, .int g28, .ref g29, .int g30, .int g31, .int g32]))] s.heap := hP
  have hl := lv_entry ([.ref h, .int p0, .int p1]) (n := 3) (Nat.le_of_ble_eq_true rfl)
  rw [lg_entry_eq]
  generalize (lg_sl ([.ref h, .int p0, .int p1]) ++ List.replicate (3 - (lg_sl ([.ref h, .int p0, .int p1])).length) Slot.unset).toArray = ls at hl ⊢
  have hl : lv_has ls 3 [(0, .ref h), (1, .int p0), (2, .int p1)] := hl
  refine lv_aload_n hx hb dd_M_operation_0 rfl (lv_at hl 0 rfl) ?_
  refine lv_aload_n hx hb dd_M_operation_1 rfl (lv_at hl 0 rfl) ?_
  refine lv_iload_n hx hb dd_M_operation_2 rfl (lv_at hl 1 rfl) ?_
  have hPc := hP.sub (ws' := [(h, .inr (1, [.int g0, .int g1, .int g2, .int g3, .int g4, .ref g5, .int (nI mn), .ref g7, .ref g8, .ref g9, .ref g10, .ref g11, .int g12, .int g13, .int g14, .ref g15, .int g16, .ref g17, .ref g18, .ref g19, .ref g20, .ref g21, .ref g22, .int g23, .ref g24, .int g25, .int g26, .int g27, .int g28, .ref g29, .int g30, .int g31, .int g32]))]) [0] rfl
  refine W.callR (W.runV (As := [.int p0]) (rest := [.ref h]) ⟨hx, hb, hml, hown, hw⟩ (cp_M_isIn l dC dI cB cI cJ h g0 g1 g2 g3 g4 (nI mn) g12 g13 g14 g16 g23 g25 g26 g27 g28 g30 g31 g32 g5 g7 g8 g9 g10 g11 g15 g17 g18 g19 g20 g21 g22 g24 g29 p0) (kw_V 1 hw qq_845 qq_5 qq_848 qq_847 qs_M_isIn rfl rfl (by decide +kernel) ⟨Nat.le_of_ble_eq_true rfl, Nat.le_of_ble_eq_true rfl⟩) ⟨fun a U g mk q => by obtain ⟨q0, qP, qK⟩ := q; exact ⟨q0, qP, va_K.moved (u := U) (U := U.calling g mk a) (Vm.Alike.refl U.vm) qK⟩, va_recv hK hPc (ci := 1) (q0 := 0) rfl rfl, fun U hU hW => ⟨rfl, by rw [hU]; exact hPc, va_K.moved hW.alike hK⟩⟩ rfl rfl hl.1 rfl (lv_room (Nat.le_of_ble_eq_true rfl)) dd_M_operation_3 ⟨by first | exact Nat.le_of_ble_eq_true rfl | (simp only [headSpec]; omega), by first | exact Nat.le_of_ble_eq_true rfl | (simp only [headSpec]; omega)⟩) ?_
  refine W.eq (g2 := F0 m 6 ls [.int (b2i (decide (¬ g1 = 0 ∧ ¬ p0 < 0 ∧ ¬ (nI mn) ≤ p0))), .ref h]) rfl ?_
  refine lv_if_eq (tgt := 22) hx hb dd_M_operation_6 (by decide) (fun c_1 => ?_) (fun c_1 => ?_)
  · have c_1 := b2i_1.mp c_1
    refine lv_iconst (v := 1) hx hb dd_M_operation_22 (by decide) ?_
    refine va_put (D := (dC, dI)) (ci := 1) (v := .int 1) (ty := .int) (C := RR_M) (T := TT_M) (N := 33) hx hb hw hh_M ty_M ty_M_ok nm_M hown hK hP hD hS 0 rfl rfl 0 (by decide) (hw _ qq_579) (fun _ h9 => h9) rfl (by decide +kernel) rfl rfl (Nat.le_of_ble_eq_true rfl) dd_M_operation_23 (fun H locs hP hD hS => ?_)
    have hP : va_P (dC, dI) vcl [(h, .inr (1, [.int 1, .int g1, .int g2, .int g3, .int g4, .ref g5, .int (nI mn), .ref g7, .ref g8, .ref g9, .ref g10, .ref g11, .int g12, .int g13, .int g14, .ref g15, .int g16, .ref g17, .ref g18, .ref g19, .ref g20, .ref g21, .ref g22, .int g23, .ref g24, .int g25, .int g26, .int g27, .int g28, .ref g29, .int g30, .int g31, .int g32]))] H := hP
    have hD : va_D A [(h, .inr (1, [.int 1, .int g1, .int g2, .int g3, .int g4, .ref g5, .int (nI mn), .ref g7, .ref g8, .ref g9, .ref g10, .ref g11, .int g12, .int g13, .int g14, .ref g15, .int g16, .ref g17, .ref g18, .ref g19, .ref g20, .ref g21, .ref g22, .int g23, .ref g24, .int g25, .int g26, .int g27, .int g28, .ref g29, .int g30, .int g31, .int g32]))] := hD
    refine lv_aload_n hx hb dd_M_operation_26 rfl (lv_at hl 0 rfl) ?_
    refine va_get (D := (dC, dI)) (ci := 1) (v := .int 1) (C := RR_M) (T := TT_M) (N := 33) hx hb hw hh_M hown hK hP 0 rfl rfl 0 (by decide) (hw _ qq_579) (fun _ h9 => h9) rfl dd_M_operation_27 ?_
    refine lv_if_le (tgt := 35) hx hb dd_M_operation_30 (by decide) (fun c_2 => ?_) (fun c_2 => ?_)
    · exact absurd c_2 (by decide)
    · refine lv_iconst (v := 0) hx hb dd_M_operation_33 (by decide) ?_
      have hP9 := hP.sub (ws' := [(h, .inr (1, [.int 1, .int g1, .int g2, .int g3, .int g4, .ref g5, .int (nI mn), .ref g7, .ref g8, .ref g9, .ref g10, .ref g11, .int g12, .int g13, .int g14, .ref g15, .int g16, .ref g17, .ref g18, .ref g19, .ref g20, .ref g21, .ref g22, .int g23, .ref g24, .int g25, .int g26, .int g27, .int g28, .ref g29, .int g30, .int g31, .int g32]))]) [0] rfl
      have hD9 := hD.sub (ws' := [(h, .inr (1, [.int 1, .int g1, .int g2, .int g3, .int g4, .ref g5, .int (nI mn), .ref g7, .ref g8, .ref g9, .ref g10, .ref g11, .int g12, .int g13, .int g14, .ref g15, .int g16, .ref g17, .ref g18, .ref g19, .ref g20, .ref g21, .ref g22, .int g23, .ref g24, .int g25, .int g26, .int g27, .int g28, .ref g29, .int g30, .int g31, .int g32]))]) [0] (by decide) rfl
      refine W.widen (k := 0) (n := 0) (by first | exact Nat.le_refl _ | omega) (by first | exact Nat.le_refl _ | omega) ?_
      exact W.iret (v := 0) hx hb hr (fun t ht hW => ⟨⟨0, (), rfl, rfl, by rw [ht]; exact hP9, va_K.moved hW.alike hK, hD9⟩, hS.F ht⟩) hS.2.2 dd_M_operation_34
  · have c_1 := Classical.not_not.mp (mt b2i_1.mpr c_1)
    refine lv_iload_n hx hb dd_M_operation_9 rfl (lv_at hl 2 rfl) ?_
    refine lv_if_lt (tgt := 22) hx hb dd_M_operation_10 (by decide) (fun c_3 => ?_) (fun c_3 => ?_)
    · refine lv_iconst (v := 1) hx hb dd_M_operation_22 (by decide) ?_
      refine va_put (D := (dC, dI)) (ci := 1) (v := .int 1) (ty := .int) (C := RR_M) (T := TT_M) (N := 33) hx hb hw hh_M ty_M ty_M_ok nm_M hown hK hP hD hS 0 rfl rfl 0 (by decide) (hw _ qq_579) (fun _ h9 => h9) rfl (by decide +kernel) rfl rfl (Nat.le_of_ble_eq_true rfl) dd_M_operation_23 (fun H locs hP hD hS => ?_)
      have hP : va_P (dC, dI) vcl [(h, .inr (1, [.int 1, .int g1, .int g2, .int g3, .int g4, .ref g5, .int (nI mn), .ref g7, .ref g8, .ref g9, .ref g10, .ref g11, .int g12, .int g13, .int g14, .ref g15, .int g16, .ref g17, .ref g18, .ref g19, .ref g20, .ref g21, .ref g22, .int g23, .ref g24, .int g25, .int g26, .int g27, .int g28, .ref g29, .int g30, .int g31, .int g32]))] H := hP
      have hD : va_D A [(h, .inr (1, [.int 1, .int g1, .int g2, .int g3, .int g4, .ref g5, .int (nI mn), .ref g7, .ref g8, .ref g9, .ref g10, .ref g11, .int g12, .int g13, .int g14, .ref g15, .int g16, .ref g17, .ref g18, .ref g19, .ref g20, .ref g21, .ref g22, .int g23, .ref g24, .int g25, .int g26, .int g27, .int g28, .ref g29, .int g30, .int g31, .int g32]))] := hD
      refine lv_aload_n hx hb dd_M_operation_26 rfl (lv_at hl 0 rfl) ?_
      refine va_get (D := (dC, dI)) (ci := 1) (v := .int 1) (C := RR_M) (T := TT_M) (N := 33) hx hb hw hh_M hown hK hP 0 rfl rfl 0 (by decide) (hw _ qq_579) (fun _ h9 => h9) rfl dd_M_operation_27 ?_
      refine lv_if_le (tgt := 35) hx hb dd_M_operation_30 (by decide) (fun c_4 => ?_) (fun c_4 => ?_)
      · exact absurd c_4 (by decide)
      · refine lv_iconst (v := 0) hx hb dd_M_operation_33 (by decide) ?_
        have hP9 := hP.sub (ws' := [(h, .inr (1, [.int 1, .int g1, .int g2, .int g3, .int g4, .ref g5, .int (nI mn), .ref g7, .ref g8, .ref g9, .ref g10, .ref g11, .int g12, .int g13, .int g14, .ref g15, .int g16, .ref g17, .ref g18, .ref g19, .ref g20, .ref g21, .ref g22, .int g23, .ref g24, .int g25, .int g26, .int g27, .int g28, .ref g29, .int g30, .int g31, .int g32]))]) [0] rfl
        have hD9 := hD.sub (ws' := [(h, .inr (1, [.int 1, .int g1, .int g2, .int g3, .int g4, .ref g5, .int (nI mn), .ref g7, .ref g8, .ref g9, .ref g10, .ref g11, .int g12, .int g13, .int g14, .ref g15, .int g16, .ref g17, .ref g18, .ref g19, .ref g20, .ref g21, .ref g22, .int g23, .ref g24, .int g25, .int g26, .int g27, .int g28, .ref g29, .int g30, .int g31, .int g32]))]) [0] (by decide) rfl
        refine W.widen (k := 0) (n := 0) (by first | exact Nat.le_refl _ | omega) (by first | exact Nat.le_refl _ | omega) ?_
        exact W.iret (v := 0) hx hb hr (fun t ht hW => ⟨⟨0, (), rfl, rfl, by rw [ht]; exact hP9, va_K.moved hW.alike hK, hD9⟩, hS.F ht⟩) hS.2.2 dd_M_operation_34
    · refine lv_iload_n hx hb dd_M_operation_13 rfl (lv_at hl 2 rfl) ?_
      refine lv_iconst (v := 4) hx hb dd_M_operation_14 (by decide) ?_
      refine lv_icmp_gt (tgt := 22) hx hb dd_M_operation_15 (by decide) (fun c_5 => ?_) (fun c_5 => ?_)
      · refine lv_iconst (v := 1) hx hb dd_M_operation_22 (by decide) ?_
        refine va_put (D := (dC, dI)) (ci := 1) (v := .int 1) (ty := .int) (C := RR_M) (T := TT_M) (N := 33) hx hb hw hh_M ty_M ty_M_ok nm_M hown hK hP hD hS 0 rfl rfl 0 (by decide) (hw _ qq_579) (fun _ h9 => h9) rfl (by decide +kernel) rfl rfl (Nat.le_of_ble_eq_true rfl) dd_M_operation_23 (fun H locs hP hD hS => ?_)
        have hP : va_P (dC, dI) vcl [(h, .inr (1, [.int 1, .int g1, .int g2, .int g3, .int g4, .ref g5, .int (nI mn), .ref g7, .ref g8, .ref g9, .ref g10, .ref g11, .int g12, .int g13, .int g14, .ref g15, .int g16, .ref g17, .ref g18, .ref g19, .ref g20, .ref g21, .ref g22, .int g23, .ref g24, .int g25, .int g26, .int g27, .int g28, .ref g29, .int g30, .int g31, .int g32]))] H := hP
        have hD : va_D A [(h, .inr (1, [.int 1, .int g1, .int g2, .int g3, .int g4, .ref g5, .int (nI mn), .ref g7, .ref g8, .ref g9, .ref g10, .ref g11, .int g12, .int g13, .int g14, .ref g15, .int g16, .ref g17, .ref g18, .ref g19, .ref g20, .ref g21, .ref g22, .int g23, .ref g24, .int g25, .int g26, .int g27, .int g28, .ref g29, .int g30, .int g31, .int g32]))] := hD
        refine lv_aload_n hx hb dd_M_operation_26 rfl (lv_at hl 0 rfl) ?_
        refine va_get (D := (dC, dI)) (ci := 1) (v := .int 1) (C := RR_M) (T := TT_M) (N := 33) hx hb hw hh_M hown hK hP 0 rfl rfl 0 (by decide) (hw _ qq_579) (fun _ h9 => h9) rfl dd_M_operation_27 ?_
        refine lv_if_le (tgt := 35) hx hb dd_M_operation_30 (by decide) (fun c_6 => ?_) (fun c_6 => ?_)
        · exact absurd c_6 (by decide)
        · refine lv_iconst (v := 0) hx hb dd_M_operation_33 (by decide) ?_
          have hP9 := hP.sub (ws' := [(h, .inr (1, [.int 1, .int g1, .int g2, .int g3, .int g4, .ref g5, .int (nI mn), .ref g7, .ref g8, .ref g9, .ref g10, .ref g11, .int g12, .int g13, .int g14, .ref g15, .int g16, .ref g17, .ref g18, .ref g19, .ref g20, .ref g21, .ref g22, .int g23, .ref g24, .int g25, .int g26, .int g27, .int g28, .ref g29, .int g30, .int g31, .int g32]))]) [0] rfl
          have hD9 := hD.sub (ws' := [(h, .inr (1, [.int 1, .int g1, .int g2, .int g3, .int g4, .ref g5, .int (nI mn), .ref g7, .ref g8, .ref g9, .ref g10, .ref g11, .int g12, .int g13, .int g14, .ref g15, .int g16, .ref g17, .ref g18, .ref g19, .ref g20, .ref g21, .ref g22, .int g23, .ref g24, .int g25, .int g26, .int g27, .int g28, .ref g29, .int g30, .int g31, .int g32]))]) [0] (by decide) rfl
          refine W.widen (k := 0) (n := 0) (by first | exact Nat.le_refl _ | omega) (by first | exact Nat.le_refl _ | omega) ?_
          exact W.iret (v := 0) hx hb hr (fun t ht hW => ⟨⟨0, (), rfl, rfl, by rw [ht]; exact hP9, va_K.moved hW.alike hK, hD9⟩, hS.F ht⟩) hS.2.2 dd_M_operation_34
      · exact absurd (show ((¬ g1 = 0 ∧ ¬ p0 < 0 ∧ ¬ nI mn ≤ p0) ∧ ¬ p1 < 0 ∧ ¬ 4 < p1) from ⟨c_1, c_3, c_5⟩) hC

set_option maxHeartbeats 4000000 in
set_option maxRecDepth 100000 in
/-- give(v, n), there is room -/
theorem cb_M_give_y (l : Launch) (dC : Nat → ClassId) (dI : Nat → Nat → Nat) (cB cI cJ : ClassId) (sz : Nat) (h : Nat) (g0 g1 g2 g3 g4 g6 g12 g13 g14 g16 g23 g26 g27 g28 g30 g31 g32 : Int32) (g5 g7 g8 g9 g10 g11 g15 g17 g18 g19 g20 g21 g22 g24 g29 : Nat) (f0 : Nat → Int32) (bs0 : List Int32) (hH : Hd bs0 f0) (hb4 : bs0.length ≤ 4096) (p0 : Int64) (n : Nat) (hn1 : 1 ≤ n) (hn8 : n ≤ 8) (hRm : bs0.length + n ≤ 4096) : Met l yy_M_give (Cond.code yy_M_give cc_M_give 5 (some .boolean) :: gw) { frames := 0, cells := 0, slots := 0, locals := 0 } (va_Pc [.ref h, .long p0, .int (nI n)] (ks_pre dC dI [(cB, .byte), (cI, .int), (cJ, .long)] [(h, .inr (1, [.int g0, .int g1, .int g2, .int g3, .int g4, .ref g5, .int g6, .ref g7, .ref g8, .ref g9, .ref g10, .ref g11, .int g12, .int g13, .int g14, .ref g15, .int g16, .ref g17, .ref g18, .ref g19, .ref g20, .ref g21, .ref g22, .int g23, .ref g24, .int (nI bs0.length), .int g26, .int g27, .int g28, .ref g29, .int g30, .int g31, .int g32])), (g24, .inl (cB, 4096, .inl f0))] sz)) (va_Qi (fun r (u : Nat → Int32) => r = 1 ∧ Hd (bs0 ++ encLk n p0) u) (fun (u : Nat → Int32) => ks_post dC dI [(cB, .byte), (cI, .int), (cJ, .long)] (va_A [(h, .inr (1, [.int g0, .int g1, .int g2, .int g3, .int g4, .ref g5, .int g6, .ref g7, .ref g8, .ref g9, .ref g10, .ref g11, .int g12, .int g13, .int g14, .ref g15, .int g16, .ref g17, .ref g18, .ref g19, .ref g20, .ref g21, .ref g22, .int g23, .ref g24, .int (nI bs0.length), .int g26, .int g27, .int g28, .ref g29, .int g30, .int g31, .int g32])), (g24, .inl (cB, 4096, .inl f0))] sz) [(h, .inr (1, [.int 0, .int g1, .int g2, .int g3, .int g4, .ref g5, .int g6, .ref g7, .ref g8, .ref g9, .ref g10, .ref g11, .int g12, .int g13, .int g14, .ref g15, .int g16, .ref g17, .ref g18, .ref g19, .ref g20, .ref g21, .ref g22, .int g23, .ref g24, .int (nI (bs0 ++ encLk n p0).length), .int g26, .int g27, .int g28, .ref g29, .int g30, .int g31, .int g32])), (g24, .inl (cB, 4096, .inl u))]) (va_A [(h, .inr (1, [.int g0, .int g1, .int g2, .int g3, .int g4, .ref g5, .int g6, .ref g7, .ref g8, .ref g9, .ref g10, .ref g11, .int g12, .int g13, .int g14, .ref g15, .int g16, .ref g17, .ref g18, .ref g19, .ref g20, .ref g21, .ref g22, .int g23, .ref g24, .int (nI bs0.length), .int g26, .int g27, .int g28, .ref g29, .int g30, .int g31, .int g32])), (g24, .inl (cB, 4096, .inl f0))] sz)) 0 0 (va_A [(h, .inr (1, [.int g0, .int g1, .int g2, .int g3, .int g4, .ref g5, .int g6, .ref g7, .ref g8, .ref g9, .ref g10, .ref g11, .int g12, .int g13, .int g14, .ref g15, .int g16, .ref g17, .ref g18, .ref g19, .ref g20, .ref g21, .ref g22, .int g23, .ref g24, .int (nI bs0.length), .int g26, .int g27, .int g28, .ref g29, .int g30, .int g31, .int g32])), (g24, .inl (cB, 4096, .inl f0))] sz) := by
  refine Met.ofW (cc := cc_M_give) (maxL := 5) (ret := (some .boolean)) (by decide) rfl ?_
  intro p e s m args below meth c s₁ B hml hv
  obtain ⟨rfl, hsz, hP, hK, hD0⟩ := hv
  have hx := B.exec
  have hb := B.bytes
  have hr := B.returns
  have hw : ∀ w ∈ gw, w.before _ s = true := fun w h => atoms_spec (ws := (Cond.code yy_M_give cc_M_give 5 (some .boolean) :: gw)) B.pre w (List.mem_cons_of_mem _ h)
  have hown : s.vm.findClass RR_M = some m.cls := findClass_of_methodNamed B.named
  have hlocks := B.notSynchronized
  subst hsz
  have hD := hD0.self (sz := s.heap.size)
  generalize hAe : va_A [(h, .inr (1, [.int g0, .int g1, .int g2, .int g3, .int g4, .ref g5, .int g6, .ref g7, .ref g8, .ref g9, .ref g10, .ref g11, .int g12, .int g13, .int g14, .ref g15, .int g16, .ref g17, .ref g18, .ref g19, .ref g20, .ref g21, .ref g22, .int g23, .ref g24, .int (nI bs0.length), .int g26, .int g27, .int g28, .ref g29, .int g30, .int g31, .int g32])), (g24, .inl (cB, 4096, .inl f0))] s.heap.size = A at hD ⊢
  have hA : ∀ q : Nat, s.heap.size ≤ q → A q := fun q h => by rw [← hAe]; exact Or.inr h
  have hS : va_S A s.heap s.heap [] := va_S.rf
  have hP : va_P (dC, dI) vcl [(h, .inr (1, [.int g0, .int g1, .int g2, .int g3, .int g4, .ref g5, .int g6, .ref g7, .ref g8, .ref g9, .ref g10, .ref g11, .int g12, .int g13, .int g14, .ref g15, .int g16, .ref g17, .ref g18, .ref g19, .ref g20, .ref g21, .ref g22, .int g23, .ref g24, .int (nI bs0.length), .int g26, .int g27, .int g28, .ref g29, .int g30, .int g31, .int g32])), (g24, .inl (cB, 4096, .inl f0))] s.heap := hP
  have hl := lv_entry ([.ref h, .long p0, .int (nI n)]) (n := 5) (Nat.le_of_ble_eq_true rfl)
  rw [lg_entry_eq]
  generalize (lg_sl ([.ref h, .long p0, .int (nI n)]) ++ List.replicate (5 - (lg_sl ([.ref h, .long p0, .int (nI n)])).length) Slot.unset).toArray = ls at hl ⊢
  have hl : lv_has ls 5 [(0, .ref h), (1, .long p0), (3, .int (nI n))] := hl
  refine lv_aload_n hx hb dd_M_give_0 rfl (lv_at hl 0 rfl) ?_
  refine lv_iconst (v := 0) hx hb dd_M_give_1 (by decide) ?_
  refine va_put (D := (dC, dI)) (ci := 1) (v := .int 0) (ty := .int) (C := RR_M) (T := TT_M) (N := 33) hx hb hw hh_M ty_M ty_M_ok nm_M hown hK hP hD hS 0 rfl rfl 0 (by decide) (hw _ qq_579) (fun _ h9 => h9) rfl (by decide +kernel) rfl rfl (Nat.le_of_ble_eq_true rfl) dd_M_give_2 (fun H locs hP hD hS => ?_)
  have hP : va_P (dC, dI) vcl [(h, .inr (1, [.int 0, .int g1, .int g2, .int g3, .int g4, .ref g5, .int g6, .ref g7, .ref g8, .ref g9, .ref g10, .ref g11, .int g12, .int g13, .int g14, .ref g15, .int g16, .ref g17, .ref g18, .ref g19, .ref g20, .ref g21, .ref g22, .int g23, .ref g24, .int (nI bs0.length), .int g26, .int g27, .int g28, .ref g29, .int g30, .int g31, .int g32])), (g24, .inl (cB, 4096, .inl f0))] H := hP
  have hD : va_D A [(h, .inr (1, [.int 0, .int g1, .int g2, .int g3, .int g4, .ref g5, .int g6, .ref g7, .ref g8, .ref g9, .ref g10, .ref g11, .int g12, .int g13, .int g14, .ref g15, .int g16, .ref g17, .ref g18, .ref g19, .ref g20, .ref g21, .ref g22, .int g23, .ref g24, .int (nI bs0.length), .int g26, .int g27, .int g28, .ref g29, .int g30, .int g31, .int g32])), (g24, .inl (cB, 4096, .inl f0))] := hD
  refine lv_iload_n hx hb dd_M_give_5 rfl (lv_at hl 2 rfl) ?_
  refine lv_iconst (v := 1) hx hb dd_M_give_6 (by decide) ?_
  refine lv_icmp_lt (tgt := 28) hx hb dd_M_give_7 (by decide) (fun c_1 => ?_) (fun c_1 => ?_)
  · exact absurd c_1 (nI_nlt (a := n) (b := 1) hn1 (by omega))
  · refine lv_iload_n hx hb dd_M_give_10 rfl (lv_at hl 2 rfl) ?_
    refine lv_bipush (v := 8) hx hb dd_M_give_11 (by decide) ?_
    refine lv_icmp_gt (tgt := 28) hx hb dd_M_give_13 (by decide) (fun c_2 => ?_) (fun c_2 => ?_)
    · exact absurd c_2 (nI_nlt (a := 8) (b := n) hn8 (by decide))
    · refine lv_aload_n hx hb dd_M_give_16 rfl (lv_at hl 0 rfl) ?_
      refine va_get (D := (dC, dI)) (ci := 1) (v := .int (nI bs0.length)) (C := RR_M) (T := TT_M) (N := 33) hx hb hw hh_M hown hK hP 0 rfl rfl 25 (by decide) (hw _ qq_604) (fun _ h9 => h9) rfl dd_M_give_17 ?_
      refine lv_iload_n hx hb dd_M_give_20 rfl (lv_at hl 2 rfl) ?_
      refine lv_iadd hx hb dd_M_give_21 ?_
      refine lv_sipush (v := 4096) hx hb dd_M_give_22 (by decide) ?_
      refine lv_icmp_le (tgt := 30) hx hb dd_M_give_25 (by decide) (fun c_3 => ?_) (fun c_3 => ?_)
      · refine lv_iload_n hx hb dd_M_give_30 rfl (lv_at hl 2 rfl) ?_
        refine lv_iconst (v := 1) hx hb dd_M_give_31 (by decide) ?_
        refine lv_isub hx hb dd_M_give_32 ?_
        refine lv_istore (lv' := [(4, .int ((nI n) - 1)), (0, .ref h), (1, .long p0), (3, .int (nI n))]) hx hb dd_M_give_33 hl (by decide) rfl (fun ls hl => ?_)
        have lp_4 : ∀ (k : Nat) (bs : List Int32) (f : Nat → Int32), (Hd bs f) → (k ≤ 8) → (bs0 ++ encLk n p0 = bs ++ encLk k p0) → (bs.length + k ≤ 4096) → ∀ (H : Heap) (locs : List Loc), va_P (dC, dI) vcl [(h, .inr (1, [.int 0, .int g1, .int g2, .int g3, .int g4, .ref g5, .int g6, .ref g7, .ref g8, .ref g9, .ref g10, .ref g11, .int g12, .int g13, .int g14, .ref g15, .int g16, .ref g17, .ref g18, .ref g19, .ref g20, .ref g21, .ref g22, .int g23, .ref g24, .int (nI bs.length), .int g26, .int g27, .int g28, .ref g29, .int g30, .int g31, .int g32])), (g24, .inl (cB, 4096, .inl f))] H → va_D A [(h, .inr (1, [.int 0, .int g1, .int g2, .int g3, .int g4, .ref g5, .int g6, .ref g7, .ref g8, .ref g9, .ref g10, .ref g11, .int g12, .int g13, .int g14, .ref g15, .int g16, .ref g17, .ref g18, .ref g19, .ref g20, .ref g21, .ref g22, .int g23, .ref g24, .int (nI bs.length), .int g26, .int g27, .int g28, .ref g29, .int g30, .int g31, .int g32])), (g24, .inl (cB, 4096, .inl f))] → va_S A s.heap H locs → ∀ ls : Array Slot, lv_has ls 5 [(0, .ref h), (1, .long p0), (3, .int (nI n)), (4, .int (nI k - 1))] → W p l e (headSpec (Cond.code yy_M_give cc_M_give 5 (some .boolean) :: gw) { frames := 0, cells := 0, slots := 0, locals := 0 }).room s m ([.ref h, .long p0, .int (nI n)] : List Value).toArray below meth c H locs 0 0 (MQ below (va_Qi (fun r (u : Nat → Int32) => r = 1 ∧ Hd (bs0 ++ encLk n p0) u) (fun (u : Nat → Int32) => ks_post dC dI [(cB, .byte), (cI, .int), (cJ, .long)] A [(h, .inr (1, [.int 0, .int g1, .int g2, .int g3, .int g4, .ref g5, .int g6, .ref g7, .ref g8, .ref g9, .ref g10, .ref g11, .int g12, .int g13, .int g14, .ref g15, .int g16, .ref g17, .ref g18, .ref g19, .ref g20, .ref g21, .ref g22, .int g23, .ref g24, .int (nI (bs0 ++ encLk n p0).length), .int g26, .int g27, .int g28, .ref g29, .int g30, .int g31, .int g32])), (g24, .inl (cB, 4096, .inl u))]) A) ([.ref h, .long p0, .int (nI n)] : List Value).toArray s 0 0 A) (F0 m 35 ls []) := by
          intro k
          induction k with
          | zero =>
            intro bs f hH hk8 hU hRm H locs hP hD hS ls hl
            refine lv_iload hx hb dd_M_give_35 (lv_at hl 3 rfl) ?_
            refine lv_if_lt (tgt := 74) hx hb dd_M_give_37 (by decide) (fun c_5 => ?_) (fun c_5 => ?_)
            · refine lv_iconst (v := 1) hx hb dd_M_give_74 (by decide) ?_
              have hfin : bs = bs0 ++ encLk n p0 := by rw [hU, encLk, List.append_nil]
              have e_6 : (nI bs.length : Int32) = nI (bs0 ++ encLk n p0).length := (by rw [hfin])
              have hP : va_P (dC, dI) vcl [(h, .inr (1, [.int 0, .int g1, .int g2, .int g3, .int g4, .ref g5, .int g6, .ref g7, .ref g8, .ref g9, .ref g10, .ref g11, .int g12, .int g13, .int g14, .ref g15, .int g16, .ref g17, .ref g18, .ref g19, .ref g20, .ref g21, .ref g22, .int g23, .ref g24, .int (nI (bs0 ++ encLk n p0).length), .int g26, .int g27, .int g28, .ref g29, .int g30, .int g31, .int g32])), (g24, .inl (cB, 4096, .inl f))] H := by rw [← e_6]; exact hP
              have hD : va_D A [(h, .inr (1, [.int 0, .int g1, .int g2, .int g3, .int g4, .ref g5, .int g6, .ref g7, .ref g8, .ref g9, .ref g10, .ref g11, .int g12, .int g13, .int g14, .ref g15, .int g16, .ref g17, .ref g18, .ref g19, .ref g20, .ref g21, .ref g22, .int g23, .ref g24, .int (nI (bs0 ++ encLk n p0).length), .int g26, .int g27, .int g28, .ref g29, .int g30, .int g31, .int g32])), (g24, .inl (cB, 4096, .inl f))] := by rw [← e_6]; exact hD
              have hP9 := hP.sub (ws' := [(h, .inr (1, [.int 0, .int g1, .int g2, .int g3, .int g4, .ref g5, .int g6, .ref g7, .ref g8, .ref g9, .ref g10, .ref g11, .int g12, .int g13, .int g14, .ref g15, .int g16, .ref g17, .ref g18, .ref g19, .ref g20, .ref g21, .ref g22, .int g23, .ref g24, .int (nI (bs0 ++ encLk n p0).length), .int g26, .int g27, .int g28, .ref g29, .int g30, .int g31, .int g32])), (g24, .inl (cB, 4096, .inl f))]) [0, 1] rfl
              have hD9 := hD.sub (ws' := [(h, .inr (1, [.int 0, .int g1, .int g2, .int g3, .int g4, .ref g5, .int g6, .ref g7, .ref g8, .ref g9, .ref g10, .ref g11, .int g12, .int g13, .int g14, .ref g15, .int g16, .ref g17, .ref g18, .ref g19, .ref g20, .ref g21, .ref g22, .int g23, .ref g24, .int (nI (bs0 ++ encLk n p0).length), .int g26, .int g27, .int g28, .ref g29, .int g30, .int g31, .int g32])), (g24, .inl (cB, 4096, .inl f))]) [0, 1] (by decide) rfl
              refine W.widen (k := 0) (n := 0) (by first | exact Nat.le_refl _ | omega) (by first | exact Nat.le_refl _ | omega) ?_
              exact W.zret (ty := .boolean) (v := 1) hx hb hr (by rfl) (fun t ht hW => ⟨⟨1, f, rfl, ⟨rfl, by rw [← hfin]; exact hH⟩, by rw [ht]; exact hP9, va_K.moved hW.alike hK, hD9⟩, hS.F ht⟩) hS.2.2 dd_M_give_75
            · exact absurd (by decide) c_5
          | succ k ih =>
            intro bs f hH hk8 hU hRm H locs hP hD hS ls hl
            have e_7 : (nI (k + 1) - 1 : Int32) = nI k := nI_sm
            have hl : lv_has ls 5 [(0, .ref h), (1, .long p0), (3, .int (nI n)), (4, .int (nI k))] := by rw [← e_7]; exact hl
            refine lv_iload hx hb dd_M_give_35 (lv_at hl 3 rfl) ?_
            refine lv_if_lt (tgt := 74) hx hb dd_M_give_37 (by decide) (fun c_8 => ?_) (fun c_8 => ?_)
            · exact absurd c_8 (nI_pos (by omega))
            · refine lv_aload_n hx hb dd_M_give_40 rfl (lv_at hl 0 rfl) ?_
              refine va_get (D := (dC, dI)) (ci := 1) (v := .ref g24) (C := RR_M) (T := TT_M) (N := 33) hx hb hw hh_M hown hK hP 0 rfl rfl 24 (by decide) (hw _ qq_603) (fun _ h9 => h9) rfl dd_M_give_41 ?_
              refine lv_aload_n hx hb dd_M_give_44 rfl (lv_at hl 0 rfl) ?_
              refine va_get (D := (dC, dI)) (ci := 1) (v := .int (nI bs.length)) (C := RR_M) (T := TT_M) (N := 33) hx hb hw hh_M hown hK hP 0 rfl rfl 25 (by decide) (hw _ qq_604) (fun _ h9 => h9) rfl dd_M_give_45 ?_
              refine lv_lload_n hx hb dd_M_give_48 rfl (lv_at hl 1 rfl) ?_
              refine lv_bipush (v := 8) hx hb dd_M_give_49 (by decide) ?_
              refine lv_iload hx hb dd_M_give_51 (lv_at hl 3 rfl) ?_
              refine lv_imul hx hb dd_M_give_53 ?_
              refine lv_topi (fun z_9 hz_9 => ?_)
              obtain rfl : z_9 = nI (8 * k) := hz_9.trans (pk_mul 8 k)
              refine lv_lshr (v := p0 >>> ((nI (8 * k)).toInt64 &&& 63)) hx hb dd_M_give_54 rfl ?_
              refine lv_l2i (v := (p0 >>> ((nI (8 * k)).toInt64 &&& 63)).toInt32) hx hb dd_M_give_55 rfl ?_
              refine lv_i2b (v := ((p0 >>> ((nI (8 * k)).toInt64 &&& 63)).toInt32).toInt8.toInt32) hx hb dd_M_give_56 rfl ?_
              refine va_bast hx hb hK hP hD hS 1 0 rfl rfl (vp_in_nI (by omega) (by decide)) dd_M_give_57 (fun H locs hP hD hS => ?_)
              have hP : va_P (dC, dI) vcl [(h, .inr (1, [.int 0, .int g1, .int g2, .int g3, .int g4, .ref g5, .int g6, .ref g7, .ref g8, .ref g9, .ref g10, .ref g11, .int g12, .int g13, .int g14, .ref g15, .int g16, .ref g17, .ref g18, .ref g19, .ref g20, .ref g21, .ref g22, .int g23, .ref g24, .int (nI bs.length), .int g26, .int g27, .int g28, .ref g29, .int g30, .int g31, .int g32])), (g24, .inl (cB, 4096, .inl (upd f (nI bs.length).toNatClampNeg (vp_nar .byte (((p0 >>> ((nI (8 * k)).toInt64 &&& 63)).toInt32).toInt8.toInt32)))))] H := hP
              have hD : va_D A [(h, .inr (1, [.int 0, .int g1, .int g2, .int g3, .int g4, .ref g5, .int g6, .ref g7, .ref g8, .ref g9, .ref g10, .ref g11, .int g12, .int g13, .int g14, .ref g15, .int g16, .ref g17, .ref g18, .ref g19, .ref g20, .ref g21, .ref g22, .int g23, .ref g24, .int (nI bs.length), .int g26, .int g27, .int g28, .ref g29, .int g30, .int g31, .int g32])), (g24, .inl (cB, 4096, .inl (upd f (nI bs.length).toNatClampNeg (vp_nar .byte (((p0 >>> ((nI (8 * k)).toInt64 &&& 63)).toInt32).toInt8.toInt32)))))] := hD
              refine lv_aload_n hx hb dd_M_give_58 rfl (lv_at hl 0 rfl) ?_
              refine lv_dup hx hb dd_M_give_59 rfl ?_
              refine va_get (D := (dC, dI)) (ci := 1) (v := .int (nI bs.length)) (C := RR_M) (T := TT_M) (N := 33) hx hb hw hh_M hown hK hP 0 rfl rfl 25 (by decide) (hw _ qq_604) (fun _ h9 => h9) rfl dd_M_give_60 ?_
              refine lv_iconst (v := 1) hx hb dd_M_give_63 (by decide) ?_
              refine lv_iadd hx hb dd_M_give_64 ?_
              refine va_put (D := (dC, dI)) (ci := 1) (v := .int ((nI bs.length) + 1)) (ty := .int) (C := RR_M) (T := TT_M) (N := 33) hx hb hw hh_M ty_M ty_M_ok nm_M hown hK hP hD hS 0 rfl rfl 25 (by decide) (hw _ qq_604) (fun _ h9 => h9) rfl (by decide +kernel) rfl rfl (Nat.le_of_ble_eq_true rfl) dd_M_give_65 (fun H locs hP hD hS => ?_)
              have hP : va_P (dC, dI) vcl [(h, .inr (1, [.int 0, .int g1, .int g2, .int g3, .int g4, .ref g5, .int g6, .ref g7, .ref g8, .ref g9, .ref g10, .ref g11, .int g12, .int g13, .int g14, .ref g15, .int g16, .ref g17, .ref g18, .ref g19, .ref g20, .ref g21, .ref g22, .int g23, .ref g24, .int ((nI bs.length) + 1), .int g26, .int g27, .int g28, .ref g29, .int g30, .int g31, .int g32])), (g24, .inl (cB, 4096, .inl (upd f (nI bs.length).toNatClampNeg (vp_nar .byte (((p0 >>> ((nI (8 * k)).toInt64 &&& 63)).toInt32).toInt8.toInt32)))))] H := hP
              have hD : va_D A [(h, .inr (1, [.int 0, .int g1, .int g2, .int g3, .int g4, .ref g5, .int g6, .ref g7, .ref g8, .ref g9, .ref g10, .ref g11, .int g12, .int g13, .int g14, .ref g15, .int g16, .ref g17, .ref g18, .ref g19, .ref g20, .ref g21, .ref g22, .int g23, .ref g24, .int ((nI bs.length) + 1), .int g26, .int g27, .int g28, .ref g29, .int g30, .int g31, .int g32])), (g24, .inl (cB, 4096, .inl (upd f (nI bs.length).toNatClampNeg (vp_nar .byte (((p0 >>> ((nI (8 * k)).toInt64 &&& 63)).toInt32).toInt8.toInt32)))))] := hD
              refine lv_iinc (v := (nI k) + (-1)) (lv' := [(4, .int ((nI k) + (-1))), (0, .ref h), (1, .long p0), (3, .int (nI n))]) hx hb dd_M_give_68 hl (k := 3) rfl rfl (by decide) rfl (fun ls hl => ?_)
              refine lv_goto (tgt := 35) hx hb dd_M_give_71 (by decide) ?_
              have e_10 : ((nI k) + (-1) : Int32) = nI k - 1 := i32_m1 (nI k)
              have hl : lv_has ls 5 [(4, .int (nI k - 1)), (0, .ref h), (1, .long p0), (3, .int (nI n))] := by rw [← e_10]; exact hl
              have e_11 : ((nI bs.length) + 1 : Int32) = nI (bs ++ [ltb p0 k]).length := (by rw [nI_1, List.length_append]; rfl)
              have hP : va_P (dC, dI) vcl [(h, .inr (1, [.int 0, .int g1, .int g2, .int g3, .int g4, .ref g5, .int g6, .ref g7, .ref g8, .ref g9, .ref g10, .ref g11, .int g12, .int g13, .int g14, .ref g15, .int g16, .ref g17, .ref g18, .ref g19, .ref g20, .ref g21, .ref g22, .int g23, .ref g24, .int (nI (bs ++ [ltb p0 k]).length), .int g26, .int g27, .int g28, .ref g29, .int g30, .int g31, .int g32])), (g24, .inl (cB, 4096, .inl (upd f (nI bs.length).toNatClampNeg (vp_nar .byte (((p0 >>> ((nI (8 * k)).toInt64 &&& 63)).toInt32).toInt8.toInt32)))))] H := by rw [← e_11]; exact hP
              have hD : va_D A [(h, .inr (1, [.int 0, .int g1, .int g2, .int g3, .int g4, .ref g5, .int g6, .ref g7, .ref g8, .ref g9, .ref g10, .ref g11, .int g12, .int g13, .int g14, .ref g15, .int g16, .ref g17, .ref g18, .ref g19, .ref g20, .ref g21, .ref g22, .int g23, .ref g24, .int (nI (bs ++ [ltb p0 k]).length), .int g26, .int g27, .int g28, .ref g29, .int g30, .int g31, .int g32])), (g24, .inl (cB, 4096, .inl (upd f (nI bs.length).toNatClampNeg (vp_nar .byte (((p0 >>> ((nI (8 * k)).toInt64 &&& 63)).toInt32).toInt8.toInt32)))))] := by rw [← e_11]; exact hD
              exact ih (bs ++ [ltb p0 k]) (upd f (nI bs.length).toNatClampNeg (vp_nar .byte (((p0 >>> ((nI (8 * k)).toInt64 &&& 63)).toInt32).toInt8.toInt32))) (by have h9 := Hd_put hH (p0 >>> ((nI (8 * k)).toInt64 &&& 63)).toInt32; rw [ltb_sar8 p0 k (by omega)] at h9; rw [nI_clamp (by omega), by8_by8]; exact h9) (by omega) (by rw [hU, encLk, List.append_assoc]; rfl) (by rw [List.length_append, List.length_singleton]; omega) _ _ hP hD hS _ (lv_sub hl [1, 2, 3, 0] rfl)
        exact lp_4 n bs0 f0 hH (by omega) rfl (by omega) _ _ hP hD hS _ (lv_sub hl [1, 2, 3, 0] rfl)
      · exact absurd (show nI bs0.length + nI n ≤ 4096 from by rw [nI_add]; exact nI_le (a := bs0.length + n) (b := 4096) hRm (by decide)) c_3

set_option maxHeartbeats 4000000 in
set_option maxRecDepth 100000 in
/-- give(v, n), no such n or no room -/
theorem cb_M_give_n (l : Launch) (dC : Nat → ClassId) (dI : Nat → Nat → Nat) (cB cI cJ : ClassId) (sz : Nat) (h : Nat) (g0 g1 g2 g3 g4 g6 g12 g13 g14 g16 g23 g26 g27 g28 g30 g31 g32 : Int32) (g5 g7 g8 g9 g10 g11 g15 g17 g18 g19 g20 g21 g22 g24 g29 : Nat) (bs0 : List Int32) (p0 : Int64) (p1 : Int32) (hC : (p1 < 1 ∨ 8 < p1 ∨ ¬ nI bs0.length + p1 ≤ 4096)) : Met l yy_M_give (Cond.code yy_M_give cc_M_give 5 (some .boolean) :: gw) { frames := 0, cells := 0, slots := 0, locals := 0 } (va_Pc [.ref h, .long p0, .int p1] (ks_pre dC dI [(cB, .byte), (cI, .int), (cJ, .long)] [(h, .inr (1, [.int g0, .int g1, .int g2, .int g3, .int g4, .ref g5, .int g6, .ref g7, .ref g8, .ref g9, .ref g10, .ref g11, .int g12, .int g13, .int g14, .ref g15, .int g16, .ref g17, .ref g18, .ref g19, .ref g20, .ref g21, .ref g22, .int g23, .ref g24, .int (nI bs0.length), .int g26, .int g27, .int g28, .ref g29, .int g30, .int g31, .int g32]))] sz)) (va_Qi (fun r (_u : Unit) => r = 0) (fun (_u : Unit) => ks_post dC dI [(cB, .byte), (cI, .int), (cJ, .long)] (va_A [(h, .inr (1, [.int g0, .int g1, .int g2, .int g3, .int g4, .ref g5, .int g6, .ref g7, .ref g8, .ref g9, .ref g10, .ref g11, .int g12, .int g13, .int g14, .ref g15, .int g16, .ref g17, .ref g18, .ref g19, .ref g20, .ref g21, .ref g22, .int g23, .ref g24, .int (nI bs0.length), .int g26, .int g27, .int g28, .ref g29, .int g30, .int g31, .int g32]))] sz) [(h, .inr (1, [.int 0, .int g1, .int g2, .int g3, .int g4, .ref g5, .int g6, .ref g7, .ref g8, .ref g9, .ref g10, .ref g11, .int g12, .int g13, .int g14, .ref g15, .int g16, .ref g17, .ref g18, .ref g19, .ref g20, .ref g21, .ref g22, .int g23, .ref g24, .int (nI bs0.length), .int g26, .int g27, .int g28, .ref g29, .int g30, .int g31, .int g32]))]) (va_A [(h, .inr (1, [.int g0, .int g1, .int g2, .int g3, .int g4, .ref g5, .int g6, .ref g7, .ref g8, .ref g9, .ref g10, .ref g11, .int g12, .int g13, .int g14, .ref g15, .int g16, .ref g17, .ref g18, .ref g19, .ref g20, .ref g21, .ref g22, .int g23, .ref g24, .int (nI bs0.length), .int g26, .int g27, .int g28, .ref g29, .int g30, .int g31, .int g32]))] sz)) 0 0 (va_A [(h, .inr (1, [.int g0, .int g1, .int g2, .int g3, .int g4, .ref g5, .int g6, .ref g7, .ref g8, .ref g9, .ref g10, .ref g11, .int g12, .int g13, .int g14, .ref g15, .int g16, .ref g17, .ref g18, .ref g19, .ref g20, .ref g21, .ref g22, .int g23, .ref g24, .int (nI bs0.length), .int g26, .int g27, .int g28, .ref g29, .int g30, .int g31, .int g32]))] sz) := by
  refine Met.ofW (cc := cc_M_give) (maxL := 5) (ret := (some .boolean)) (by decide) rfl ?_
  intro p e s m args below meth c s₁ B hml hv
  obtain ⟨rfl, hsz, hP, hK, hD0⟩ := hv
  have hx := B.exec
  have hb := B.bytes
  have hr := B.returns
  have hw : ∀ w ∈ gw, w.before _ s = true := fun w h => atoms_spec (ws := (Cond.code yy_M_give cc_M_give 5 (some .boolean) :: gw)) B.pre w (List.mem_cons_of_mem _ h)
  have hown : s.vm.findClass RR_M = some m.cls := findClass_of_methodNamed B.named
  have hlocks := B.notSynchronized
  subst hsz
  have hD := hD0.self (sz := s.heap.size)
  generalize hAe : va_A [(h, .inr (1, [.int g0, .int g1, .int g2, .int g3, .int g4, .ref g5, .int g6, .ref g7, .ref g8, .ref g9, .ref g10, .ref g11, .int g12, .int g13, .int g14, .ref g15, .int g16, .ref g17, .ref g18, .ref g19, .ref g20, .ref g21, .ref g22, .int g23, .ref g24, .int (nI bs0.length), .int g26, .int g27, .int g28, .ref g29, .int g30, .int g31, .int g32]))] s.heap.size = A at hD ⊢
  have hA : ∀ q : Nat, s.heap.size ≤ q → A q := fun q h => by rw [← hAe]; exact Or.inr h
  have hS : va_S A s.heap s.heap [] := va_S.rf
  have hP : va_P (dC, dI) vcl [(h, .inr (1, [.int g0, .int g1, .int g2, .int g3, .int g4, .ref g5, .int g6, .ref g7, .ref g8, .ref g9, .ref g10, .ref g11, .int g12, .int g13, .int g14, .ref g15, .int g16, .ref g17, .ref g18, .ref g19, .ref g20, .ref g21, .ref g22, .int g23, .ref g24, .int (nI bs0.length), .int g26, .int g27, .int g28, .ref g29, .int g30, .int g31, .int g32]))] s.heap := hP
  have hl := lv_entry ([.ref h, .long p0, .int p1]) (n := 5) (Nat.le_of_ble_eq_true rfl)
  rw [lg_entry_eq]
  generalize (lg_sl ([.ref h, .long p0, .int p1]) ++ List.replicate (5 - (lg_sl ([.ref h, .long p0, .int p1])).length) Slot.unset).toArray = ls at hl ⊢
  have hl : lv_has ls 5 [(0, .ref h), (1, .long p0), (3, .int p1)] := hl
  refine lv_aload_n hx hb dd_M_give_0 rfl (lv_at hl 0 rfl) ?_
  refine lv_iconst (v := 0) hx hb dd_M_give_1 (by decide) ?_
  refine va_put (D := (dC, dI)) (ci := 1) (v := .int 0) (ty := .int) (C := RR_M) (T := TT_M) (N := 33) hx hb hw hh_M ty_M ty_M_ok nm_M hown hK hP hD hS 0 rfl rfl 0 (by decide) (hw _ qq_579) (fun _ h9 => h9) rfl (by decide +kernel) rfl rfl (Nat.le_of_ble_eq_true rfl) dd_M_give_2 (fun H locs hP hD hS => ?_)
  have hP : va_P (dC, dI) vcl [(h, .inr (1, [.int 0, .int g1, .int g2, .int g3, .int g4, .ref g5, .int g6, .ref g7, .ref g8, .ref g9, .ref g10, .ref g11, .int g12, .int g13, .int g14, .ref g15, .int g16, .ref g17, .ref g18, .ref g19, .ref g20, .ref g21, .ref g22, .int g23, .ref g24, .int (nI bs0.length), .int g26, .int g27, .int g28, .ref g29, .int g30, .int g31, .int g32]))] H := hP
  have hD : va_D A [(h, .inr (1, [.int 0, .int g1, .int g2, .int g3, .int g4, .ref g5, .int g6, .ref g7, .ref g8, .ref g9, .ref g10, .ref g11, .int g12, .int g13, .int g14, .ref g15, .int g16, .ref g17, .ref g18, .ref g19, .ref g20, .ref g21, .ref g22, .int g23, .ref g24, .int (nI bs0.length), .int g26, .int g27, .int g28, .ref g29, .int g30, .int g31, .int g32]))] := hD
  refine lv_iload_n hx hb dd_M_give_5 rfl (lv_at hl 2 rfl) ?_
  refine lv_iconst (v := 1) hx hb dd_M_give_6 (by decide) ?_
  refine lv_icmp_lt (tgt := 28) hx hb dd_M_give_7 (by decide) (fun c_1 => ?_) (fun c_1 => ?_)
  · refine lv_iconst (v := 0) hx hb dd_M_give_28 (by decide) ?_
    have hP9 := hP.sub (ws' := [(h, .inr (1, [.int 0, .int g1, .int g2, .int g3, .int g4, .ref g5, .int g6, .ref g7, .ref g8, .ref g9, .ref g10, .ref g11, .int g12, .int g13, .int g14, .ref g15, .int g16, .ref g17, .ref g18, .ref g19, .ref g20, .ref g21, .ref g22, .int g23, .ref g24, .int (nI bs0.length), .int g26, .int g27, .int g28, .ref g29, .int g30, .int g31, .int g32]))]) [0] rfl
    have hD9 := hD.sub (ws' := [(h, .inr (1, [.int 0, .int g1, .int g2, .int g3, .int g4, .ref g5, .int g6, .ref g7, .ref g8, .ref g9, .ref g10, .ref g11, .int g12, .int g13, .int g14, .ref g15, .int g16, .ref g17, .ref g18, .ref g19, .ref g20, .ref g21, .ref g22, .int g23, .ref g24, .int (nI bs0.length), .int g26, .int g27, .int g28, .ref g29, .int g30, .int g31, .int g32]))]) [0] (by decide) rfl
    refine W.widen (k := 0) (n := 0) (by first | exact Nat.le_refl _ | omega) (by first | exact Nat.le_refl _ | omega) ?_
    exact W.zret (ty := .boolean) (v := 0) hx hb hr (by rfl) (fun t ht hW => ⟨⟨0, (), rfl, rfl, by rw [ht]; exact hP9, va_K.moved hW.alike hK, hD9⟩, hS.F ht⟩) hS.2.2 dd_M_give_29
  · refine lv_iload_n hx hb dd_M_give_10 rfl (lv_at hl 2 rfl) ?_
    refine lv_bipush (v := 8) hx hb dd_M_give_11 (by decide) ?_
    refine lv_icmp_gt (tgt := 28) hx hb dd_M_give_13 (by decide) (fun c_2 => ?_) (fun c_2 => ?_)
    · refine lv_iconst (v := 0) hx hb dd_M_give_28 (by decide) ?_
      have hP9 := hP.sub (ws' := [(h, .inr (1, [.int 0, .int g1, .int g2, .int g3, .int g4, .ref g5, .int g6, .ref g7, .ref g8, .ref g9, .ref g10, .ref g11, .int g12, .int g13, .int g14, .ref g15, .int g16, .ref g17, .ref g18, .ref g19, .ref g20, .ref g21, .ref g22, .int g23, .ref g24, .int (nI bs0.length), .int g26, .int g27, .int g28, .ref g29, .int g30, .int g31, .int g32]))]) [0] rfl
      have hD9 := hD.sub (ws' := [(h, .inr (1, [.int 0, .int g1, .int g2, .int g3, .int g4, .ref g5, .int g6, .ref g7, .ref g8, .ref g9, .ref g10, .ref g11, .int g12, .int g13, .int g14, .ref g15, .int g16, .ref g17, .ref g18, .ref g19, .ref g20, .ref g21, .ref g22, .int g23, .ref g24, .int (nI bs0.length), .int g26, .int g27, .int g28, .ref g29, .int g30, .int g31, .int g32]))]) [0] (by decide) rfl
      refine W.widen (k := 0) (n := 0) (by first | exact Nat.le_refl _ | omega) (by first | exact Nat.le_refl _ | omega) ?_
      exact W.zret (ty := .boolean) (v := 0) hx hb hr (by rfl) (fun t ht hW => ⟨⟨0, (), rfl, rfl, by rw [ht]; exact hP9, va_K.moved hW.alike hK, hD9⟩, hS.F ht⟩) hS.2.2 dd_M_give_29
    · refine lv_aload_n hx hb dd_M_give_16 rfl (lv_at hl 0 rfl) ?_
      refine va_get (D := (dC, dI)) (ci := 1) (v := .int (nI bs0.length)) (C := RR_M) (T := TT_M) (N := 33) hx hb hw hh_M hown hK hP 0 rfl rfl 25 (by decide) (hw _ qq_604) (fun _ h9 => h9) rfl dd_M_give_17 ?_
      refine lv_iload_n hx hb dd_M_give_20 rfl (lv_at hl 2 rfl) ?_
      refine lv_iadd hx hb dd_M_give_21 ?_
      refine lv_sipush (v := 4096) hx hb dd_M_give_22 (by decide) ?_
      refine lv_icmp_le (tgt := 30) hx hb dd_M_give_25 (by decide) (fun c_3 => ?_) (fun c_3 => ?_)
      · exact absurd hC (by rintro (z | z | z) <;> contradiction)
      · refine lv_iconst (v := 0) hx hb dd_M_give_28 (by decide) ?_
        have hP9 := hP.sub (ws' := [(h, .inr (1, [.int 0, .int g1, .int g2, .int g3, .int g4, .ref g5, .int g6, .ref g7, .ref g8, .ref g9, .ref g10, .ref g11, .int g12, .int g13, .int g14, .ref g15, .int g16, .ref g17, .ref g18, .ref g19, .ref g20, .ref g21, .ref g22, .int g23, .ref g24, .int (nI bs0.length), .int g26, .int g27, .int g28, .ref g29, .int g30, .int g31, .int g32]))]) [0] rfl
        have hD9 := hD.sub (ws' := [(h, .inr (1, [.int 0, .int g1, .int g2, .int g3, .int g4, .ref g5, .int g6, .ref g7, .ref g8, .ref g9, .ref g10, .ref g11, .int g12, .int g13, .int g14, .ref g15, .int g16, .ref g17, .ref g18, .ref g19, .ref g20, .ref g21, .ref g22, .int g23, .ref g24, .int (nI bs0.length), .int g26, .int g27, .int g28, .ref g29, .int g30, .int g31, .int g32]))]) [0] (by decide) rfl
        refine W.widen (k := 0) (n := 0) (by first | exact Nat.le_refl _ | omega) (by first | exact Nat.le_refl _ | omega) ?_
        exact W.zret (ty := .boolean) (v := 0) hx hb hr (by rfl) (fun t ht hW => ⟨⟨0, (), rfl, rfl, by rw [ht]; exact hP9, va_K.moved hW.alike hK, hD9⟩, hS.F ht⟩) hS.2.2 dd_M_give_29
