set_option maxHeartbeats 4000000 in
set_option maxRecDepth 100000 in
/-- checkOf(row, from, to) -/
theorem cp_M_checkOf (l : Launch) (dC : Nat → ClassId) (dI : Nat → Nat → Nat) (cB cI cJ : ClassId) (q N : Nat) (f : Nat → Int32) (bs : List Int32) (hH : Hd bs f) (hN : bs.length ≤ N) (hN2 : N < 2147483648) (a0 n0 : Nat) (han : a0 + n0 ≤ bs.length) : Met l yy_M_checkOf (Cond.code yy_M_checkOf cc_M_checkOf 6 (some .int) :: gw) { frames := 0, cells := 0, slots := 0, locals := 0 } (va_Pc [.ref q, .int (nI a0), .int (nI (a0 + n0))] (kr_pre dC dI [(cB, .byte), (cI, .int), (cJ, .long)] [(q, .inl (cB, N, .inl f))])) (QcRead (crcR bs (-1) a0 n0 ^^^ (-1))) 0 0 (fun _ => False) := by
  refine Met.ofW (cc := cc_M_checkOf) (maxL := 6) (ret := (some .int)) (by decide) rfl ?_
  intro p e s m args below meth c s₁ B hml hv
  obtain ⟨rfl, hP, hK⟩ := hv
  have hx := B.exec
  have hb := B.bytes
  have hr := B.returns
  have hw : ∀ w ∈ gw, w.before _ s = true := fun w h => atoms_spec (ws := (Cond.code yy_M_checkOf cc_M_checkOf 6 (some .int) :: gw)) B.pre w (List.mem_cons_of_mem _ h)
  have hown : s.vm.findClass RR_M = some m.cls := findClass_of_methodNamed B.named
  have hlocks := B.notSynchronized
  have hP : va_P (dC, dI) vcl [(q, .inl (cB, N, .inl f))] s.heap := hP
  have hl := lv_entry ([.ref q, .int (nI a0), .int (nI (a0 + n0))]) (n := 6) (Nat.le_of_ble_eq_true rfl)
  rw [lg_entry_eq]
  generalize (lg_sl ([.ref q, .int (nI a0), .int (nI (a0 + n0))]) ++ List.replicate (6 - (lg_sl ([.ref q, .int (nI a0), .int (nI (a0 + n0))])).length) Slot.unset).toArray = ls at hl ⊢
  have hl : lv_has ls 6 [(0, .ref q), (1, .int (nI a0)), (2, .int (nI (a0 + n0)))] := hl
  refine lv_iconst (v := -1) hx hb dd_M_checkOf_0 (by decide) ?_
  refine lv_istore_n (lv' := [(3, .int (-1)), (0, .ref q), (1, .int (nI a0)), (2, .int (nI (a0 + n0)))]) hx hb dd_M_checkOf_1 rfl hl (by decide) rfl (fun ls hl => ?_)
  refine lv_iload_n hx hb dd_M_checkOf_2 rfl (lv_at hl 2 rfl) ?_
  refine lv_istore (lv' := [(4, .int (nI a0)), (3, .int (-1)), (0, .ref q), (1, .int (nI a0)), (2, .int (nI (a0 + n0)))]) hx hb dd_M_checkOf_3 hl (by decide) rfl (fun ls hl => ?_)
  have lp_1 : ∀ (k : Nat) (a : Nat) (c1 : Int32), (a + k = a0 + n0) → (crcR bs (-1) a0 n0 = crcR bs c1 a k) → ∀ ls : Array Slot, lv_has ls 6 [(0, .ref q), (1, .int (nI a0)), (2, .int (nI (a0 + n0))), (3, .int c1), (4, .int (nI a))] → W p l e (headSpec (Cond.code yy_M_checkOf cc_M_checkOf 6 (some .int) :: gw) { frames := 0, cells := 0, slots := 0, locals := 0 }).room s m ([.ref q, .int (nI a0), .int (nI (a0 + n0))] : List Value).toArray below meth c s.heap [] 0 0 (MQ below (QcRead (crcR bs (-1) a0 n0 ^^^ (-1))) ([.ref q, .int (nI a0), .int (nI (a0 + n0))] : List Value).toArray s 0 0 (fun _ => False)) (F0 m 5 ls []) := by
    intro k
    induction k with
    | zero =>
      intro a c1 hak hU ls hl
      refine lv_iload hx hb dd_M_checkOf_5 (lv_at hl 4 rfl) ?_
      refine lv_iload_n hx hb dd_M_checkOf_7 rfl (lv_at hl 2 rfl) ?_
      refine lv_icmp_ge (tgt := 64) hx hb dd_M_checkOf_8 (by decide) (fun c_2 => ?_) (fun c_2 => ?_)
      · refine lv_iload_n hx hb dd_M_checkOf_64 rfl (lv_at hl 3 rfl) ?_
        refine lv_iconst (v := -1) hx hb dd_M_checkOf_65 (by decide) ?_
        refine lv_ixor hx hb dd_M_checkOf_66 ?_
        refine lv_topi (fun z_3 hz_3 => ?_)
        obtain rfl : z_3 = crcR bs (-1) a0 n0 ^^^ (-1) := hz_3.trans ((by rw [hU, crcR]))
        exact W.iret (v := crcR bs (-1) a0 n0 ^^^ (-1)) hx hb hr (fun t ht hW => ⟨rfl, ht⟩) (fun q h => by cases h) dd_M_checkOf_67
      · exact absurd (nI_le (show a0 + n0 ≤ a by omega) (by omega)) c_2
    | succ k ih =>
      intro a c1 hak hU ls hl
      refine lv_iload hx hb dd_M_checkOf_5 (lv_at hl 4 rfl) ?_
      refine lv_iload_n hx hb dd_M_checkOf_7 rfl (lv_at hl 2 rfl) ?_
      refine lv_icmp_ge (tgt := 64) hx hb dd_M_checkOf_8 (by decide) (fun c_4 => ?_) (fun c_4 => ?_)
      · exact absurd c_4 (nI_ge (show a < a0 + n0 by omega) (by omega))
      · refine lv_iload_n hx hb dd_M_checkOf_11 rfl (lv_at hl 3 rfl) ?_
        refine lv_aload_n hx hb dd_M_checkOf_12 rfl (lv_at hl 0 rfl) ?_
        refine lv_iload hx hb dd_M_checkOf_13 (lv_at hl 4 rfl) ?_
        refine va_bald hx hb hK hP 0 0 rfl rfl (vp_in_nI (by omega) (by omega)) dd_M_checkOf_15 ?_
        refine lv_topi (fun z_5 hz_5 => ?_)
        obtain rfl : z_5 = f a := hz_5.trans ((by rw [nI_clamp (by omega)]))
        refine lv_sipush (v := 255) hx hb dd_M_checkOf_16 (by decide) ?_
        refine lv_iand hx hb dd_M_checkOf_19 ?_
        refine lv_topi (fun z_6 hz_6 => ?_)
        obtain rfl : z_6 = bs.getD a 0 &&& 255 := hz_6.trans ((by rw [hH a (by omega)]; exact by8_and _))
        refine lv_ixor hx hb dd_M_checkOf_20 ?_
        refine lv_istore_n (lv' := [(3, .int (c1 ^^^ (bs.getD a 0 &&& 255))), (0, .ref q), (1, .int (nI a0)), (2, .int (nI (a0 + n0))), (4, .int (nI a))]) hx hb dd_M_checkOf_21 rfl hl (by decide) rfl (fun ls hl => ?_)
        refine lv_iconst (v := 0) hx hb dd_M_checkOf_22 (by decide) ?_
        refine lv_istore (lv' := [(5, .int 0), (3, .int (c1 ^^^ (bs.getD a 0 &&& 255))), (0, .ref q), (1, .int (nI a0)), (2, .int (nI (a0 + n0))), (4, .int (nI a))]) hx hb dd_M_checkOf_23 hl (by decide) rfl (fun ls hl => ?_)
        have lp_7 : ∀ (k2 : Nat) (j : Nat) (c2 : Int32), (j + k2 = 8) → (crcN 8 (c1 ^^^ (bs.getD a 0 &&& 255)) = crcN k2 c2) → ∀ ls : Array Slot, lv_has ls 6 [(0, .ref q), (1, .int (nI a0)), (2, .int (nI (a0 + n0))), (3, .int c2), (4, .int (nI a)), (5, .int (nI j))] → W p l e (headSpec (Cond.code yy_M_checkOf cc_M_checkOf 6 (some .int) :: gw) { frames := 0, cells := 0, slots := 0, locals := 0 }).room s m ([.ref q, .int (nI a0), .int (nI (a0 + n0))] : List Value).toArray below meth c s.heap [] 0 0 (MQ below (QcRead (crcR bs (-1) a0 n0 ^^^ (-1))) ([.ref q, .int (nI a0), .int (nI (a0 + n0))] : List Value).toArray s 0 0 (fun _ => False)) (F0 m 25 ls []) := by
          intro k2
          induction k2 with
          | zero =>
            intro j c2 hjk hV ls hl
            refine lv_iload hx hb dd_M_checkOf_25 (lv_at hl 5 rfl) ?_
            refine lv_bipush (v := 8) hx hb dd_M_checkOf_27 (by decide) ?_
            refine lv_icmp_ge (tgt := 58) hx hb dd_M_checkOf_29 (by decide) (fun c_8 => ?_) (fun c_8 => ?_)
            · refine lv_iinc (v := (nI a) + 1) (lv' := [(4, .int ((nI a) + 1)), (0, .ref q), (1, .int (nI a0)), (2, .int (nI (a0 + n0))), (3, .int c2), (5, .int (nI j))]) hx hb dd_M_checkOf_58 hl (k := 4) rfl rfl (by decide) rfl (fun ls hl => ?_)
              refine lv_goto (tgt := 5) hx hb dd_M_checkOf_61 (by decide) ?_
              have e_9 : ((nI a) + 1 : Int32) = nI (a + 1) := nI_1 a
              have hl : lv_has ls 6 [(4, .int (nI (a + 1))), (0, .ref q), (1, .int (nI a0)), (2, .int (nI (a0 + n0))), (3, .int c2), (5, .int (nI j))] := by rw [← e_9]; exact hl
              exact ih (a + 1) c2 (by omega) (by rw [hU, crcR, hV, crcN]) _ (lv_sub hl [1, 2, 3, 4, 0] rfl)
            · exact absurd (nI_le (show 8 ≤ j by omega) (by omega)) c_8
          | succ k2 ih =>
            intro j c2 hjk hV ls hl
            refine lv_iload hx hb dd_M_checkOf_25 (lv_at hl 5 rfl) ?_
            refine lv_bipush (v := 8) hx hb dd_M_checkOf_27 (by decide) ?_
            refine lv_icmp_ge (tgt := 58) hx hb dd_M_checkOf_29 (by decide) (fun c_10 => ?_) (fun c_10 => ?_)
            · exact absurd c_10 (nI_ge (show j < 8 by omega) (by decide))
            · refine lv_iload_n hx hb dd_M_checkOf_32 rfl (lv_at hl 3 rfl) ?_
              refine lv_iconst (v := 1) hx hb dd_M_checkOf_33 (by decide) ?_
              refine lv_iand hx hb dd_M_checkOf_34 ?_
              refine lv_iconst (v := 1) hx hb dd_M_checkOf_35 (by decide) ?_
              refine lv_icmp_ne (tgt := 48) hx hb dd_M_checkOf_36 (by decide) (fun c_11 => ?_) (fun c_11 => ?_)
              · refine lv_iload_n hx hb dd_M_checkOf_48 rfl (lv_at hl 3 rfl) ?_
                refine lv_iconst (v := 1) hx hb dd_M_checkOf_49 (by decide) ?_
                refine lv_iushr (v := (c2.toUInt32 >>> ((1 : Int32).toUInt32 &&& Int32.toUInt32 31)).toInt32) hx hb dd_M_checkOf_50 rfl ?_
                refine lv_topi (fun z_12 hz_12 => ?_)
                obtain rfl : z_12 = crc1 c2 := hz_12.trans ((by rw [crc1, if_neg c_11]))
                refine lv_istore_n (lv' := [(3, .int (crc1 c2)), (0, .ref q), (1, .int (nI a0)), (2, .int (nI (a0 + n0))), (4, .int (nI a)), (5, .int (nI j))]) hx hb dd_M_checkOf_51 rfl hl (by decide) rfl (fun ls hl => ?_)
                refine lv_iinc (v := (nI j) + 1) (lv' := [(5, .int ((nI j) + 1)), (3, .int (crc1 c2)), (0, .ref q), (1, .int (nI a0)), (2, .int (nI (a0 + n0))), (4, .int (nI a))]) hx hb dd_M_checkOf_52 hl (k := 5) rfl rfl (by decide) rfl (fun ls hl => ?_)
                refine lv_goto (tgt := 25) hx hb dd_M_checkOf_55 (by decide) ?_
                have e_13 : ((nI j) + 1 : Int32) = nI (j + 1) := nI_1 j
                have hl : lv_has ls 6 [(5, .int (nI (j + 1))), (3, .int (crc1 c2)), (0, .ref q), (1, .int (nI a0)), (2, .int (nI (a0 + n0))), (4, .int (nI a))] := by rw [← e_13]; exact hl
                exact ih (j + 1) (crc1 c2) (by omega) (by rw [hV, crcN]) _ (lv_sub hl [2, 3, 4, 1, 5, 0] rfl)
              · refine lv_iload_n hx hb dd_M_checkOf_39 rfl (lv_at hl 3 rfl) ?_
                refine lv_iconst (v := 1) hx hb dd_M_checkOf_40 (by decide) ?_
                refine lv_iushr (v := (c2.toUInt32 >>> ((1 : Int32).toUInt32 &&& Int32.toUInt32 31)).toInt32) hx hb dd_M_checkOf_41 rfl ?_
                refine lv_ldc (v := -306674912) hx hb hown (hw _ qq_770) dd_M_checkOf_42 ?_
                refine lv_ixor hx hb dd_M_checkOf_44 ?_
                refine lv_goto (tgt := 51) hx hb dd_M_checkOf_45 (by decide) ?_
                refine lv_topi (fun z_14 hz_14 => ?_)
                obtain rfl : z_14 = crc1 c2 := hz_14.trans ((by rw [crc1, if_pos c_11]))
                refine lv_istore_n (lv' := [(3, .int (crc1 c2)), (0, .ref q), (1, .int (nI a0)), (2, .int (nI (a0 + n0))), (4, .int (nI a)), (5, .int (nI j))]) hx hb dd_M_checkOf_51 rfl hl (by decide) rfl (fun ls hl => ?_)
                refine lv_iinc (v := (nI j) + 1) (lv' := [(5, .int ((nI j) + 1)), (3, .int (crc1 c2)), (0, .ref q), (1, .int (nI a0)), (2, .int (nI (a0 + n0))), (4, .int (nI a))]) hx hb dd_M_checkOf_52 hl (k := 5) rfl rfl (by decide) rfl (fun ls hl => ?_)
                refine lv_goto (tgt := 25) hx hb dd_M_checkOf_55 (by decide) ?_
                have e_15 : ((nI j) + 1 : Int32) = nI (j + 1) := nI_1 j
                have hl : lv_has ls 6 [(5, .int (nI (j + 1))), (3, .int (crc1 c2)), (0, .ref q), (1, .int (nI a0)), (2, .int (nI (a0 + n0))), (4, .int (nI a))] := by rw [← e_15]; exact hl
                exact ih (j + 1) (crc1 c2) (by omega) (by rw [hV, crcN]) _ (lv_sub hl [2, 3, 4, 1, 5, 0] rfl)
        exact lp_7 8 0 _ rfl rfl _ (lv_sub hl [2, 3, 4, 1, 5, 0] rfl)
  exact lp_1 n0 a0 (-1) rfl rfl _ (lv_sub hl [2, 3, 4, 1, 0] rfl)

set_option maxHeartbeats 4000000 in
set_option maxRecDepth 100000 in
/-- thrown() -/
theorem cp_M_thrown (l : Launch) (dC : Nat → ClassId) (dI : Nat → Nat → Nat) (cB cI cJ : ClassId) (h : Nat) (g0 g1 g2 g3 g4 g6 g12 g13 g14 g16 g23 g25 g26 g27 g28 g30 g31 g32 : Int32) (g5 g7 g8 g9 g10 g11 g15 g17 g18 g19 g20 g21 g22 g24 g29 : Nat) : Met l yy_M_thrown (Cond.code yy_M_thrown cc_M_thrown 1 (some .int) :: gw) { frames := 0, cells := 0, slots := 0, locals := 0 } (va_Pc [.ref h] (kr_pre dC dI [(cB, .byte), (cI, .int), (cJ, .long)] [(h, .inr (1, [.int g0, .int g1, .int g2, .int g3, .int g4, .ref g5, .int g6, .ref g7, .ref g8, .ref g9, .ref g10, .ref g11, .int g12, .int g13, .int g14, .ref g15, .int g16, .ref g17, .ref g18, .ref g19, .ref g20, .ref g21, .ref g22, .int g23, .ref g24, .int g25, .int g26, .int g27, .int g28, .ref g29, .int g30, .int g31, .int g32]))])) (QcRead (g0)) 0 0 (fun _ => False) := by
  refine Met.ofW (cc := cc_M_thrown) (maxL := 1) (ret := (some .int)) (by decide) rfl ?_
  intro p e s m args below meth c s₁ B hml hv
  obtain ⟨rfl, hP, hK⟩ := hv
  have hx := B.exec
  have hb := B.bytes
  have hr := B.returns
  have hw : ∀ w ∈ gw, w.before _ s = true := fun w h => atoms_spec (ws := (Cond.code yy_M_thrown cc_M_thrown 1 (some .int) :: gw)) B.pre w (List.mem_cons_of_mem _ h)
  have hown : s.vm.findClass RR_M = some m.cls := findClass_of_methodNamed B.named
  have hlocks := B.notSynchronized
  have hP : va_P (dC, dI) vcl [(h, .inr (1, [.int g0, .int g1, .int g2, .int g3, .int g4, .ref g5, .int g6, .ref g7, .ref g8, .ref g9, .ref g10, .ref g11, .int g12, .int g13, .int g14, .ref g15, .int g16, .ref g17, .ref g18, .ref g19, .ref g20, .ref g21, .ref g22, .int g23, .ref g24, .int g25, .int g26, .int g27, .int g28, .ref g29, .int g30, .int g31, .int g32]))] s.heap := hP
  have hl := lv_entry ([.ref h]) (n := 1) (Nat.le_of_ble_eq_true rfl)
  rw [lg_entry_eq]
  generalize (lg_sl ([.ref h]) ++ List.replicate (1 - (lg_sl ([.ref h])).length) Slot.unset).toArray = ls at hl ⊢
  have hl : lv_has ls 1 [(0, .ref h)] := hl
  refine lv_aload_n hx hb dd_M_thrown_0 rfl (lv_at hl 0 rfl) ?_
  refine va_get (D := (dC, dI)) (ci := 1) (v := .int g0) (C := RR_M) (T := TT_M) (N := 33) hx hb hw hh_M hown hK hP 0 rfl rfl 0 (by decide) (hw _ qq_579) (fun _ h9 => h9) rfl dd_M_thrown_1 ?_
  exact W.iret (v := g0) hx hb hr (fun t ht hW => ⟨rfl, ht⟩) (fun q h => by cases h) dd_M_thrown_4

set_option maxHeartbeats 4000000 in
set_option maxRecDepth 100000 in
/-- ahead() -/
theorem cp_M_ahead (l : Launch) (dC : Nat → ClassId) (dI : Nat → Nat → Nat) (cB cI cJ : ClassId) (h : Nat) (g0 g1 g2 g3 g4 g6 g12 g13 g14 g16 g23 g25 g26 g27 g28 g31 g32 : Int32) (g5 g7 g8 g9 g10 g11 g15 g17 g18 g19 g20 g21 g22 g24 g29 : Nat) (n : Nat) (hn : n < 2147483648) : Met l yy_M_ahead (Cond.code yy_M_ahead cc_M_ahead 1 (some .int) :: gw) { frames := 0, cells := 0, slots := 0, locals := 0 } (va_Pc [.ref h] (kr_pre dC dI [(cB, .byte), (cI, .int), (cJ, .long)] [(h, .inr (1, [.int g0, .int g1, .int g2, .int g3, .int g4, .ref g5, .int g6, .ref g7, .ref g8, .ref g9, .ref g10, .ref g11, .int g12, .int g13, .int g14, .ref g15, .int g16, .ref g17, .ref g18, .ref g19, .ref g20, .ref g21, .ref g22, .int g23, .ref g24, .int g25, .int g26, .int g27, .int g28, .ref g29, .int (nI n), .int g31, .int g32]))])) (QcRead ((if n < 128 then 1 else 2))) 0 0 (fun _ => False) := by
  refine Met.ofW (cc := cc_M_ahead) (maxL := 1) (ret := (some .int)) (by decide) rfl ?_
  intro p e s m args below meth c s₁ B hml hv
  obtain ⟨rfl, hP, hK⟩ := hv
  have hx := B.exec
  have hb := B.bytes
  have hr := B.returns
  have hw : ∀ w ∈ gw, w.before _ s = true := fun w h => atoms_spec (ws := (Cond.code yy_M_ahead cc_M_ahead 1 (some .int) :: gw)) B.pre w (List.mem_cons_of_mem _ h)
  have hown : s.vm.findClass RR_M = some m.cls := findClass_of_methodNamed B.named
  have hlocks := B.notSynchronized
  have hP : va_P (dC, dI) vcl [(h, .inr (1, [.int g0, .int g1, .int g2, .int g3, .int g4, .ref g5, .int g6, .ref g7, .ref g8, .ref g9, .ref g10, .ref g11, .int g12, .int g13, .int g14, .ref g15, .int g16, .ref g17, .ref g18, .ref g19, .ref g20, .ref g21, .ref g22, .int g23, .ref g24, .int g25, .int g26, .int g27, .int g28, .ref g29, .int (nI n), .int g31, .int g32]))] s.heap := hP
  have hl := lv_entry ([.ref h]) (n := 1) (Nat.le_of_ble_eq_true rfl)
  rw [lg_entry_eq]
  generalize (lg_sl ([.ref h]) ++ List.replicate (1 - (lg_sl ([.ref h])).length) Slot.unset).toArray = ls at hl ⊢
  have hl : lv_has ls 1 [(0, .ref h)] := hl
  refine lv_aload_n hx hb dd_M_ahead_0 rfl (lv_at hl 0 rfl) ?_
  refine va_get (D := (dC, dI)) (ci := 1) (v := .int (nI n)) (C := RR_M) (T := TT_M) (N := 33) hx hb hw hh_M hown hK hP 0 rfl rfl 30 (by decide) (hw _ qq_609) (fun _ h9 => h9) rfl dd_M_ahead_1 ?_
  refine lv_bipush (v := 127) hx hb dd_M_ahead_4 (by decide) ?_
  refine lv_icmp_le (tgt := 13) hx hb dd_M_ahead_6 (by decide) (fun c_1 => ?_) (fun c_1 => ?_)
  · refine lv_iconst (v := 1) hx hb dd_M_ahead_13 (by decide) ?_
    refine lv_topi (fun z_2 hz_2 => ?_)
    obtain rfl : z_2 = (if n < 128 then 1 else 2) := hz_2.trans ((by rw [if_pos ((nI_127 (by omega)).mp c_1)]))
    exact W.iret (v := (if n < 128 then 1 else 2)) hx hb hr (fun t ht hW => ⟨rfl, ht⟩) (fun q h => by cases h) dd_M_ahead_14
  · refine lv_iconst (v := 2) hx hb dd_M_ahead_9 (by decide) ?_
    refine lv_goto (tgt := 14) hx hb dd_M_ahead_10 (by decide) ?_
    refine lv_topi (fun z_3 hz_3 => ?_)
    obtain rfl : z_3 = (if n < 128 then 1 else 2) := hz_3.trans ((by rw [if_neg (fun z => c_1 ((nI_127 (by omega)).mpr z))]))
    exact W.iret (v := (if n < 128 then 1 else 2)) hx hb hr (fun t ht hW => ⟨rfl, ht⟩) (fun q h => by cases h) dd_M_ahead_14

set_option maxHeartbeats 4000000 in
set_option maxRecDepth 100000 in
/-- isIn(i) -/
theorem cp_M_isIn (l : Launch) (dC : Nat → ClassId) (dI : Nat → Nat → Nat) (cB cI cJ : ClassId) (h : Nat) (g0 g1 g2 g3 g4 g6 g12 g13 g14 g16 g23 g25 g26 g27 g28 g30 g31 g32 : Int32) (g5 g7 g8 g9 g10 g11 g15 g17 g18 g19 g20 g21 g22 g24 g29 : Nat) (p0 : Int32) : Met l yy_M_isIn (Cond.code yy_M_isIn cc_M_isIn 2 (some .boolean) :: gw) { frames := 0, cells := 0, slots := 0, locals := 0 } (va_Pc [.ref h, .int p0] (kr_pre dC dI [(cB, .byte), (cI, .int), (cJ, .long)] [(h, .inr (1, [.int g0, .int g1, .int g2, .int g3, .int g4, .ref g5, .int g6, .ref g7, .ref g8, .ref g9, .ref g10, .ref g11, .int g12, .int g13, .int g14, .ref g15, .int g16, .ref g17, .ref g18, .ref g19, .ref g20, .ref g21, .ref g22, .int g23, .ref g24, .int g25, .int g26, .int g27, .int g28, .ref g29, .int g30, .int g31, .int g32]))])) (QcRead (b2i (decide (¬ g1 = 0 ∧ ¬ p0 < 0 ∧ ¬ g6 ≤ p0)))) 0 0 (fun _ => False) := by
  refine Met.ofW (cc := cc_M_isIn) (maxL := 2) (ret := (some .boolean)) (by decide) rfl ?_
  intro p e s m args below meth c s₁ B hml hv
  obtain ⟨rfl, hP, hK⟩ := hv
  have hx := B.exec
  have hb := B.bytes
  have hr := B.returns
  have hw : ∀ w ∈ gw, w.before _ s = true := fun w h => atoms_spec (ws := (Cond.code yy_M_isIn cc_M_isIn 2 (some .boolean) :: gw)) B.pre w (List.mem_cons_of_mem _ h)
  have hown : s.vm.findClass RR_M = some m.cls := findClass_of_methodNamed B.named
  have hlocks := B.notSynchronized
  have hP : va_P (dC, dI) vcl [(h, .inr (1, [.int g0, .int g1, .int g2, .int g3, .int g4, .ref g5, .int g6, .ref g7, .ref g8, .ref g9, .ref g10, .ref g11, .int g12, .int g13, .int g14, .ref g15, .int g16, .ref g17, .ref g18, .ref g19, .ref g20, .ref g21, .ref g22, .int g23, .ref g24, .int g25, .int g26, .int g27, .int g28, .ref g29, .int g30, .int g31, .int g32]))] s.heap := hP
  have hl := lv_entry ([.ref h, .int p0]) (n := 2) (Nat.le_of_ble_eq_true rfl)
  rw [lg_entry_eq]
  generalize (lg_sl ([.ref h, .int p0]) ++ List.replicate (2 - (lg_sl ([.ref h, .int p0])).length) Slot.unset).toArray = ls at hl ⊢
  have hl : lv_has ls 2 [(0, .ref h), (1, .int p0)] := hl
  refine lv_aload_n hx hb dd_M_isIn_0 rfl (lv_at hl 0 rfl) ?_
  refine va_get (D := (dC, dI)) (ci := 1) (v := .int g1) (C := RR_M) (T := TT_M) (N := 33) hx hb hw hh_M hown hK hP 0 rfl rfl 1 (by decide) (hw _ qq_580) (fun _ h9 => h9) rfl dd_M_isIn_1 ?_
  refine lv_if_eq (tgt := 23) hx hb dd_M_isIn_4 (by decide) (fun c_1 => ?_) (fun c_1 => ?_)
  · refine lv_iconst (v := 0) hx hb dd_M_isIn_23 (by decide) ?_
    refine lv_topi (fun z_2 hz_2 => ?_)
    obtain rfl : z_2 = b2i (decide (¬ g1 = 0 ∧ ¬ p0 < 0 ∧ ¬ g6 ≤ p0)) := hz_2.trans (b2i_f (by simp [c_1]))
    exact W.zret (ty := .boolean) (v := b2i (decide (¬ g1 = 0 ∧ ¬ p0 < 0 ∧ ¬ g6 ≤ p0))) hx hb hr (b2i_n _) (fun t ht hW => ⟨rfl, ht⟩) (fun q h => by cases h) dd_M_isIn_24
  · refine lv_iload_n hx hb dd_M_isIn_7 rfl (lv_at hl 1 rfl) ?_
    refine lv_if_lt (tgt := 23) hx hb dd_M_isIn_8 (by decide) (fun c_3 => ?_) (fun c_3 => ?_)
    · refine lv_iconst (v := 0) hx hb dd_M_isIn_23 (by decide) ?_
      refine lv_topi (fun z_4 hz_4 => ?_)
      obtain rfl : z_4 = b2i (decide (¬ g1 = 0 ∧ ¬ p0 < 0 ∧ ¬ g6 ≤ p0)) := hz_4.trans (b2i_f (by simp [c_1, c_3]))
      exact W.zret (ty := .boolean) (v := b2i (decide (¬ g1 = 0 ∧ ¬ p0 < 0 ∧ ¬ g6 ≤ p0))) hx hb hr (b2i_n _) (fun t ht hW => ⟨rfl, ht⟩) (fun q h => by cases h) dd_M_isIn_24
    · refine lv_iload_n hx hb dd_M_isIn_11 rfl (lv_at hl 1 rfl) ?_
      refine lv_aload_n hx hb dd_M_isIn_12 rfl (lv_at hl 0 rfl) ?_
      refine va_get (D := (dC, dI)) (ci := 1) (v := .int g6) (C := RR_M) (T := TT_M) (N := 33) hx hb hw hh_M hown hK hP 0 rfl rfl 6 (by decide) (hw _ qq_585) (fun _ h9 => h9) rfl dd_M_isIn_13 ?_
      refine lv_icmp_ge (tgt := 23) hx hb dd_M_isIn_16 (by decide) (fun c_5 => ?_) (fun c_5 => ?_)
      · refine lv_iconst (v := 0) hx hb dd_M_isIn_23 (by decide) ?_
        refine lv_topi (fun z_6 hz_6 => ?_)
        obtain rfl : z_6 = b2i (decide (¬ g1 = 0 ∧ ¬ p0 < 0 ∧ ¬ g6 ≤ p0)) := hz_6.trans (b2i_f (by simp [c_1, c_3, c_5]))
        exact W.zret (ty := .boolean) (v := b2i (decide (¬ g1 = 0 ∧ ¬ p0 < 0 ∧ ¬ g6 ≤ p0))) hx hb hr (b2i_n _) (fun t ht hW => ⟨rfl, ht⟩) (fun q h => by cases h) dd_M_isIn_24
      · refine lv_iconst (v := 1) hx hb dd_M_isIn_19 (by decide) ?_
        refine lv_goto (tgt := 24) hx hb dd_M_isIn_20 (by decide) ?_
        refine lv_topi (fun z_7 hz_7 => ?_)
        obtain rfl : z_7 = b2i (decide (¬ g1 = 0 ∧ ¬ p0 < 0 ∧ ¬ g6 ≤ p0)) := hz_7.trans (b2i_t (by simp [c_1, c_3, c_5]))
        exact W.zret (ty := .boolean) (v := b2i (decide (¬ g1 = 0 ∧ ¬ p0 < 0 ∧ ¬ g6 ≤ p0))) hx hb hr (b2i_n _) (fun t ht hW => ⟨rfl, ht⟩) (fun q h => by cases h) dd_M_isIn_24

set_option maxHeartbeats 4000000 in
set_option maxRecDepth 100000 in
/-- clear() -/
theorem cb_M_clear (l : Launch) (dC : Nat → ClassId) (dI : Nat → Nat → Nat) (cB cI cJ : ClassId) (sz : Nat) (h : Nat) (g0 g1 g2 g3 g4 g6 g12 g13 g14 g16 g23 g25 g26 g27 g28 g30 g31 g32 : Int32) (g5 g7 g8 g9 g10 g11 g15 g17 g18 g19 g20 g21 g22 g24 g29 : Nat) : Met l yy_M_clear (Cond.code yy_M_clear cc_M_clear 1 none :: gw) { frames := 0, cells := 0, slots := 0, locals := 0 } (va_Pc [.ref h] (ks_pre dC dI [(cB, .byte), (cI, .int), (cJ, .long)] [(h, .inr (1, [.int g0, .int g1, .int g2, .int g3, .int g4, .ref g5, .int g6, .ref g7, .ref g8, .ref g9, .ref g10, .ref g11, .int g12, .int g13, .int g14, .ref g15, .int g16, .ref g17, .ref g18, .ref g19, .ref g20, .ref g21, .ref g22, .int g23, .ref g24, .int g25, .int g26, .int g27, .int g28, .ref g29, .int g30, .int g31, .int g32]))] sz)) (va_Qv (fun (_u : Unit) => True) (fun (_u : Unit) => ks_post dC dI [(cB, .byte), (cI, .int), (cJ, .long)] (va_A [(h, .inr (1, [.int g0, .int g1, .int g2, .int g3, .int g4, .ref g5, .int g6, .ref g7, .ref g8, .ref g9, .ref g10, .ref g11, .int g12, .int g13, .int g14, .ref g15, .int g16, .ref g17, .ref g18, .ref g19, .ref g20, .ref g21, .ref g22, .int g23, .ref g24, .int g25, .int g26, .int g27, .int g28, .ref g29, .int g30, .int g31, .int g32]))] sz) [(h, .inr (1, [.int 0, .int g1, .int g2, .int g3, .int g4, .ref g5, .int g6, .ref g7, .ref g8, .ref g9, .ref g10, .ref g11, .int g12, .int g13, .int g14, .ref g15, .int g16, .ref g17, .ref g18, .ref g19, .ref g20, .ref g21, .ref g22, .int 0, .ref g24, .int g25, .int g26, .int g27, .int g28, .ref g29, .int g30, .int g31, .int g32]))]) (va_A [(h, .inr (1, [.int g0, .int g1, .int g2, .int g3, .int g4, .ref g5, .int g6, .ref g7, .ref g8, .ref g9, .ref g10, .ref g11, .int g12, .int g13, .int g14, .ref g15, .int g16, .ref g17, .ref g18, .ref g19, .ref g20, .ref g21, .ref g22, .int g23, .ref g24, .int g25, .int g26, .int g27, .int g28, .ref g29, .int g30, .int g31, .int g32]))] sz)) 0 0 (va_A [(h, .inr (1, [.int g0, .int g1, .int g2, .int g3, .int g4, .ref g5, .int g6, .ref g7, .ref g8, .ref g9, .ref g10, .ref g11, .int g12, .int g13, .int g14, .ref g15, .int g16, .ref g17, .ref g18, .ref g19, .ref g20, .ref g21, .ref g22, .int g23, .ref g24, .int g25, .int g26, .int g27, .int g28, .ref g29, .int g30, .int g31, .int g32]))] sz) := by
  refine Met.ofW (cc := cc_M_clear) (maxL := 1) (ret := none) (by decide) rfl ?_
  intro p e s m args below meth c s₁ B hml hv
  obtain ⟨rfl, hsz, hP, hK, hD0⟩ := hv
  have hx := B.exec
  have hb := B.bytes
  have hr := B.returns
  have hw : ∀ w ∈ gw, w.before _ s = true := fun w h => atoms_spec (ws := (Cond.code yy_M_clear cc_M_clear 1 none :: gw)) B.pre w (List.mem_cons_of_mem _ h)
  have hown : s.vm.findClass RR_M = some m.cls := findClass_of_methodNamed B.named
  have hlocks := B.notSynchronized
  subst hsz
  have hD := hD0.self (sz := s.heap.size)
  generalize hAe : va_A [(h, .inr (1, [.int g0, .int g1, .int g2, .int g3, .int g4, .ref g5, .int g6, .ref g7, .ref g8, .ref g9, .ref g10, .ref g11, .int g12, .int g13, .int g14, .ref g15, .int g16, .ref g17, .ref g18, .ref g19, .ref g20, .ref g21, .ref g22, .int g23, .ref g24, .int g25, .int g26, .int g27, .int g28, .ref g29, .int g30, .int g31, .int g32]))] s.heap.size = A at hD ⊢
  have hA : ∀ q : Nat, s.heap.size ≤ q → A q := fun q h => by rw [← hAe]; exact Or.inr h
  have hS : va_S A s.heap s.heap [] := va_S.rf
  have hP : va_P (dC, dI) vcl [(h, .inr (1, [.int g0, .int g1, .int g2, .int g3, .int g4, .ref g5, .int g6, .ref g7, .ref g8, .ref g9, .ref g10, .ref g11, .int g12, .int g13, .int g14, .ref g15, .int g16, .ref g17, .ref g18, .ref g19, .ref g20, .ref g21, .ref g22, .int g23, .ref g24, .int g25, .int g26, .int g27, .int g28, .ref g29, .int g30, .int g31, .int g32]))] s.heap := hP
  have hl := lv_entry ([.ref h]) (n := 1) (Nat.le_of_ble_eq_true rfl)
  rw [lg_entry_eq]
  generalize (lg_sl ([.ref h]) ++ List.replicate (1 - (lg_sl ([.ref h])).length) Slot.unset).toArray = ls at hl ⊢
  have hl : lv_has ls 1 [(0, .ref h)] := hl
  refine lv_aload_n hx hb dd_M_clear_0 rfl (lv_at hl 0 rfl) ?_
  refine lv_iconst (v := 0) hx hb dd_M_clear_1 (by decide) ?_
  refine va_put (D := (dC, dI)) (ci := 1) (v := .int 0) (ty := .int) (C := RR_M) (T := TT_M) (N := 33) hx hb hw hh_M ty_M ty_M_ok nm_M hown hK hP hD hS 0 rfl rfl 0 (by decide) (hw _ qq_579) (fun _ h9 => h9) rfl (by decide +kernel) rfl rfl (Nat.le_of_ble_eq_true rfl) dd_M_clear_2 (fun H locs hP hD hS => ?_)
  have hP : va_P (dC, dI) vcl [(h, .inr (1, [.int 0, .int g1, .int g2, .int g3, .int g4, .ref g5, .int g6, .ref g7, .ref g8, .ref g9, .ref g10, .ref g11, .int g12, .int g13, .int g14, .ref g15, .int g16, .ref g17, .ref g18, .ref g19, .ref g20, .ref g21, .ref g22, .int g23, .ref g24, .int g25, .int g26, .int g27, .int g28, .ref g29, .int g30, .int g31, .int g32]))] H := hP
  have hD : va_D A [(h, .inr (1, [.int 0, .int g1, .int g2, .int g3, .int g4, .ref g5, .int g6, .ref g7, .ref g8, .ref g9, .ref g10, .ref g11, .int g12, .int g13, .int g14, .ref g15, .int g16, .ref g17, .ref g18, .ref g19, .ref g20, .ref g21, .ref g22, .int g23, .ref g24, .int g25, .int g26, .int g27, .int g28, .ref g29, .int g30, .int g31, .int g32]))] := hD
  refine lv_aload_n hx hb dd_M_clear_5 rfl (lv_at hl 0 rfl) ?_
  refine lv_iconst (v := 0) hx hb dd_M_clear_6 (by decide) ?_
  refine va_put (D := (dC, dI)) (ci := 1) (v := .int 0) (ty := .int) (C := RR_M) (T := TT_M) (N := 33) hx hb hw hh_M ty_M ty_M_ok nm_M hown hK hP hD hS 0 rfl rfl 23 (by decide) (hw _ qq_602) (fun _ h9 => h9) rfl (by decide +kernel) rfl rfl (Nat.le_of_ble_eq_true rfl) dd_M_clear_7 (fun H locs hP hD hS => ?_)
  have hP : va_P (dC, dI) vcl [(h, .inr (1, [.int 0, .int g1, .int g2, .int g3, .int g4, .ref g5, .int g6, .ref g7, .ref g8, .ref g9, .ref g10, .ref g11, .int g12, .int g13, .int g14, .ref g15, .int g16, .ref g17, .ref g18, .ref g19, .ref g20, .ref g21, .ref g22, .int 0, .ref g24, .int g25, .int g26, .int g27, .int g28, .ref g29, .int g30, .int g31, .int g32]))] H := hP
  have hD : va_D A [(h, .inr (1, [.int 0, .int g1, .int g2, .int g3, .int g4, .ref g5, .int g6, .ref g7, .ref g8, .ref g9, .ref g10, .ref g11, .int g12, .int g13, .int g14, .ref g15, .int g16, .ref g17, .ref g18, .ref g19, .ref g20, .ref g21, .ref g22, .int 0, .ref g24, .int g25, .int g26, .int g27, .int g28, .ref g29, .int g30, .int g31, .int g32]))] := hD
  have hP9 := hP.sub (ws' := [(h, .inr (1, [.int 0, .int g1, .int g2, .int g3, .int g4, .ref g5, .int g6, .ref g7, .ref g8, .ref g9, .ref g10, .ref g11, .int g12, .int g13, .int g14, .ref g15, .int g16, .ref g17, .ref g18, .ref g19, .ref g20, .ref g21, .ref g22, .int 0, .ref g24, .int g25, .int g26, .int g27, .int g28, .ref g29, .int g30, .int g31, .int g32]))]) [0] rfl
  have hD9 := hD.sub (ws' := [(h, .inr (1, [.int 0, .int g1, .int g2, .int g3, .int g4, .ref g5, .int g6, .ref g7, .ref g8, .ref g9, .ref g10, .ref g11, .int g12, .int g13, .int g14, .ref g15, .int g16, .ref g17, .ref g18, .ref g19, .ref g20, .ref g21, .ref g22, .int 0, .ref g24, .int g25, .int g26, .int g27, .int g28, .ref g29, .int g30, .int g31, .int g32]))]) [0] (by decide) rfl
  refine W.widen (k := 0) (n := 0) (by first | exact Nat.le_refl _ | omega) (by first | exact Nat.le_refl _ | omega) ?_
  exact W.vret hx hb hr (fun t ht hW => ⟨⟨(), rfl, trivial, by rw [ht]; exact hP9, va_K.moved hW.alike hK, hD9⟩, hS.F ht⟩) hS.2.2 dd_M_clear_10
