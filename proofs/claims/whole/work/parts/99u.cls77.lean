/-! THE SPELLER: a node is spelled -/
/-- nothing but what belongs there is written -/
def WS (W : List Int32) (J K : Nat → Nat → Int32) : Prop := (∀ a j, a ≠ 742 → a ≠ 743 → K a j = J a j) ∧ ∀ p, K 743 p = J 743 p ∨ (p < W.length ∧ K 743 p = W.getD p 0)
theorem WS.rf {W : List Int32} {J : Nat → Nat → Int32} : WS W J J := ⟨fun _ _ _ _ => rfl, fun _ => Or.inl rfl⟩
theorem WS.t {W : List Int32} {I J K : Nat → Nat → Int32} (h : WS W I J) (h2 : WS W J K) : WS W I K := by
  refine ⟨fun a j q1 q2 => (h2.1 a j q1 q2).trans (h.1 a j q1 q2), fun p => ?_⟩
  rcases h2.2 p with q | q
  · rw [q]; exact h.2 p
  · exact Or.inr q
theorem WS.keep {W : List Int32} {J K : Nat → Nat → Int32} (h : WS W J K) {p : Nat} (e : J 743 p = W.getD p 0) : K 743 p = W.getD p 0 := by
  rcases h.2 p with q | q
  · rw [q]; exact e
  · exact q.2
theorem WS.put {W : List Int32} {J K : Nat → Nat → Int32} {s : Nat} {v : Int32} (e : K = u2 J 743 s v) (hs : s < W.length) (hv : W.getD s 0 = v) : WS W J K ∧ K 743 s = W.getD s 0 ∧ ∀ j, K 742 j = J 742 j := by
  refine ⟨⟨fun a j _ q => rd_ne e q, fun p => ?_⟩, (rd_eq e).trans hv.symm, fun j => rd_ne e (by decide)⟩
  by_cases y : p = s
  · subst y; exact Or.inr ⟨hs, (rd_eq e).trans hv.symm⟩
  · exact Or.inl (rd_nk e y)
theorem WS.num {W : List Int32} {J K : Nat → Nat → Int32} {s v : Nat} (hv : v < 1000000) (hc : CS W s (spn v)) (h1 : ∀ j, j < dgN v → K 743 (s + j) = (spn v).getD j 0) (h2 : ∀ a j, ¬ (a = 743 ∧ s ≤ j ∧ j < s + dgN v) → K a j = J a j) : WS W J K ∧ (∀ p, s ≤ p → p < s + dgN v → K 743 p = W.getD p 0) ∧ ∀ j, K 742 j = J 742 j := by
  have hl := (spn_g hv).1
  obtain ⟨c1, c2⟩ := hc
  rw [hl] at c1 c2
  have key : ∀ p, s ≤ p → p < s + dgN v → K 743 p = W.getD p 0 := fun p q1 q2 => by
    have := h1 (p - s) (by omega)
    rw [← c2 (p - s) (by omega), show s + (p - s) = p by omega] at this
    exact this
  refine ⟨⟨fun a j q1 q2 => h2 a j (by omega), fun p => ?_⟩, key, fun j => h2 742 j (by omega)⟩
  by_cases y : s ≤ p ∧ p < s + dgN v
  · exact Or.inr ⟨by omega, key p y.1 y.2⟩
  · exact Or.inl (h2 743 p (by omega))
theorem PLP.ws {W : List Int32} {X q ln : Nat} {b : Bool} {J K : Nat → Nat → Int32} (h : PLP W X q ln b J K) : WS W J K := ⟨h.1, h.2.2.2.1⟩
/-- what spelling a node leaves: its parts and where they begin -/
def SNP (W : List Int32) (ns : List Nd) (n s : Nat) (ch : List (Nat × Nat)) (J K : Nat → Nat → Int32) : Prop := WS W J K ∧ (∀ x ∈ ch, K 742 x.1 = nI x.2 ∧ CS W x.2 (tx ns x.1)) ∧ (∀ j, (∀ x ∈ ch, j ≠ x.1) → K 742 j = J 742 j) ∧ ∀ p, s ≤ p → p < s + ln ns n → (∃ x ∈ ch, x.2 ≤ p ∧ p < x.2 + ln ns x.1) ∨ K 743 p = W.getD p 0
/-- the parts of a node -/
def chN (ns : List Nd) (n : Nat) : List Nat := if (nd ns n).1 = 3 then [(nd ns n).2.1] else if 7 ≤ (nd ns n).1 then [(nd ns n).2.1, (nd ns n).2.2.1] else []
theorem k_Sp_spellNode {d : Nat} {J : Nat → Nat → Int32} {R : Nat → Nat → Option Nat} {L : Nat → Nat → Int64} {sh : Nat → Nat × Nat} {N : Nat} (hS : ShOK sh) (hR : RfOK R) {c n : Nat} {ns : List Nd} (hC : CoK c ns J R sh) (hc : 781 ≤ c) (hv : NV ns) (hl : ns.length < 250) (hn : n < ns.length) {W : List Int32} (hW : W.length ≤ 256) {s : Nat} (hs : J 742 n = nI s) (hcs : CS W s (tx ns n)) (hLn : ∀ j, j < n → J 741 j = nI (ln ns j)) (hxy : 7 ≤ (nd ns n).1 → (nd ns n).2.1 ≠ (nd ns n).2.2.1) (hd : 6 ≤ d) : Mt mi_Sp_spellNode d 0 0 [.ref 740, .ref c, .int (nI n)] (J, R, L, sh, N) (fun x h2 => x = none ∧ ∃ K, h2 = (K, R, L, sh, N) ∧ ∃ ch, ch.map Prod.fst = chN ns n ∧ SNP W ns n s ch J K) := by
  obtain ⟨hv1, hv2, hv3, hv4, hv5⟩ := hv.nd hn
  have hW0 := hcs.1
  have hlen := tx_len hv n hn
  
  refine Mt.of pn_Sp (Nat.le_of_ble_eq_true rfl) ?_
  show Run mi_Sp_spellNode d 0 0 0 [(0, .ref 740), (1, .ref c), (2, .int (nI n))] [] (J, R, L, sh, N) _
  refine r_aload_n (x := some 740) (pc2 := 1) d_Sp_spellNode_0 rfl rfl ?_
  refine q_getR (x := some 742) (pc2 := 4) d_Sp_spellNode_1 rfl k_Sp_15 rfl (sh_740 hS) (rf_740_1 hR) ?_
  refine r_iload_n (pc2 := 5) d_Sp_spellNode_4 rfl rfl ?_
  refine q_iaload (q := n) (x := nI s) (pc2 := 6) d_Sp_spellNode_5 rfl (sh_742 hS) (nI_toInt (by omega)) (by omega) hs ?_
  refine r_istore_n (pc2 := 7) d_Sp_spellNode_6 rfl rfl (Nat.le_of_ble_eq_true rfl) ?_
  refine r_aload_n (x := some c) (pc2 := 8) d_Sp_spellNode_7 rfl rfl ?_
  refine r_iload_n (pc2 := 9) d_Sp_spellNode_8 rfl rfl ?_
  refine q_callv (M2 := mi_Co_kindOf) (pc2 := 12) d_Sp_spellNode_9 rfl k_Sp_49 cm_Co_kindOf cv_Co_kindOf hC.1.1 (by decide) rfl rfl rfl (Nat.le_of_ble_eq_true rfl) (k_Co_kindOf (J := J) hS hR (n := n) hC hv hl (by omega)) (d2 := d - 1) (by omega) (Nat.le_of_eq (Nat.zero_add _)) (Nat.le_of_eq (Nat.zero_add _)) ?_
  refine r_istore (pc2 := 14) d_Sp_spellNode_12 rfl (Nat.le_of_ble_eq_true rfl) ?_
  refine r_iload (pc2 := 16) d_Sp_spellNode_14 rfl rfl ?_
  refine r_iconst (v := nI 3) (pc2 := 17) d_Sp_spellNode_16 rfl (by decide) ?_
  refine q_icmp_ne (tgt := 40) (A := (((nd ns n).1 : Nat) : Int)) (B := (3 : Int)) (pc2 := 20) d_Sp_spellNode_17 rfl rfl (nI_toInt (by omega)) (nI_toInt (by omega)) (fun c1 => ?_) (fun c1 => ?_)
  · refine r_iload (pc2 := 42) d_Sp_spellNode_40 rfl rfl ?_
    refine r_iconst (v := nI 5) (pc2 := 43) d_Sp_spellNode_42 rfl (by decide) ?_
    refine q_icmp_ne (tgt := 92) (A := (((nd ns n).1 : Nat) : Int)) (B := (5 : Int)) (pc2 := 46) d_Sp_spellNode_43 rfl rfl (nI_toInt (by omega)) (nI_toInt (by omega)) (fun c2 => ?_) (fun c2 => ?_)
    · refine r_iload (pc2 := 94) d_Sp_spellNode_92 rfl rfl ?_
      refine r_bipush (v := nI 6) (pc2 := 96) d_Sp_spellNode_94 rfl (by decide) ?_
      refine q_icmp_ne (tgt := 147) (A := (((nd ns n).1 : Nat) : Int)) (B := (6 : Int)) (pc2 := 99) d_Sp_spellNode_96 rfl rfl (nI_toInt (by omega)) (nI_toInt (by omega)) (fun c3 => ?_) (fun c3 => ?_)
      · refine r_iload (pc2 := 149) d_Sp_spellNode_147 rfl rfl ?_
        refine r_bipush (v := nI 7) (pc2 := 151) d_Sp_spellNode_149 rfl (by decide) ?_
        refine q_icmp_eq (tgt := 161) (A := (((nd ns n).1 : Nat) : Int)) (B := (7 : Int)) (pc2 := 154) d_Sp_spellNode_151 rfl rfl (nI_toInt (by omega)) (nI_toInt (by omega)) (fun c4 => ?_) (fun c4 => ?_)
        · have hx := hv2 (Or.inr (by omega))
          have hy := hv3 (by omega)
          rw [tx_7 hv hn (by omega)] at hcs
          obtain ⟨hcs1, hcs⟩ := hcs.app
          rw [bk_l, tx_len hv _ (by omega), show (if b1 ns n = true then 2 else 0) = plus2 (b1 ns n) from rfl] at hcs
          obtain ⟨hW1, hl1, hcs2⟩ := hcs.hd
          refine r_iload_n (pc2 := 162) d_Sp_spellNode_161 rfl rfl ?_
          refine r_aload_n (x := some 740) (pc2 := 163) d_Sp_spellNode_162 rfl rfl ?_
          refine r_aload_n (x := some c) (pc2 := 164) d_Sp_spellNode_163 rfl rfl ?_
          refine r_iload_n (pc2 := 165) d_Sp_spellNode_164 rfl rfl ?_
          refine r_iconst (v := nI 1) (pc2 := 166) d_Sp_spellNode_165 rfl (by decide) ?_
          refine q_callv (M2 := mi_Sp_partLength) (pc2 := 169) d_Sp_spellNode_166 rfl k_Sp_53 cm_Sp_partLength cv_Sp_partLength (sh_740 hS) (by decide) rfl rfl rfl (Nat.le_of_ble_eq_true rfl) (k_Sp_partLength_1 (J := J) hS hR hC hv hl hn (by omega) (hLn _ (by omega)) (by omega)) (d2 := d - 1) (by omega) (Nat.le_of_eq (Nat.zero_add _)) (Nat.le_of_eq (Nat.zero_add _)) ?_
          refine q_iaddN (pc2 := 170) d_Sp_spellNode_169 rfl ?_
          refine r_istore (pc2 := 172) d_Sp_spellNode_170 rfl (Nat.le_of_ble_eq_true rfl) ?_
          refine r_aload_n (x := some 740) (pc2 := 173) d_Sp_spellNode_172 rfl rfl ?_
          refine r_aload_n (x := some c) (pc2 := 174) d_Sp_spellNode_173 rfl rfl ?_
          refine r_iload_n (pc2 := 175) d_Sp_spellNode_174 rfl rfl ?_
          refine r_iconst (v := nI 1) (pc2 := 176) d_Sp_spellNode_175 rfl (by decide) ?_
          refine r_iload_n (pc2 := 177) d_Sp_spellNode_176 rfl rfl ?_
          refine r_callv (M2 := mi_Sp_placePart) (pc2 := 180) d_Sp_spellNode_177 rfl k_Sp_78 cm_Sp_placePart cv_Sp_placePart (sh_740 hS) (by decide) rfl rfl rfl (Nat.le_of_ble_eq_true rfl) (k_Sp_placePart_1 (J := J) hS hR hC hv hl hn hW (q := s) (by omega) hcs1 (hLn _ (by omega)) (by omega)) (d2 := d - 1) (by omega) (Nat.le_of_eq (Nat.zero_add _)) (Nat.le_of_eq (Nat.zero_add _)) (fun r2 h2 hq2 => ?_)
          obtain ⟨rfl, I5, rfl, hplI5⟩ := hq2
          have hC := hC.c hc (fun a j q => hplI5.1 a j (by omega) (by omega))
          have hLn : ∀ j, j < n → I5 741 j = nI (ln ns j) := fun j hj => (hplI5.1 _ _ (by decide) (by decide)).trans (hLn j hj)
          refine r_aload_n (x := some 740) (pc2 := 181) d_Sp_spellNode_180 rfl rfl ?_
          refine r_iload (pc2 := 183) d_Sp_spellNode_181 rfl rfl ?_
          refine r_iload (pc2 := 185) d_Sp_spellNode_183 rfl rfl ?_
          refine r_bipush (v := nI 7) (pc2 := 187) d_Sp_spellNode_185 rfl (by decide) ?_
          refine q_icmp_ne (tgt := 195) (A := (((nd ns n).1 : Nat) : Int)) (B := (7 : Int)) (pc2 := 190) d_Sp_spellNode_187 rfl rfl (nI_toInt (by omega)) (nI_toInt (by omega)) (fun c6 => ?_) (fun c6 => ?_)
          · refine r_bipush (v := nI 124) (pc2 := 197) d_Sp_spellNode_195 rfl (by decide) ?_
            rw [if_neg (by omega)] at hl1
            refine r_callv (M2 := mi_Sp_put) (pc2 := 200) d_Sp_spellNode_197 rfl k_Sp_74 cm_Sp_put cv_Sp_put (sh_740 hS) (by decide) rfl rfl rfl (Nat.le_of_ble_eq_true rfl) (c_Sp_put (J := I5) hS hR (a := s + (ln ns (nd ns n).2.1 + plus2 (b1 ns n))) (v := nI 124) (by omega)) (d2 := d - 1) (by omega) (Nat.le_of_eq (Nat.zero_add _)) (Nat.le_of_eq (Nat.zero_add _)) (fun r2 h2 hq2 => ?_)
            obtain ⟨rfl, I7, rfl, hI7⟩ := hq2
            have hC := hC.c hc (fun a j q => rd_ne hI7 (by omega))
            have hLn : ∀ j, j < n → I7 741 j = nI (ln ns j) := fun j hj => (rd_ne hI7 (by decide)).trans (hLn j hj)
            refine r_aload_n (x := some 740) (pc2 := 201) d_Sp_spellNode_200 rfl rfl ?_
            refine r_aload_n (x := some c) (pc2 := 202) d_Sp_spellNode_201 rfl rfl ?_
            refine r_iload_n (pc2 := 203) d_Sp_spellNode_202 rfl rfl ?_
            refine r_iconst (v := nI 2) (pc2 := 204) d_Sp_spellNode_203 rfl (by decide) ?_
            refine r_iload (pc2 := 206) d_Sp_spellNode_204 rfl rfl ?_
            refine r_iconst (v := nI 1) (pc2 := 207) d_Sp_spellNode_206 rfl (by decide) ?_
            refine q_iaddN (pc2 := 208) d_Sp_spellNode_207 rfl ?_
            refine r_callv (M2 := mi_Sp_placePart) (pc2 := 211) d_Sp_spellNode_208 rfl k_Sp_78 cm_Sp_placePart cv_Sp_placePart (sh_740 hS) (by decide) rfl rfl rfl (Nat.le_of_ble_eq_true rfl) (k_Sp_placePart_2 (J := I7) hS hR hC hv hl hn hW (q := s + (ln ns (nd ns n).2.1 + plus2 (b1 ns n)) + 1) (by omega) hcs2 (hLn _ (by omega)) (by omega)) (d2 := d - 1) (by omega) (Nat.le_of_eq (Nat.zero_add _)) (Nat.le_of_eq (Nat.zero_add _)) (fun r2 h2 hq2 => ?_)
            obtain ⟨rfl, I8, rfl, hplI8⟩ := hq2
            have hC := hC.c hc (fun a j q => hplI8.1 a j (by omega) (by omega))
            have hLn : ∀ j, j < n → I8 741 j = nI (ln ns j) := fun j hj => (hplI8.1 _ _ (by decide) (by decide)).trans (hLn j hj)
            refine r_goto (tgt := 221) d_Sp_spellNode_211 rfl ?_
            refine Run.ret none d_Sp_spellNode_221 rfl ?_
            have wsI5 := hplI5.ws
            obtain ⟨wsI7, wpI7, wqI7⟩ := WS.put hI7 (W := W) (by omega) (by first | exact hl1 | (rw [hl1]))
            have wsI8 := hplI8.ws
            have hxy2 := hxy (by omega)
            refine ⟨rfl, _, rfl, [((nd ns n).2.1, s + off (b1 ns n)), ((nd ns n).2.2.1, s + (ln ns (nd ns n).2.1 + plus2 (b1 ns n)) + 1 + off (b2 ns n))], by unfold chN; rw [if_neg (by omega), if_pos (by omega)]; rfl, ((wsI5.t wsI7).t wsI8), fun x hx => ?_, fun j hj => (hplI8.2.2.1 j (hj ((nd ns n).2.2.1, s + (ln ns (nd ns n).2.1 + plus2 (b1 ns n)) + 1 + off (b2 ns n)) (List.mem_cons_of_mem _ List.mem_cons_self))).trans ((wqI7 j).trans (hplI5.2.2.1 j (hj _ List.mem_cons_self))), fun p q1 q2 => ?_⟩
            · rcases List.mem_cons.mp hx with y | y
              · rw [y]; exact ⟨(hplI8.2.2.1 _ hxy2).trans ((wqI7 _).trans hplI5.2.1), hcs1.bk.1⟩
              · rw [List.mem_singleton.mp y]; exact ⟨hplI8.2.1, hcs2.bk.1⟩
            · rw [ln_7 hv hn (by omega)] at q2
              by_cases y : p < s + (ln ns (nd ns n).2.1 + plus2 (b1 ns n))
              · rcases hplI5.2.2.2.2 p q1 y with z | z
                · exact Or.inl ⟨_, List.mem_cons_self, z⟩
                · exact Or.inr ((wsI7.t wsI8).keep (z))
              · by_cases y2 : p = s + (ln ns (nd ns n).2.1 + plus2 (b1 ns n))
                · subst y2; exact Or.inr (wsI8.keep (wpI7))
                · rcases hplI8.2.2.2.2 p (by omega) (by omega) with z | z
                  · exact Or.inl ⟨_, List.mem_cons_of_mem _ List.mem_cons_self, z⟩
                  · exact Or.inr z
          · refine r_bipush (v := nI 38) (pc2 := 192) d_Sp_spellNode_190 rfl (by decide) ?_
            refine r_goto (tgt := 197) d_Sp_spellNode_192 rfl ?_
            rw [if_pos (by omega)] at hl1
            refine r_callv (M2 := mi_Sp_put) (pc2 := 200) d_Sp_spellNode_197 rfl k_Sp_74 cm_Sp_put cv_Sp_put (sh_740 hS) (by decide) rfl rfl rfl (Nat.le_of_ble_eq_true rfl) (c_Sp_put (J := I5) hS hR (a := s + (ln ns (nd ns n).2.1 + plus2 (b1 ns n))) (v := nI 38) (by omega)) (d2 := d - 1) (by omega) (Nat.le_of_eq (Nat.zero_add _)) (Nat.le_of_eq (Nat.zero_add _)) (fun r2 h2 hq2 => ?_)
            obtain ⟨rfl, I9, rfl, hI9⟩ := hq2
            have hC := hC.c hc (fun a j q => rd_ne hI9 (by omega))
            have hLn : ∀ j, j < n → I9 741 j = nI (ln ns j) := fun j hj => (rd_ne hI9 (by decide)).trans (hLn j hj)
            refine r_aload_n (x := some 740) (pc2 := 201) d_Sp_spellNode_200 rfl rfl ?_
            refine r_aload_n (x := some c) (pc2 := 202) d_Sp_spellNode_201 rfl rfl ?_
            refine r_iload_n (pc2 := 203) d_Sp_spellNode_202 rfl rfl ?_
            refine r_iconst (v := nI 2) (pc2 := 204) d_Sp_spellNode_203 rfl (by decide) ?_
            refine r_iload (pc2 := 206) d_Sp_spellNode_204 rfl rfl ?_
            refine r_iconst (v := nI 1) (pc2 := 207) d_Sp_spellNode_206 rfl (by decide) ?_
            refine q_iaddN (pc2 := 208) d_Sp_spellNode_207 rfl ?_
            refine r_callv (M2 := mi_Sp_placePart) (pc2 := 211) d_Sp_spellNode_208 rfl k_Sp_78 cm_Sp_placePart cv_Sp_placePart (sh_740 hS) (by decide) rfl rfl rfl (Nat.le_of_ble_eq_true rfl) (k_Sp_placePart_2 (J := I9) hS hR hC hv hl hn hW (q := s + (ln ns (nd ns n).2.1 + plus2 (b1 ns n)) + 1) (by omega) hcs2 (hLn _ (by omega)) (by omega)) (d2 := d - 1) (by omega) (Nat.le_of_eq (Nat.zero_add _)) (Nat.le_of_eq (Nat.zero_add _)) (fun r2 h2 hq2 => ?_)
            obtain ⟨rfl, I10, rfl, hplI10⟩ := hq2
            have hC := hC.c hc (fun a j q => hplI10.1 a j (by omega) (by omega))
            have hLn : ∀ j, j < n → I10 741 j = nI (ln ns j) := fun j hj => (hplI10.1 _ _ (by decide) (by decide)).trans (hLn j hj)
            refine r_goto (tgt := 221) d_Sp_spellNode_211 rfl ?_
            refine Run.ret none d_Sp_spellNode_221 rfl ?_
            have wsI5 := hplI5.ws
            obtain ⟨wsI9, wpI9, wqI9⟩ := WS.put hI9 (W := W) (by omega) (by first | exact hl1 | (rw [hl1]))
            have wsI10 := hplI10.ws
            have hxy2 := hxy (by omega)
            refine ⟨rfl, _, rfl, [((nd ns n).2.1, s + off (b1 ns n)), ((nd ns n).2.2.1, s + (ln ns (nd ns n).2.1 + plus2 (b1 ns n)) + 1 + off (b2 ns n))], by unfold chN; rw [if_neg (by omega), if_pos (by omega)]; rfl, ((wsI5.t wsI9).t wsI10), fun x hx => ?_, fun j hj => (hplI10.2.2.1 j (hj ((nd ns n).2.2.1, s + (ln ns (nd ns n).2.1 + plus2 (b1 ns n)) + 1 + off (b2 ns n)) (List.mem_cons_of_mem _ List.mem_cons_self))).trans ((wqI9 j).trans (hplI5.2.2.1 j (hj _ List.mem_cons_self))), fun p q1 q2 => ?_⟩
            · rcases List.mem_cons.mp hx with y | y
              · rw [y]; exact ⟨(hplI10.2.2.1 _ hxy2).trans ((wqI9 _).trans hplI5.2.1), hcs1.bk.1⟩
              · rw [List.mem_singleton.mp y]; exact ⟨hplI10.2.1, hcs2.bk.1⟩
            · rw [ln_7 hv hn (by omega)] at q2
              by_cases y : p < s + (ln ns (nd ns n).2.1 + plus2 (b1 ns n))
              · rcases hplI5.2.2.2.2 p q1 y with z | z
                · exact Or.inl ⟨_, List.mem_cons_self, z⟩
                · exact Or.inr ((wsI9.t wsI10).keep (z))
              · by_cases y2 : p = s + (ln ns (nd ns n).2.1 + plus2 (b1 ns n))
                · subst y2; exact Or.inr (wsI10.keep (wpI9))
                · rcases hplI10.2.2.2.2 p (by omega) (by omega) with z | z
                  · exact Or.inl ⟨_, List.mem_cons_of_mem _ List.mem_cons_self, z⟩
                  · exact Or.inr z
        · refine r_iload (pc2 := 156) d_Sp_spellNode_154 rfl rfl ?_
          refine r_bipush (v := nI 8) (pc2 := 158) d_Sp_spellNode_156 rfl (by decide) ?_
          refine q_icmp_ne (tgt := 214) (A := (((nd ns n).1 : Nat) : Int)) (B := (8 : Int)) (pc2 := 161) d_Sp_spellNode_158 rfl rfl (nI_toInt (by omega)) (nI_toInt (by omega)) (fun c11 => ?_) (fun c11 => ?_)
          · rw [tx_eq hv hn, if_neg (by omega), if_pos (by omega)] at hcs
            obtain ⟨hW1, hl1, -⟩ := hcs.hd
            refine r_aload_n (x := some 740) (pc2 := 215) d_Sp_spellNode_214 rfl rfl ?_
            refine r_iload_n (pc2 := 216) d_Sp_spellNode_215 rfl rfl ?_
            refine r_bipush (v := nI 42) (pc2 := 218) d_Sp_spellNode_216 rfl (by decide) ?_
            refine r_callv (M2 := mi_Sp_put) (pc2 := 221) d_Sp_spellNode_218 rfl k_Sp_74 cm_Sp_put cv_Sp_put (sh_740 hS) (by decide) rfl rfl rfl (Nat.le_of_ble_eq_true rfl) (c_Sp_put (J := J) hS hR (a := s) (v := nI 42) (by omega)) (d2 := d - 1) (by omega) (Nat.le_of_eq (Nat.zero_add _)) (Nat.le_of_eq (Nat.zero_add _)) (fun r2 h2 hq2 => ?_)
            obtain ⟨rfl, I12, rfl, hI12⟩ := hq2
            have hC := hC.c hc (fun a j q => rd_ne hI12 (by omega))
            have hLn : ∀ j, j < n → I12 741 j = nI (ln ns j) := fun j hj => (rd_ne hI12 (by decide)).trans (hLn j hj)
            refine Run.ret none d_Sp_spellNode_221 rfl ?_
            obtain ⟨wsI12, wpI12, wqI12⟩ := WS.put hI12 (W := W) (by omega) (by first | exact hl1 | (rw [hl1]))
            refine ⟨rfl, _, rfl, [], by unfold chN; rw [if_neg (by omega), if_neg (by omega)]; rfl, wsI12, fun x hx => absurd hx List.not_mem_nil, fun j _ => wqI12 j, fun p q1 q2 => Or.inr ?_⟩
            rw [ln_4 hv hn (by omega)] at q2
            obtain rfl : p = s := by omega
            exact (wpI12)
          · have hx := hv2 (Or.inr (by omega))
            have hy := hv3 (by omega)
            rw [tx_7 hv hn (by omega)] at hcs
            obtain ⟨hcs1, hcs⟩ := hcs.app
            rw [bk_l, tx_len hv _ (by omega), show (if b1 ns n = true then 2 else 0) = plus2 (b1 ns n) from rfl] at hcs
            obtain ⟨hW1, hl1, hcs2⟩ := hcs.hd
            refine r_iload_n (pc2 := 162) d_Sp_spellNode_161 rfl rfl ?_
            refine r_aload_n (x := some 740) (pc2 := 163) d_Sp_spellNode_162 rfl rfl ?_
            refine r_aload_n (x := some c) (pc2 := 164) d_Sp_spellNode_163 rfl rfl ?_
            refine r_iload_n (pc2 := 165) d_Sp_spellNode_164 rfl rfl ?_
            refine r_iconst (v := nI 1) (pc2 := 166) d_Sp_spellNode_165 rfl (by decide) ?_
            refine q_callv (M2 := mi_Sp_partLength) (pc2 := 169) d_Sp_spellNode_166 rfl k_Sp_53 cm_Sp_partLength cv_Sp_partLength (sh_740 hS) (by decide) rfl rfl rfl (Nat.le_of_ble_eq_true rfl) (k_Sp_partLength_1 (J := J) hS hR hC hv hl hn (by omega) (hLn _ (by omega)) (by omega)) (d2 := d - 1) (by omega) (Nat.le_of_eq (Nat.zero_add _)) (Nat.le_of_eq (Nat.zero_add _)) ?_
            refine q_iaddN (pc2 := 170) d_Sp_spellNode_169 rfl ?_
            refine r_istore (pc2 := 172) d_Sp_spellNode_170 rfl (Nat.le_of_ble_eq_true rfl) ?_
            refine r_aload_n (x := some 740) (pc2 := 173) d_Sp_spellNode_172 rfl rfl ?_
            refine r_aload_n (x := some c) (pc2 := 174) d_Sp_spellNode_173 rfl rfl ?_
            refine r_iload_n (pc2 := 175) d_Sp_spellNode_174 rfl rfl ?_
            refine r_iconst (v := nI 1) (pc2 := 176) d_Sp_spellNode_175 rfl (by decide) ?_
            refine r_iload_n (pc2 := 177) d_Sp_spellNode_176 rfl rfl ?_
            refine r_callv (M2 := mi_Sp_placePart) (pc2 := 180) d_Sp_spellNode_177 rfl k_Sp_78 cm_Sp_placePart cv_Sp_placePart (sh_740 hS) (by decide) rfl rfl rfl (Nat.le_of_ble_eq_true rfl) (k_Sp_placePart_1 (J := J) hS hR hC hv hl hn hW (q := s) (by omega) hcs1 (hLn _ (by omega)) (by omega)) (d2 := d - 1) (by omega) (Nat.le_of_eq (Nat.zero_add _)) (Nat.le_of_eq (Nat.zero_add _)) (fun r2 h2 hq2 => ?_)
            obtain ⟨rfl, I13, rfl, hplI13⟩ := hq2
            have hC := hC.c hc (fun a j q => hplI13.1 a j (by omega) (by omega))
            have hLn : ∀ j, j < n → I13 741 j = nI (ln ns j) := fun j hj => (hplI13.1 _ _ (by decide) (by decide)).trans (hLn j hj)
            refine r_aload_n (x := some 740) (pc2 := 181) d_Sp_spellNode_180 rfl rfl ?_
            refine r_iload (pc2 := 183) d_Sp_spellNode_181 rfl rfl ?_
            refine r_iload (pc2 := 185) d_Sp_spellNode_183 rfl rfl ?_
            refine r_bipush (v := nI 7) (pc2 := 187) d_Sp_spellNode_185 rfl (by decide) ?_
            refine q_icmp_ne (tgt := 195) (A := (((nd ns n).1 : Nat) : Int)) (B := (7 : Int)) (pc2 := 190) d_Sp_spellNode_187 rfl rfl (nI_toInt (by omega)) (nI_toInt (by omega)) (fun c14 => ?_) (fun c14 => ?_)
            · refine r_bipush (v := nI 124) (pc2 := 197) d_Sp_spellNode_195 rfl (by decide) ?_
              rw [if_neg (by omega)] at hl1
              refine r_callv (M2 := mi_Sp_put) (pc2 := 200) d_Sp_spellNode_197 rfl k_Sp_74 cm_Sp_put cv_Sp_put (sh_740 hS) (by decide) rfl rfl rfl (Nat.le_of_ble_eq_true rfl) (c_Sp_put (J := I13) hS hR (a := s + (ln ns (nd ns n).2.1 + plus2 (b1 ns n))) (v := nI 124) (by omega)) (d2 := d - 1) (by omega) (Nat.le_of_eq (Nat.zero_add _)) (Nat.le_of_eq (Nat.zero_add _)) (fun r2 h2 hq2 => ?_)
              obtain ⟨rfl, I15, rfl, hI15⟩ := hq2
              have hC := hC.c hc (fun a j q => rd_ne hI15 (by omega))
              have hLn : ∀ j, j < n → I15 741 j = nI (ln ns j) := fun j hj => (rd_ne hI15 (by decide)).trans (hLn j hj)
              refine r_aload_n (x := some 740) (pc2 := 201) d_Sp_spellNode_200 rfl rfl ?_
              refine r_aload_n (x := some c) (pc2 := 202) d_Sp_spellNode_201 rfl rfl ?_
              refine r_iload_n (pc2 := 203) d_Sp_spellNode_202 rfl rfl ?_
              refine r_iconst (v := nI 2) (pc2 := 204) d_Sp_spellNode_203 rfl (by decide) ?_
              refine r_iload (pc2 := 206) d_Sp_spellNode_204 rfl rfl ?_
              refine r_iconst (v := nI 1) (pc2 := 207) d_Sp_spellNode_206 rfl (by decide) ?_
              refine q_iaddN (pc2 := 208) d_Sp_spellNode_207 rfl ?_
              refine r_callv (M2 := mi_Sp_placePart) (pc2 := 211) d_Sp_spellNode_208 rfl k_Sp_78 cm_Sp_placePart cv_Sp_placePart (sh_740 hS) (by decide) rfl rfl rfl (Nat.le_of_ble_eq_true rfl) (k_Sp_placePart_2 (J := I15) hS hR hC hv hl hn hW (q := s + (ln ns (nd ns n).2.1 + plus2 (b1 ns n)) + 1) (by omega) hcs2 (hLn _ (by omega)) (by omega)) (d2 := d - 1) (by omega) (Nat.le_of_eq (Nat.zero_add _)) (Nat.le_of_eq (Nat.zero_add _)) (fun r2 h2 hq2 => ?_)
              obtain ⟨rfl, I16, rfl, hplI16⟩ := hq2
              have hC := hC.c hc (fun a j q => hplI16.1 a j (by omega) (by omega))
              have hLn : ∀ j, j < n → I16 741 j = nI (ln ns j) := fun j hj => (hplI16.1 _ _ (by decide) (by decide)).trans (hLn j hj)
              refine r_goto (tgt := 221) d_Sp_spellNode_211 rfl ?_
              refine Run.ret none d_Sp_spellNode_221 rfl ?_
              have wsI13 := hplI13.ws
              obtain ⟨wsI15, wpI15, wqI15⟩ := WS.put hI15 (W := W) (by omega) (by first | exact hl1 | (rw [hl1]))
              have wsI16 := hplI16.ws
              have hxy2 := hxy (by omega)
              refine ⟨rfl, _, rfl, [((nd ns n).2.1, s + off (b1 ns n)), ((nd ns n).2.2.1, s + (ln ns (nd ns n).2.1 + plus2 (b1 ns n)) + 1 + off (b2 ns n))], by unfold chN; rw [if_neg (by omega), if_pos (by omega)]; rfl, ((wsI13.t wsI15).t wsI16), fun x hx => ?_, fun j hj => (hplI16.2.2.1 j (hj ((nd ns n).2.2.1, s + (ln ns (nd ns n).2.1 + plus2 (b1 ns n)) + 1 + off (b2 ns n)) (List.mem_cons_of_mem _ List.mem_cons_self))).trans ((wqI15 j).trans (hplI13.2.2.1 j (hj _ List.mem_cons_self))), fun p q1 q2 => ?_⟩
              · rcases List.mem_cons.mp hx with y | y
                · rw [y]; exact ⟨(hplI16.2.2.1 _ hxy2).trans ((wqI15 _).trans hplI13.2.1), hcs1.bk.1⟩
                · rw [List.mem_singleton.mp y]; exact ⟨hplI16.2.1, hcs2.bk.1⟩
              · rw [ln_7 hv hn (by omega)] at q2
                by_cases y : p < s + (ln ns (nd ns n).2.1 + plus2 (b1 ns n))
                · rcases hplI13.2.2.2.2 p q1 y with z | z
                  · exact Or.inl ⟨_, List.mem_cons_self, z⟩
                  · exact Or.inr ((wsI15.t wsI16).keep (z))
                · by_cases y2 : p = s + (ln ns (nd ns n).2.1 + plus2 (b1 ns n))
                  · subst y2; exact Or.inr (wsI16.keep (wpI15))
                  · rcases hplI16.2.2.2.2 p (by omega) (by omega) with z | z
                    · exact Or.inl ⟨_, List.mem_cons_of_mem _ List.mem_cons_self, z⟩
                    · exact Or.inr z
            · refine r_bipush (v := nI 38) (pc2 := 192) d_Sp_spellNode_190 rfl (by decide) ?_
              refine r_goto (tgt := 197) d_Sp_spellNode_192 rfl ?_
              rw [if_pos (by omega)] at hl1
              refine r_callv (M2 := mi_Sp_put) (pc2 := 200) d_Sp_spellNode_197 rfl k_Sp_74 cm_Sp_put cv_Sp_put (sh_740 hS) (by decide) rfl rfl rfl (Nat.le_of_ble_eq_true rfl) (c_Sp_put (J := I13) hS hR (a := s + (ln ns (nd ns n).2.1 + plus2 (b1 ns n))) (v := nI 38) (by omega)) (d2 := d - 1) (by omega) (Nat.le_of_eq (Nat.zero_add _)) (Nat.le_of_eq (Nat.zero_add _)) (fun r2 h2 hq2 => ?_)
              obtain ⟨rfl, I17, rfl, hI17⟩ := hq2
              have hC := hC.c hc (fun a j q => rd_ne hI17 (by omega))
              have hLn : ∀ j, j < n → I17 741 j = nI (ln ns j) := fun j hj => (rd_ne hI17 (by decide)).trans (hLn j hj)
              refine r_aload_n (x := some 740) (pc2 := 201) d_Sp_spellNode_200 rfl rfl ?_
              refine r_aload_n (x := some c) (pc2 := 202) d_Sp_spellNode_201 rfl rfl ?_
              refine r_iload_n (pc2 := 203) d_Sp_spellNode_202 rfl rfl ?_
              refine r_iconst (v := nI 2) (pc2 := 204) d_Sp_spellNode_203 rfl (by decide) ?_
              refine r_iload (pc2 := 206) d_Sp_spellNode_204 rfl rfl ?_
              refine r_iconst (v := nI 1) (pc2 := 207) d_Sp_spellNode_206 rfl (by decide) ?_
              refine q_iaddN (pc2 := 208) d_Sp_spellNode_207 rfl ?_
              refine r_callv (M2 := mi_Sp_placePart) (pc2 := 211) d_Sp_spellNode_208 rfl k_Sp_78 cm_Sp_placePart cv_Sp_placePart (sh_740 hS) (by decide) rfl rfl rfl (Nat.le_of_ble_eq_true rfl) (k_Sp_placePart_2 (J := I17) hS hR hC hv hl hn hW (q := s + (ln ns (nd ns n).2.1 + plus2 (b1 ns n)) + 1) (by omega) hcs2 (hLn _ (by omega)) (by omega)) (d2 := d - 1) (by omega) (Nat.le_of_eq (Nat.zero_add _)) (Nat.le_of_eq (Nat.zero_add _)) (fun r2 h2 hq2 => ?_)
              obtain ⟨rfl, I18, rfl, hplI18⟩ := hq2
              have hC := hC.c hc (fun a j q => hplI18.1 a j (by omega) (by omega))
              have hLn : ∀ j, j < n → I18 741 j = nI (ln ns j) := fun j hj => (hplI18.1 _ _ (by decide) (by decide)).trans (hLn j hj)
              refine r_goto (tgt := 221) d_Sp_spellNode_211 rfl ?_
              refine Run.ret none d_Sp_spellNode_221 rfl ?_
              have wsI13 := hplI13.ws
              obtain ⟨wsI17, wpI17, wqI17⟩ := WS.put hI17 (W := W) (by omega) (by first | exact hl1 | (rw [hl1]))
              have wsI18 := hplI18.ws
              have hxy2 := hxy (by omega)
              refine ⟨rfl, _, rfl, [((nd ns n).2.1, s + off (b1 ns n)), ((nd ns n).2.2.1, s + (ln ns (nd ns n).2.1 + plus2 (b1 ns n)) + 1 + off (b2 ns n))], by unfold chN; rw [if_neg (by omega), if_pos (by omega)]; rfl, ((wsI13.t wsI17).t wsI18), fun x hx => ?_, fun j hj => (hplI18.2.2.1 j (hj ((nd ns n).2.2.1, s + (ln ns (nd ns n).2.1 + plus2 (b1 ns n)) + 1 + off (b2 ns n)) (List.mem_cons_of_mem _ List.mem_cons_self))).trans ((wqI17 j).trans (hplI13.2.2.1 j (hj _ List.mem_cons_self))), fun p q1 q2 => ?_⟩
              · rcases List.mem_cons.mp hx with y | y
                · rw [y]; exact ⟨(hplI18.2.2.1 _ hxy2).trans ((wqI17 _).trans hplI13.2.1), hcs1.bk.1⟩
                · rw [List.mem_singleton.mp y]; exact ⟨hplI18.2.1, hcs2.bk.1⟩
              · rw [ln_7 hv hn (by omega)] at q2
                by_cases y : p < s + (ln ns (nd ns n).2.1 + plus2 (b1 ns n))
                · rcases hplI13.2.2.2.2 p q1 y with z | z
                  · exact Or.inl ⟨_, List.mem_cons_self, z⟩
                  · exact Or.inr ((wsI17.t wsI18).keep (z))
                · by_cases y2 : p = s + (ln ns (nd ns n).2.1 + plus2 (b1 ns n))
                  · subst y2; exact Or.inr (wsI18.keep (wpI17))
                  · rcases hplI18.2.2.2.2 p (by omega) (by omega) with z | z
                    · exact Or.inl ⟨_, List.mem_cons_of_mem _ List.mem_cons_self, z⟩
                    · exact Or.inr z
      · obtain ⟨hs6, hs7⟩ := hv.v6 n hn (by omega)
        rw [tx_eq hv hn, if_neg (by omega), if_neg (by omega), if_neg (by omega), if_pos (by omega)] at hcs
        obtain ⟨hW1, hl1, hcs⟩ := hcs.hd
        obtain ⟨hc1, hcs⟩ := hcs.app
        rw [(spn_g hs6).1] at hcs
        obtain ⟨hW2, hl2, hc2⟩ := hcs.hd
        have hW3 := hc2.1
        rw [(spn_g hs7).1] at hW3
        refine r_aload_n (x := some 740) (pc2 := 100) d_Sp_spellNode_99 rfl rfl ?_
        refine r_iload_n (pc2 := 101) d_Sp_spellNode_100 rfl rfl ?_
        refine r_bipush (v := nI 35) (pc2 := 103) d_Sp_spellNode_101 rfl (by decide) ?_
        refine r_callv (M2 := mi_Sp_put) (pc2 := 106) d_Sp_spellNode_103 rfl k_Sp_74 cm_Sp_put cv_Sp_put (sh_740 hS) (by decide) rfl rfl rfl (Nat.le_of_ble_eq_true rfl) (c_Sp_put (J := J) hS hR (a := s) (v := nI 35) (by omega)) (d2 := d - 1) (by omega) (Nat.le_of_eq (Nat.zero_add _)) (Nat.le_of_eq (Nat.zero_add _)) (fun r2 h2 hq2 => ?_)
        obtain ⟨rfl, I19, rfl, hI19⟩ := hq2
        have hC := hC.c hc (fun a j q => rd_ne hI19 (by omega))
        have hLn : ∀ j, j < n → I19 741 j = nI (ln ns j) := fun j hj => (rd_ne hI19 (by decide)).trans (hLn j hj)
        refine r_aload_n (x := some 740) (pc2 := 107) d_Sp_spellNode_106 rfl rfl ?_
        refine r_iload_n (pc2 := 108) d_Sp_spellNode_107 rfl rfl ?_
        refine r_iconst (v := nI 1) (pc2 := 109) d_Sp_spellNode_108 rfl (by decide) ?_
        refine q_iaddN (pc2 := 110) d_Sp_spellNode_109 rfl ?_
        refine r_aload_n (x := some c) (pc2 := 111) d_Sp_spellNode_110 rfl rfl ?_
        refine q_getR (x := some (c + 2)) (pc2 := 114) d_Sp_spellNode_111 rfl k_Sp_57 rfl hC.1.1 hC.2.1.2.1 ?_
        refine r_iload_n (pc2 := 115) d_Sp_spellNode_114 rfl rfl ?_
        refine q_iaload (q := n) (x := nI ((nd ns n).2.1)) (pc2 := 116) d_Sp_spellNode_115 rfl hC.1.2.2.1 (nI_toInt (by omega)) (by omega) ((hC.2.2 n (by omega)).2.1) ?_
        refine r_callv (M2 := mi_Sp_putNumber) (pc2 := 119) d_Sp_spellNode_116 rfl k_Sp_85 cm_Sp_putNumber cv_Sp_putNumber (sh_740 hS) (by decide) rfl rfl rfl (Nat.le_of_ble_eq_true rfl) (c_Sp_putNumber (J := I19) hS hR (s := s + 1) (v := (nd ns n).2.1) (by omega) (by omega) (by omega) (by omega)) (d2 := d - 1) (by omega) (Nat.le_of_eq (Nat.zero_add _)) (Nat.le_of_eq (Nat.zero_add _)) (fun r2 h2 hq2 => ?_)
        obtain ⟨rfl, I20, rfl, hn1I20, hn2I20⟩ := hq2
        have hC := hC.c hc (fun a j q => hn2I20 a j (by omega))
        have hLn : ∀ j, j < n → I20 741 j = nI (ln ns j) := fun j hj => (hn2I20 _ _ (by omega)).trans (hLn j hj)
        refine r_istore (pc2 := 121) d_Sp_spellNode_119 rfl (Nat.le_of_ble_eq_true rfl) ?_
        refine r_aload_n (x := some 740) (pc2 := 122) d_Sp_spellNode_121 rfl rfl ?_
        refine r_iload (pc2 := 124) d_Sp_spellNode_122 rfl rfl ?_
        refine r_bipush (v := nI 45) (pc2 := 126) d_Sp_spellNode_124 rfl (by decide) ?_
        refine r_callv (M2 := mi_Sp_put) (pc2 := 129) d_Sp_spellNode_126 rfl k_Sp_74 cm_Sp_put cv_Sp_put (sh_740 hS) (by decide) rfl rfl rfl (Nat.le_of_ble_eq_true rfl) (c_Sp_put (J := I20) hS hR (a := s + 1 + dgN (nd ns n).2.1) (v := nI 45) (by omega)) (d2 := d - 1) (by omega) (Nat.le_of_eq (Nat.zero_add _)) (Nat.le_of_eq (Nat.zero_add _)) (fun r2 h2 hq2 => ?_)
        obtain ⟨rfl, I21, rfl, hI21⟩ := hq2
        have hC := hC.c hc (fun a j q => rd_ne hI21 (by omega))
        have hLn : ∀ j, j < n → I21 741 j = nI (ln ns j) := fun j hj => (rd_ne hI21 (by decide)).trans (hLn j hj)
        refine r_aload_n (x := some 740) (pc2 := 130) d_Sp_spellNode_129 rfl rfl ?_
        refine r_iload (pc2 := 132) d_Sp_spellNode_130 rfl rfl ?_
        refine r_iconst (v := nI 1) (pc2 := 133) d_Sp_spellNode_132 rfl (by decide) ?_
        refine q_iaddN (pc2 := 134) d_Sp_spellNode_133 rfl ?_
        refine r_aload_n (x := some c) (pc2 := 135) d_Sp_spellNode_134 rfl rfl ?_
        refine q_getR (x := some (c + 3)) (pc2 := 138) d_Sp_spellNode_135 rfl k_Sp_63 rfl hC.1.1 hC.2.1.2.2.1 ?_
        refine r_iload_n (pc2 := 139) d_Sp_spellNode_138 rfl rfl ?_
        refine q_iaload (q := n) (x := nI ((nd ns n).2.2.1)) (pc2 := 140) d_Sp_spellNode_139 rfl hC.1.2.2.2.1 (nI_toInt (by omega)) (by omega) ((hC.2.2 n (by omega)).2.2.1 (by omega)) ?_
        refine r_callv (M2 := mi_Sp_putNumber) (pc2 := 143) d_Sp_spellNode_140 rfl k_Sp_85 cm_Sp_putNumber cv_Sp_putNumber (sh_740 hS) (by decide) rfl rfl rfl (Nat.le_of_ble_eq_true rfl) (c_Sp_putNumber (J := I21) hS hR (s := s + 1 + dgN (nd ns n).2.1 + 1) (v := (nd ns n).2.2.1) (by omega) (by omega) (by omega) (by omega)) (d2 := d - 1) (by omega) (Nat.le_of_eq (Nat.zero_add _)) (Nat.le_of_eq (Nat.zero_add _)) (fun r2 h2 hq2 => ?_)
        obtain ⟨rfl, I22, rfl, hn1I22, hn2I22⟩ := hq2
        have hC := hC.c hc (fun a j q => hn2I22 a j (by omega))
        have hLn : ∀ j, j < n → I22 741 j = nI (ln ns j) := fun j hj => (hn2I22 _ _ (by omega)).trans (hLn j hj)
        refine r_pop (pc2 := 144) d_Sp_spellNode_143 rfl rfl ?_
        refine r_goto (tgt := 221) d_Sp_spellNode_144 rfl ?_
        refine Run.ret none d_Sp_spellNode_221 rfl ?_
        obtain ⟨wsI19, wpI19, wqI19⟩ := WS.put hI19 (W := W) (by omega) (by first | exact hl1 | (rw [hl1]))
        obtain ⟨wsI20, wpI20, wqI20⟩ := WS.num (W := W) (by omega) hc1 hn1I20 hn2I20
        obtain ⟨wsI21, wpI21, wqI21⟩ := WS.put hI21 (W := W) (by omega) (by first | exact hl2 | (rw [hl2]))
        obtain ⟨wsI22, wpI22, wqI22⟩ := WS.num (W := W) (by omega) hc2 hn1I22 hn2I22
        refine ⟨rfl, _, rfl, [], by unfold chN; rw [if_neg (by omega), if_neg (by omega)]; rfl, (((wsI19.t wsI20).t wsI21).t wsI22), fun x hx => absurd hx List.not_mem_nil, fun j _ => (wqI22 j).trans ((wqI21 j).trans ((wqI20 j).trans (wqI19 j))), fun p q1 q2 => Or.inr ?_⟩
        rw [ln_6 hv hn (by omega)] at q2
        rcases (show p = s ∨ (s + 1 ≤ p ∧ p < s + 1 + dgN (nd ns n).2.1) ∨ p = s + 1 + dgN (nd ns n).2.1 ∨ (s + 1 + dgN (nd ns n).2.1 + 1 ≤ p ∧ p < s + 1 + dgN (nd ns n).2.1 + 1 + dgN (nd ns n).2.2.1) by omega) with y | y | y | y
        · subst y; exact (((wsI20.t wsI21).t wsI22).keep (wpI19))
        · exact ((wsI21.t wsI22).keep (wpI20 p y.1 y.2))
        · subst y; exact (wsI22.keep (wpI21))
        · exact (wpI22 p y.1 y.2)
    · rw [tx_eq hv hn, if_neg (by omega), if_neg (by omega), if_pos (by omega)] at hcs
      obtain ⟨hW1, hl1, hcs⟩ := hcs.hd
      obtain ⟨hW2, hl2, hcs⟩ := hcs.hd
      obtain ⟨hW3, hl3, -⟩ := hcs.hd
      refine r_aload_n (x := some 740) (pc2 := 47) d_Sp_spellNode_46 rfl rfl ?_
      refine r_iload_n (pc2 := 48) d_Sp_spellNode_47 rfl rfl ?_
      refine r_bipush (v := nI 97) (pc2 := 50) d_Sp_spellNode_48 rfl (by decide) ?_
      refine r_aload_n (x := some c) (pc2 := 51) d_Sp_spellNode_50 rfl rfl ?_
      refine q_getR (x := some (c + 2)) (pc2 := 54) d_Sp_spellNode_51 rfl k_Sp_57 rfl hC.1.1 hC.2.1.2.1 ?_
      refine r_iload_n (pc2 := 55) d_Sp_spellNode_54 rfl rfl ?_
      refine q_iaload (q := n) (x := nI ((nd ns n).2.1)) (pc2 := 56) d_Sp_spellNode_55 rfl hC.1.2.2.1 (nI_toInt (by omega)) (by omega) ((hC.2.2 n (by omega)).2.1) ?_
      refine q_iaddN (pc2 := 57) d_Sp_spellNode_56 rfl ?_
      refine r_callv (M2 := mi_Sp_put) (pc2 := 60) d_Sp_spellNode_57 rfl k_Sp_74 cm_Sp_put cv_Sp_put (sh_740 hS) (by decide) rfl rfl rfl (Nat.le_of_ble_eq_true rfl) (c_Sp_put (J := J) hS hR (a := s) (v := nI (97 + ((nd ns n).2.1))) (by omega)) (d2 := d - 1) (by omega) (Nat.le_of_eq (Nat.zero_add _)) (Nat.le_of_eq (Nat.zero_add _)) (fun r2 h2 hq2 => ?_)
      obtain ⟨rfl, I23, rfl, hI23⟩ := hq2
      have hC := hC.c hc (fun a j q => rd_ne hI23 (by omega))
      have hLn : ∀ j, j < n → I23 741 j = nI (ln ns j) := fun j hj => (rd_ne hI23 (by decide)).trans (hLn j hj)
      refine r_aload_n (x := some 740) (pc2 := 61) d_Sp_spellNode_60 rfl rfl ?_
      refine r_iload_n (pc2 := 62) d_Sp_spellNode_61 rfl rfl ?_
      refine r_iconst (v := nI 1) (pc2 := 63) d_Sp_spellNode_62 rfl (by decide) ?_
      refine q_iaddN (pc2 := 64) d_Sp_spellNode_63 rfl ?_
      refine r_aload_n (x := some c) (pc2 := 65) d_Sp_spellNode_64 rfl rfl ?_
      refine q_getR (x := some (c + 4)) (pc2 := 68) d_Sp_spellNode_65 rfl k_Sp_82 rfl hC.1.1 hC.2.1.2.2.2.1 ?_
      refine r_iload_n (pc2 := 69) d_Sp_spellNode_68 rfl rfl ?_
      refine q_iaload (q := n) (x := nI ((nd ns n).2.2.2)) (pc2 := 70) d_Sp_spellNode_69 rfl hC.1.2.2.2.2.1 (nI_toInt (by omega)) (by omega) ((hC.2.2 n (by omega)).2.2.2) ?_
      refine r_callv (M2 := mi_Sp_put) (pc2 := 73) d_Sp_spellNode_70 rfl k_Sp_74 cm_Sp_put cv_Sp_put (sh_740 hS) (by decide) rfl rfl rfl (Nat.le_of_ble_eq_true rfl) (c_Sp_put (J := I23) hS hR (a := s + 1) (v := nI ((nd ns n).2.2.2)) (by omega)) (d2 := d - 1) (by omega) (Nat.le_of_eq (Nat.zero_add _)) (Nat.le_of_eq (Nat.zero_add _)) (fun r2 h2 hq2 => ?_)
      obtain ⟨rfl, I24, rfl, hI24⟩ := hq2
      have hC := hC.c hc (fun a j q => rd_ne hI24 (by omega))
      have hLn : ∀ j, j < n → I24 741 j = nI (ln ns j) := fun j hj => (rd_ne hI24 (by decide)).trans (hLn j hj)
      refine r_aload_n (x := some 740) (pc2 := 74) d_Sp_spellNode_73 rfl rfl ?_
      refine r_iload_n (pc2 := 75) d_Sp_spellNode_74 rfl rfl ?_
      refine r_iconst (v := nI 2) (pc2 := 76) d_Sp_spellNode_75 rfl (by decide) ?_
      refine q_iaddN (pc2 := 77) d_Sp_spellNode_76 rfl ?_
      refine r_bipush (v := nI 48) (pc2 := 79) d_Sp_spellNode_77 rfl (by decide) ?_
      refine r_aload_n (x := some c) (pc2 := 80) d_Sp_spellNode_79 rfl rfl ?_
      refine q_getR (x := some (c + 3)) (pc2 := 83) d_Sp_spellNode_80 rfl k_Sp_63 rfl hC.1.1 hC.2.1.2.2.1 ?_
      refine r_iload_n (pc2 := 84) d_Sp_spellNode_83 rfl rfl ?_
      refine q_iaload (q := n) (x := nI ((nd ns n).2.2.1)) (pc2 := 85) d_Sp_spellNode_84 rfl hC.1.2.2.2.1 (nI_toInt (by omega)) (by omega) ((hC.2.2 n (by omega)).2.2.1 (by omega)) ?_
      refine q_iaddN (pc2 := 86) d_Sp_spellNode_85 rfl ?_
      refine r_callv (M2 := mi_Sp_put) (pc2 := 89) d_Sp_spellNode_86 rfl k_Sp_74 cm_Sp_put cv_Sp_put (sh_740 hS) (by decide) rfl rfl rfl (Nat.le_of_ble_eq_true rfl) (c_Sp_put (J := I24) hS hR (a := s + 2) (v := nI (48 + ((nd ns n).2.2.1))) (by omega)) (d2 := d - 1) (by omega) (Nat.le_of_eq (Nat.zero_add _)) (Nat.le_of_eq (Nat.zero_add _)) (fun r2 h2 hq2 => ?_)
      obtain ⟨rfl, I25, rfl, hI25⟩ := hq2
      have hC := hC.c hc (fun a j q => rd_ne hI25 (by omega))
      have hLn : ∀ j, j < n → I25 741 j = nI (ln ns j) := fun j hj => (rd_ne hI25 (by decide)).trans (hLn j hj)
      refine r_goto (tgt := 221) d_Sp_spellNode_89 rfl ?_
      refine Run.ret none d_Sp_spellNode_221 rfl ?_
      obtain ⟨wsI23, wpI23, wqI23⟩ := WS.put hI23 (W := W) (by omega) (by first | exact hl1 | (rw [hl1]))
      obtain ⟨wsI24, wpI24, wqI24⟩ := WS.put hI24 (W := W) (by omega) (by first | exact hl2 | (rw [hl2]))
      obtain ⟨wsI25, wpI25, wqI25⟩ := WS.put hI25 (W := W) (by omega) (by first | exact hl3 | (rw [hl3]))
      refine ⟨rfl, _, rfl, [], by unfold chN; rw [if_neg (by omega), if_neg (by omega)]; rfl, ((wsI23.t wsI24).t wsI25), fun x hx => absurd hx List.not_mem_nil, fun j _ => (wqI25 j).trans ((wqI24 j).trans (wqI23 j)), fun p q1 q2 => Or.inr ?_⟩
      rw [ln_5 hv hn (by omega)] at q2
      rcases (show p = s ∨ p = s + 1 ∨ p = s + 2 by omega) with y | y | y <;> subst y
      · exact ((wsI24.t wsI25).keep (wpI23))
      · exact (wsI25.keep (wpI24))
      · exact (wpI25)
  · rw [tx_3 hv hn (by omega)] at hcs
    obtain ⟨hW1, hl1, hcs1⟩ := hcs.hd
    have hx := hv2 (Or.inl (by omega))
    refine r_aload_n (x := some 740) (pc2 := 21) d_Sp_spellNode_20 rfl rfl ?_
    refine r_iload_n (pc2 := 22) d_Sp_spellNode_21 rfl rfl ?_
    refine r_bipush (v := nI 33) (pc2 := 24) d_Sp_spellNode_22 rfl (by decide) ?_
    refine r_callv (M2 := mi_Sp_put) (pc2 := 27) d_Sp_spellNode_24 rfl k_Sp_74 cm_Sp_put cv_Sp_put (sh_740 hS) (by decide) rfl rfl rfl (Nat.le_of_ble_eq_true rfl) (c_Sp_put (J := J) hS hR (a := s) (v := nI 33) (by omega)) (d2 := d - 1) (by omega) (Nat.le_of_eq (Nat.zero_add _)) (Nat.le_of_eq (Nat.zero_add _)) (fun r2 h2 hq2 => ?_)
    obtain ⟨rfl, I26, rfl, hI26⟩ := hq2
    have hC := hC.c hc (fun a j q => rd_ne hI26 (by omega))
    have hLn : ∀ j, j < n → I26 741 j = nI (ln ns j) := fun j hj => (rd_ne hI26 (by decide)).trans (hLn j hj)
    refine r_aload_n (x := some 740) (pc2 := 28) d_Sp_spellNode_27 rfl rfl ?_
    refine r_aload_n (x := some c) (pc2 := 29) d_Sp_spellNode_28 rfl rfl ?_
    refine r_iload_n (pc2 := 30) d_Sp_spellNode_29 rfl rfl ?_
    refine r_iconst (v := nI 1) (pc2 := 31) d_Sp_spellNode_30 rfl (by decide) ?_
    refine r_iload_n (pc2 := 32) d_Sp_spellNode_31 rfl rfl ?_
    refine r_iconst (v := nI 1) (pc2 := 33) d_Sp_spellNode_32 rfl (by decide) ?_
    refine q_iaddN (pc2 := 34) d_Sp_spellNode_33 rfl ?_
    refine r_callv (M2 := mi_Sp_placePart) (pc2 := 37) d_Sp_spellNode_34 rfl k_Sp_78 cm_Sp_placePart cv_Sp_placePart (sh_740 hS) (by decide) rfl rfl rfl (Nat.le_of_ble_eq_true rfl) (k_Sp_placePart_1 (J := I26) hS hR hC hv hl hn hW (q := s + 1) (by omega) hcs1 (hLn _ (by omega)) (by omega)) (d2 := d - 1) (by omega) (Nat.le_of_eq (Nat.zero_add _)) (Nat.le_of_eq (Nat.zero_add _)) (fun r2 h2 hq2 => ?_)
    obtain ⟨rfl, I27, rfl, hplI27⟩ := hq2
    have hC := hC.c hc (fun a j q => hplI27.1 a j (by omega) (by omega))
    have hLn : ∀ j, j < n → I27 741 j = nI (ln ns j) := fun j hj => (hplI27.1 _ _ (by decide) (by decide)).trans (hLn j hj)
    refine r_goto (tgt := 221) d_Sp_spellNode_37 rfl ?_
    refine Run.ret none d_Sp_spellNode_221 rfl ?_
    obtain ⟨wsI26, wpI26, wqI26⟩ := WS.put hI26 (W := W) (by omega) (by first | exact hl1 | (rw [hl1]))
    have wsI27 := hplI27.ws
    refine ⟨rfl, _, rfl, [((nd ns n).2.1, s + 1 + off (b1 ns n))], by unfold chN; rw [if_pos (by omega)]; rfl, (wsI26.t wsI27), fun x hx => ?_, fun j hj => (hplI27.2.2.1 j (hj _ List.mem_cons_self)).trans (wqI26 j), fun p q1 q2 => ?_⟩
    · rw [List.mem_singleton.mp hx]; exact ⟨hplI27.2.1, hcs1.bk.1⟩
    · rw [ln_3 hv hn (by omega)] at q2
      by_cases y : p = s
      · subst y; exact Or.inr (wsI27.keep (wpI26))
      · rcases hplI27.2.2.2.2 p (by omega) (by omega) with z | z
        · exact Or.inl ⟨_, List.mem_cons_self, z⟩
        · exact Or.inr z
