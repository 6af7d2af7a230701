/-! THE SPELLER: from the root down -/
/-- nodes whose trees tile the nodes below k -/
def TLs (ns : List Nd) : Nat → List Nat → Prop
  | k, [] => k = 0
  | k, t :: St => t + 1 = k ∧ ∃ lo, lo ≤ t ∧ PF ns lo t ∧ TLs ns lo St
theorem TLs.lt {ns : List Nd} : ∀ {St : List Nat} {k : Nat}, TLs ns k St → ∀ j ∈ St, j < k
  | [], _, _, j, hj => absurd hj List.not_mem_nil
  | t :: St, k, ⟨h1, lo, h2, _, h4⟩, j, hj => by
    rcases List.mem_cons.mp hj with q | q
    · omega
    · have := TLs.lt h4 j q; omega
/-- a node gives way to its parts -/
theorem TLs.st {ns : List Nd} {t : Nat} {St : List Nat} {lo : Nat} (hv : NV ns) (ht : t < ns.length) (h1 : lo ≤ t) (h2 : PF ns lo t) (h3 : TLs ns lo St) : TLs ns t ((chN ns t).reverse ++ St) ∧ (∀ x ∈ chN ns t, lo ≤ x ∧ x < t) ∧ (7 ≤ (nd ns t).1 → (nd ns t).2.1 ≠ (nd ns t).2.2.1) := by
  unfold PF PFt at h2
  unfold chN
  by_cases c3 : (nd ns t).1 = 3
  · rw [if_pos c3] at h2 ⊢
    obtain ⟨⟨a1, a2⟩, a3⟩ := h2
    have e : t - 1 + 1 = t := by omega
    refine ⟨⟨by omega, lo, by omega, ?_, h3⟩, fun x hx => by rw [List.mem_singleton.mp hx]; omega, fun z => by omega⟩
    rw [a2]
    exact PFt_p (fun _ _ => rfl) _ _ lo (t - 1) (by omega) (by omega) a3
  · rw [if_neg c3] at h2 ⊢
    by_cases c7 : 7 ≤ (nd ns t).1
    · rw [if_pos c7] at h2 ⊢
      obtain ⟨⟨a1, a2, a3, a4⟩, a5, a6⟩ := h2
      refine ⟨⟨by omega, (nd ns t).2.1 + 1, by omega, ?_, rfl, lo, a3, PFt_p (fun _ _ => rfl) _ _ lo _ (by omega) (by omega) a5, h3⟩, fun x hx => ?_, fun _ => by omega⟩
      · rw [a2]; exact PFt_p (fun _ _ => rfl) _ _ _ (t - 1) (by omega) (by omega) a6
      · rcases List.mem_cons.mp hx with q | q
        · omega
        · rw [List.mem_singleton.mp q]; omega
    · rw [if_neg c7] at h2 ⊢
      exact ⟨by rw [← h2]; exact h3, fun x hx => absurd hx List.not_mem_nil, fun z => absurd z c7⟩
/-- what holds while nodes below k are not yet spelled -/
def SPI (W : List Int32) (ns : List Nd) (St : List Nat) (K : Nat → Nat → Int32) : Prop := (∀ j ∈ St, ∃ s, K 742 j = nI s ∧ CS W s (tx ns j)) ∧ ∀ p, p < W.length → K 743 p = W.getD p 0 ∨ ∃ j ∈ St, ∃ s, K 742 j = nI s ∧ s ≤ 1000 ∧ s ≤ p ∧ p < s + ln ns j
theorem SPI.st {W : List Int32} {ns : List Nd} {t lo s : Nat} {St : List Nat} {ch : List (Nat × Nat)} {J K : Nat → Nat → Int32} (hW : W.length ≤ 256) (h : SPI W ns (t :: St) J) (hs : J 742 t = nI s) (hcs : CS W s (tx ns t)) (hc : ch.map Prod.fst = chN ns t) (hS : SNP W ns t s ch J K) (hch : ∀ x ∈ chN ns t, lo ≤ x ∧ x < t) (hlt : ∀ j ∈ St, j < lo) : SPI W ns ((chN ns t).reverse ++ St) K := by
  obtain ⟨w, a, b, c⟩ := hS
  have hmem : ∀ x ∈ ch, x.1 ∈ chN ns t := fun x hx => by rw [← hc]; exact List.mem_map_of_mem hx
  have old : ∀ j ∈ St, K 742 j = J 742 j := fun j hj => b j (fun x hx e => by have := hch _ (hmem x hx); have := hlt j hj; omega)
  refine ⟨fun j hj => ?_, fun p hp => ?_⟩
  · rcases List.mem_append.mp hj with q | q
    · rw [List.mem_reverse, ← hc] at q
      obtain ⟨x, hx, rfl⟩ := List.mem_map.mp q
      exact ⟨x.2, a x hx⟩
    · obtain ⟨s2, h1, h2⟩ := h.1 j (List.mem_cons_of_mem _ q)
      exact ⟨s2, (old j q).trans h1, h2⟩
  · rcases h.2 p hp with q | ⟨j, hj, s2, h1, h2, h3, h4⟩
    · exact Or.inl (w.keep q)
    · rcases List.mem_cons.mp hj with q | q
      · subst q
        have hs1 := hcs.1
        have e : s2 = s := by
          have e1 : (nI s2).toInt = (nI s).toInt := by rw [← h1, hs]
          rw [nI_toInt (by omega), nI_toInt (by omega)] at e1
          omega
        subst e
        rcases c p h3 h4 with ⟨x, hx, z1, z2⟩ | z
        · have hx2 := a x hx
          have hx3 := hx2.2.1
          exact Or.inr ⟨x.1, List.mem_append.mpr (Or.inl (by rw [List.mem_reverse]; exact hmem x hx)), x.2, hx2.1, by omega, z1, z2⟩
        · exact Or.inl z
      · exact Or.inr ⟨j, List.mem_append.mpr (Or.inr q), s2, (old j q).trans h1, h2, h3, h4⟩
theorem l_Sp_spell {d : Nat} {J : Nat → Nat → Int32} {R : Nat → Nat → Option Nat} {L : Nat → Nat → Int64} {sh : Nat → Nat × Nat} {N : Nat} (hS : ShOK sh) (hR : RfOK R) {c q : Nat} {ns : List Nd} (hC0 : CoK c ns J R sh) (hc : 781 ≤ c) (hv : NV ns) (hl : ns.length < 250) {W : List Int32} (hW : W.length ≤ 256) (hL : ∀ j, j < ns.length → J 741 j = nI (ln ns j)) (hd : 8 ≤ d) {Q : Option Value → HS → Prop} (hk : ∀ J1, (∀ p, p < W.length → J1 743 p = W.getD p 0) → (∀ a j, a ≠ 742 → a ≠ 743 → J1 a j = J a j) → Run mi_Sp_spell d 0 0 68 [(0, .ref 740), (1, .ref q), (2, .ref c)] [] (J1, R, L, sh, N) Q) : ∀ (n_ : Nat) (k : Nat) (St : List Nat) (J1 : Nat → Nat → Int32), k = n_ → (TLs ns k St) → (SPI W ns St J1) → (∀ a j, a ≠ 742 → a ≠ 743 → J1 a j = J a j) → (k ≤ ns.length) → Run mi_Sp_spell d 0 0 52 [(0, .ref 740), (1, .ref q), (2, .ref c), (3, .int (nI k - nI 1))] [] (J1, R, L, sh, N) Q := by
  intro n_
  induction n_ using Nat.strongRecOn with | ind n_ ih_ => ?_
  intro k St J1 hn_ v0_ v1_ v2_ v3_
  have hC : CoK c ns J1 R sh := hC0.c hc (fun a j q => v2_ a j (by omega) (by omega))
  refine r_iload_n (pc2 := 53) d_Sp_spell_52 rfl rfl ?_
  refine q_if_lt (tgt := 68) (A := (k : Int) - 1) (pc2 := 56) d_Sp_spell_53 rfl rfl (nI_sub_toInt (b := 1) (by omega) (by omega)) (fun c1 => ?_) (fun c1 => ?_)
  · refine Run.sub (l2 := [(0, .ref 740), (1, .ref q), (2, .ref c)]) ⟨rfl, rfl, rfl, trivial⟩ ?_
    obtain rfl : k = 0 := by omega
    cases St with
    | cons t2 St => exact absurd v0_.1 (by omega)
    | nil =>
      refine hk J1 (fun p hp => ?_) v2_
      rcases v1_.2 p hp with z | ⟨j, hj, -⟩
      · exact z
      · exact absurd hj List.not_mem_nil
  · obtain ⟨t, rfl⟩ : ∃ t, k = t + 1 := ⟨k - 1, by omega⟩
    rw [show (nI (t + 1) - nI 1 : Int32) = nI t from eq_nI (by rw [nI_sub_toInt (by omega) (by omega)]; omega)]
    cases St with
    | nil => exact absurd (show t + 1 = 0 from v0_) (by omega)
    | cons t2 St =>
      obtain ⟨ht2, lo, hlo, hpf, htl⟩ := v0_
      obtain rfl : t2 = t := by omega
      obtain ⟨hst1, hst2, hst3⟩ := htl.st hv (show t2 < ns.length by omega) hlo hpf
      obtain ⟨s, hs, hcs⟩ := v1_.1 t2 List.mem_cons_self
      refine r_aload_n (x := some 740) (pc2 := 57) d_Sp_spell_56 rfl rfl ?_
      refine r_aload_n (x := some c) (pc2 := 58) d_Sp_spell_57 rfl rfl ?_
      refine r_iload_n (pc2 := 59) d_Sp_spell_58 rfl rfl ?_
      refine r_callv (M2 := mi_Sp_spellNode) (pc2 := 62) d_Sp_spell_59 rfl k_Sp_41 cm_Sp_spellNode cv_Sp_spellNode (sh_740 hS) (by decide) rfl rfl rfl (Nat.le_of_ble_eq_true rfl) (k_Sp_spellNode (J := J1) hS hR hC hc hv hl (n := t2) (by omega) hW hs hcs (fun j hj => (v2_ _ _ (by decide) (by decide)).trans (hL j (by omega))) hst3 (by omega)) (d2 := d - 1) (by omega) (Nat.le_of_eq (Nat.zero_add _)) (Nat.le_of_eq (Nat.zero_add _)) (fun r2 h2 hq2 => ?_)
      obtain ⟨rfl, K, rfl, ch, hch, hsn⟩ := hq2
      obtain ⟨y2, ey2⟩ : ∃ y : Int32, y = nI t2 + Int32.ofInt (-1) := ⟨_, rfl⟩
      refine r_iinc (v := y2) (pc2 := 65) d_Sp_spell_62 rfl rfl ey2.symm (Nat.le_of_ble_eq_true rfl) ?_
      refine r_goto (tgt := 52) d_Sp_spell_65 rfl ?_
      obtain rfl : y2 = nI t2 - nI 1 := by rw [ey2, nI_pred2]
      refine Run.sub (l2 := [(0, .ref 740), (1, .ref q), (2, .ref c), (3, .int (nI t2 - nI 1))]) ⟨rfl, rfl, rfl, rfl, trivial⟩ ?_
      exact ih_ (t2) (by omega) t2 ((chN ns t2).reverse ++ St) K rfl (hst1) (v1_.st hW hs hcs hch hsn hst2 (fun j hj => htl.lt j hj)) (fun a j q1 q2 => (hsn.1.1 a j q1 q2).trans (v2_ a j q1 q2)) (by omega)
