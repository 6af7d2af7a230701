/-! ROWS as the walker uses them: numbers by names, what is read by what is known -/
def bI (p : Prop) [Decidable p] : Int32 := if p then 1 else 0
theorem bI_t {p : Prop} [Decidable p] (h : p) : bI p = 1 := if_pos h
theorem bI_f {p : Prop} [Decidable p] (h : ¬ p) : bI p = 0 := if_neg h
theorem bI_01 (p : Prop) [Decidable p] : bI p = 0 ∨ bI p = 1 := by
  by_cases h : p
  · exact Or.inr (bI_t h)
  · exact Or.inl (bI_f h)
theorem bI_congr {p q : Prop} [Decidable p] [Decidable q] (h : p ↔ q) : bI p = bI q := by
  by_cases hp : p
  · rw [bI_t hp, bI_t (h.mp hp)]
  · rw [bI_f hp, bI_f (fun z => hp (h.mpr z))]
theorem nI_sub_toInt {a b : Nat} (ha : a < 2 ^ 31) (hb : b < 2 ^ 31) : (nI a - nI b).toInt = (a : Int) - (b : Int) := by
  rw [Int32.toInt_sub, nI_toInt ha, nI_toInt hb]
  apply Int.bmod_eq_of_le <;> omega
theorem toInt_add_of {x y : Int32} {A B : Int} (hx : x.toInt = A) (hy : y.toInt = B) (h1 : -2147483648 ≤ A + B) (h2 : A + B < 2147483648) : (x + y).toInt = A + B := by
  rw [Int32.toInt_add, hx, hy]
  apply Int.bmod_eq_of_le <;> omega
theorem toInt_sub_of {x y : Int32} {A B : Int} (hx : x.toInt = A) (hy : y.toInt = B) (h1 : -2147483648 ≤ A - B) (h2 : A - B < 2147483648) : (x - y).toInt = A - B := by
  rw [Int32.toInt_sub, hx, hy]
  apply Int.bmod_eq_of_le <;> omega
theorem eq_nI {x : Int32} {n : Nat} (h : x.toInt = (n : Int)) : x = nI n := by
  have hlt : n < 2 ^ 31 := by have := x.toInt_lt; omega
  exact Int32.toInt_inj.mp (by rw [h, nI_toInt hlt])
theorem toInt64_toInt {x : Int32} {A : Int} (h : x.toInt = A) : x.toInt64.toInt = A := by rw [Int32.toInt_toInt64]; exact h
theorem rd_ne {α : Type} {I' I : Nat → Nat → α} {a k : Nat} {v : α} (h : I' = u2 I a k v) {b j : Nat} (hb : b ≠ a) : I' b j = I b j := by subst h; exact u2_ne hb
theorem rd_nk {α : Type} {I' I : Nat → Nat → α} {a k : Nat} {v : α} (h : I' = u2 I a k v) {b j : Nat} (hj : j ≠ k) : I' b j = I b j := by subst h; unfold u2; rw [if_neg (fun z => hj z.2)]
theorem rd_eq {α : Type} {I' I : Nat → Nat → α} {a k : Nat} {v : α} (h : I' = u2 I a k v) : I' a k = v := by subst h; unfold u2; rw [if_pos ⟨rfl, rfl⟩]
def Me (M : MI) (d ac az : Nat) (args : List Value) (h : HS) (r : Option Value) (h2 : HS) : Prop := Mt M d ac az args h (fun r' x => r' = r ∧ x = h2)
section QR
variable {M : MI} {d ac az pc : Nat} {ll : List (Nat × Value)} {st : List Value} {h : HS} {I : Nat → Nat → Int32} {R : Nat → Nat → Option Nat} {L : Nat → Nat → Int64} {sh : Nat → Nat × Nat} {N : Nat} {Q : Option Value → HS → Prop}
theorem q_iaddN {a b pc2 : Nat} (hdg : decode M.2.1 pc = .ok (.iadd, 1)) (hp : pc + 1 = pc2) (k : Run M d ac az pc2 ll (.int (nI (a + b)) :: st) h Q) : Run M d ac az pc ll (.int (nI b) :: .int (nI a) :: st) h Q := r_iadd hdg hp (by rw [nI_add]; exact k)
theorem q_imulN {a b pc2 : Nat} (hdg : decode M.2.1 pc = .ok (.imul, 1)) (hp : pc + 1 = pc2) (k : Run M d ac az pc2 ll (.int (nI (a * b)) :: st) h Q) : Run M d ac az pc ll (.int (nI b) :: .int (nI a) :: st) h Q := r_imul hdg hp (by rw [pk_mul]; exact k)
theorem q_isubN {a b pc2 : Nat} (hdg : decode M.2.1 pc = .ok (.isub, 1)) (hp : pc + 1 = pc2) (hab : b ≤ a) (k : Run M d ac az pc2 ll (.int (nI (a - b)) :: st) h Q) : Run M d ac az pc ll (.int (nI b) :: .int (nI a) :: st) h Q := r_isub hdg hp (by rw [pk_sub hab]; exact k)
theorem q_iaddV {x y : Int32} {A B : Int} {pc2 : Nat} (hdg : decode M.2.1 pc = .ok (.iadd, 1)) (hp : pc + 1 = pc2) (hx : x.toInt = A) (hy : y.toInt = B) (h1 : -2147483648 ≤ A + B ∧ A + B < 2147483648) (k : ∀ z : Int32, z = x + y → z.toInt = A + B → Run M d ac az pc2 ll (.int z :: st) h Q) : Run M d ac az pc ll (.int y :: .int x :: st) h Q := r_iadd hdg hp (k _ rfl (toInt_add_of hx hy h1.1 h1.2))
theorem q_isubV {x y : Int32} {A B : Int} {pc2 : Nat} (hdg : decode M.2.1 pc = .ok (.isub, 1)) (hp : pc + 1 = pc2) (hx : x.toInt = A) (hy : y.toInt = B) (h1 : -2147483648 ≤ A - B ∧ A - B < 2147483648) (k : ∀ z : Int32, z = x - y → z.toInt = A - B → Run M d ac az pc2 ll (.int z :: st) h Q) : Run M d ac az pc ll (.int y :: .int x :: st) h Q := r_isub hdg hp (k _ rfl (toInt_sub_of hx hy h1.1 h1.2))
/-- an answer's other name -/
theorem q_top {x y : Int32} (e : x = y) (k : Run M d ac az pc ll (.int y :: st) h Q) : Run M d ac az pc ll (.int x :: st) h Q := by rw [e]; exact k
theorem q_iinc {i : Nat} {n : Int} {a b : Nat} {pc2 : Nat} (hdg : decode M.2.1 pc = .ok (.iinc i n, 3)) (hp : pc + 3 = pc2) (hi : lget ll i = some (.int (nI a))) (hv : Int32.ofInt n = nI b) (hn : i < M.2.2.1) (k : Run M d ac az pc2 ((i, .int (nI (a + b))) :: ll) st h Q) : Run M d ac az pc ll st h Q := r_iinc hdg hp hi (by rw [hv, nI_add]) hn k
theorem q_getI {ix ci k id n pc2 : Nat} {x : Int32} (hdg : decode M.2.1 pc = .ok (.getfield ix, 3)) (hp : pc + 3 = pc2) (hf : bFl M.1.cls ix ci k) (hk : cKk ci k ≠ 2) (hs : sh id = (ci, n)) (hx : I id k = x) (kk : Run M d ac az pc2 ll (.int x :: st) (I, R, L, sh, N) Q) : Run M d ac az pc ll (.ref id :: st) (I, R, L, sh, N) Q := r_getI hdg hp hf hk hs (by rw [hx]; exact kk)
theorem q_getR {ix ci k id n pc2 : Nat} {x : Option Nat} (hdg : decode M.2.1 pc = .ok (.getfield ix, 3)) (hp : pc + 3 = pc2) (hf : bFl M.1.cls ix ci k) (hk : cKk ci k = 2) (hs : sh id = (ci, n)) (hx : R id k = x) (kk : Run M d ac az pc2 ll (rv x :: st) (I, R, L, sh, N) Q) : Run M d ac az pc ll (.ref id :: st) (I, R, L, sh, N) Q := r_getR hdg hp hf hk hs (by rw [hx]; exact kk)
theorem q_iaload {id n q pc2 : Nat} {j x : Int32} (hdg : decode M.2.1 pc = .ok (.iaload, 1)) (hp : pc + 1 = pc2) (hs : sh id = (12, n)) (hq : j.toInt = (q : Int)) (hlt : q < n) (hx : I id q = x) (kk : Run M d ac az pc2 ll (.int x :: st) (I, R, L, sh, N) Q) : Run M d ac az pc ll (.int j :: .ref id :: st) (I, R, L, sh, N) Q := r_iaload hdg hp hs hq hlt (by rw [hx]; exact kk)
theorem q_baload {id n q pc2 : Nat} {j x : Int32} (hdg : decode M.2.1 pc = .ok (.baload, 1)) (hp : pc + 1 = pc2) (hs : sh id = (14, n)) (hq : j.toInt = (q : Int)) (hlt : q < n) (hx : I id q = x) (kk : Run M d ac az pc2 ll (.int x :: st) (I, R, L, sh, N) Q) : Run M d ac az pc ll (.int j :: .ref id :: st) (I, R, L, sh, N) Q := r_baload hdg hp hs hq hlt (by rw [hx]; exact kk)
theorem q_laload {id n q pc2 : Nat} {j : Int32} {x : Int64} (hdg : decode M.2.1 pc = .ok (.laload, 1)) (hp : pc + 1 = pc2) (hs : sh id = (13, n)) (hq : j.toInt = (q : Int)) (hlt : q < n) (hx : L id q = x) (kk : Run M d ac az pc2 ll (.long x :: st) (I, R, L, sh, N) Q) : Run M d ac az pc ll (.int j :: .ref id :: st) (I, R, L, sh, N) Q := r_laload hdg hp hs hq hlt (by rw [hx]; exact kk)
theorem q_aaload {id n q pc2 kd : Nat} {j : Int32} {x : Option Nat} (hdg : decode M.2.1 pc = .ok (.aaload, 1)) (hp : pc + 1 = pc2) (hs : sh id = (kd, n)) (hk : 15 ≤ kd) (hk2 : kd < 18) (hq : j.toInt = (q : Int)) (hlt : q < n) (hx : R id q = x) (kk : Run M d ac az pc2 ll (rv x :: st) (I, R, L, sh, N) Q) : Run M d ac az pc ll (.int j :: .ref id :: st) (I, R, L, sh, N) Q := r_aaload hdg hp hs hk hk2 hq hlt (by rw [hx]; exact kk)
theorem q_putI {ix ci k id n pc2 : Nat} {x : Int32} (hdg : decode M.2.1 pc = .ok (.putfield ix, 3)) (hp : pc + 3 = pc2) (hf : bFl M.1.cls ix ci k) (hk : cKk ci k = 0 ∨ (cKk ci k = 1 ∧ (x = 0 ∨ x = 1))) (hs : sh id = (ci, n)) (hfin : (cT ci k).2.2.2 = false ∨ (M.1.name = "<init>" ∧ M.1.cls = cN ci)) (kk : ∀ I', I' = u2 I id k x → Run M d ac az pc2 ll st (I', R, L, sh, N) Q) : Run M d ac az pc ll (.int x :: .ref id :: st) (I, R, L, sh, N) Q := r_putI hdg hp hf hk hs hfin (kk _ rfl)
theorem q_putR {ix ci k id n pc2 : Nat} {x : Option Nat} (hdg : decode M.2.1 pc = .ok (.putfield ix, 3)) (hp : pc + 3 = pc2) (hf : bFl M.1.cls ix ci k) (hk : cKk ci k = 2) (hs : sh id = (ci, n)) (hfin : (cT ci k).2.2.2 = false ∨ (M.1.name = "<init>" ∧ M.1.cls = cN ci)) (kk : ∀ R', R' = u2 R id k x → Run M d ac az pc2 ll st (I, R', L, sh, N) Q) : Run M d ac az pc ll (rv x :: .ref id :: st) (I, R, L, sh, N) Q := r_putR hdg hp hf hk hs hfin (kk _ rfl)
theorem q_iastore {id n q pc2 : Nat} {j x : Int32} (hdg : decode M.2.1 pc = .ok (.iastore, 1)) (hp : pc + 1 = pc2) (hs : sh id = (12, n)) (hq : j.toInt = (q : Int)) (hlt : q < n) (kk : ∀ I', I' = u2 I id q x → Run M d ac az pc2 ll st (I', R, L, sh, N) Q) : Run M d ac az pc ll (.int x :: .int j :: .ref id :: st) (I, R, L, sh, N) Q := r_iastore hdg hp hs hq hlt (kk _ rfl)
theorem q_bastore {id n q pc2 : Nat} {j x : Int32} (hdg : decode M.2.1 pc = .ok (.bastore, 1)) (hp : pc + 1 = pc2) (hs : sh id = (14, n)) (hq : j.toInt = (q : Int)) (hlt : q < n) (hx : x = 0 ∨ x = 1) (kk : ∀ I', I' = u2 I id q x → Run M d ac az pc2 ll st (I', R, L, sh, N) Q) : Run M d ac az pc ll (.int x :: .int j :: .ref id :: st) (I, R, L, sh, N) Q := r_bastore hdg hp hs hq hlt hx (kk _ rfl)
theorem q_lastore {id n q pc2 : Nat} {j : Int32} {x : Int64} (hdg : decode M.2.1 pc = .ok (.lastore, 1)) (hp : pc + 1 = pc2) (hs : sh id = (13, n)) (hq : j.toInt = (q : Int)) (hlt : q < n) (kk : ∀ L', L' = u2 L id q x → Run M d ac az pc2 ll st (I, R, L', sh, N) Q) : Run M d ac az pc ll (.long x :: .int j :: .ref id :: st) (I, R, L, sh, N) Q := r_lastore hdg hp hs hq hlt (kk _ rfl)
theorem q_bif_eq {p : Prop} [Decidable p] {off : Int} {tgt pc2 : Nat} (hdg : decode M.2.1 pc = .ok (.ifCond .eq off, 3)) (ht : (pc : Int) + off = (tgt : Int)) (hp : pc + 3 = pc2) (kt : ¬ p → Run M d ac az tgt ll st h Q) (kf : p → Run M d ac az pc2 ll st h Q) : Run M d ac az pc ll (.int (bI p) :: st) h Q := by
  refine r_if_eq hdg ht hp (fun c => kt (fun z => ?_)) (fun c => ?_)
  · rw [bI_t z] at c; exact absurd c (by decide)
  · by_cases z : p
    · exact kf z
    · rw [bI_f z] at c; exact absurd rfl c
theorem q_bif_ne {p : Prop} [Decidable p] {off : Int} {tgt pc2 : Nat} (hdg : decode M.2.1 pc = .ok (.ifCond .ne off, 3)) (ht : (pc : Int) + off = (tgt : Int)) (hp : pc + 3 = pc2) (kt : p → Run M d ac az tgt ll st h Q) (kf : ¬ p → Run M d ac az pc2 ll st h Q) : Run M d ac az pc ll (.int (bI p) :: st) h Q := by
  refine r_if_ne hdg ht hp (fun c => ?_) (fun c => kf (fun z => ?_))
  · by_cases z : p
    · exact kt z
    · rw [bI_f z] at c; exact absurd rfl c
  · rw [bI_t z] at c; exact absurd c (by decide)
/-- calls of what is known -/
theorem q_callv {M2 : MI} {d2 ac2 az2 ac1 az1 ix n ci id nn pc2 : Nat} {as rest : List Value} {v : Value} {h2 : HS} (hdg : decode M.2.1 pc = .ok (.invokevirtual ix, 3)) (hp : pc + 3 = pc2) (hlk : bLk M.1.cls ix M2.1) (hm : bCm M2 n) (hv : bCv M2) (hs : h.2.2.2.1 id = (ci, nn)) (hci : ci < 12) (hcn : cN ci = M2.1.cls) (hn : as.length = n) (hst : st = as.reverse ++ .ref id :: rest) (hcat : (rest.map fun v => v.category).sum ≤ 8)
    (hM : Me M2 d2 ac2 az2 (.ref id :: as) h (some v) h2) (hd : d2 + 1 ≤ d) (hac : ac2 + ac1 ≤ ac) (haz : az2 + az1 ≤ az) (kk : Run M d ac1 az1 pc2 ll (v :: rest) h2 Q) : Run M d ac az pc ll st h Q :=
  r_callv hdg hp hlk hm hv hs hci hcn hn hst hcat hM hd hac haz (fun r x hq => by obtain ⟨rfl, rfl⟩ := hq; exact kk)
theorem q_callvV {M2 : MI} {d2 ac2 az2 ac1 az1 ix n ci id nn pc2 : Nat} {as rest : List Value} {h2 : HS} (hdg : decode M.2.1 pc = .ok (.invokevirtual ix, 3)) (hp : pc + 3 = pc2) (hlk : bLk M.1.cls ix M2.1) (hm : bCm M2 n) (hv : bCv M2) (hs : h.2.2.2.1 id = (ci, nn)) (hci : ci < 12) (hcn : cN ci = M2.1.cls) (hn : as.length = n) (hst : st = as.reverse ++ .ref id :: rest) (hcat : (rest.map fun v => v.category).sum ≤ 8)
    (hM : Me M2 d2 ac2 az2 (.ref id :: as) h none h2) (hd : d2 + 1 ≤ d) (hac : ac2 + ac1 ≤ ac) (haz : az2 + az1 ≤ az) (kk : Run M d ac1 az1 pc2 ll rest h2 Q) : Run M d ac az pc ll st h Q :=
  r_callv hdg hp hlk hm hv hs hci hcn hn hst hcat hM hd hac haz (fun r x hq => by obtain ⟨rfl, rfl⟩ := hq; exact kk)
theorem q_calls {M2 : MI} {d2 ac2 az2 ac1 az1 ix n pc2 : Nat} {as rest : List Value} {v : Value} {h2 : HS} (hdg : decode M.2.1 pc = .ok (.invokestatic ix, 3)) (hp : pc + 3 = pc2) (hlk : bLk M.1.cls ix M2.1) (hm : bCm M2 n) (hv : Jvm.Cond.static M2.1 ∈ bBig) (hn : as.length = n) (hst : st = as.reverse ++ rest) (hcat : (rest.map fun v => v.category).sum ≤ 8)
    (hM : Me M2 d2 ac2 az2 as h (some v) h2) (hd : d2 + 1 ≤ d) (hac : ac2 + ac1 ≤ ac) (haz : az2 + az1 ≤ az) (kk : Run M d ac1 az1 pc2 ll (v :: rest) h2 Q) : Run M d ac az pc ll st h Q :=
  r_calls hdg hp hlk hm hv hn hst hcat hM hd hac haz (fun r x hq => by obtain ⟨rfl, rfl⟩ := hq; exact kk)
theorem q_callsV {M2 : MI} {d2 ac2 az2 ac1 az1 ix n pc2 : Nat} {as rest : List Value} {h2 : HS} (hdg : decode M.2.1 pc = .ok (.invokestatic ix, 3)) (hp : pc + 3 = pc2) (hlk : bLk M.1.cls ix M2.1) (hm : bCm M2 n) (hv : Jvm.Cond.static M2.1 ∈ bBig) (hn : as.length = n) (hst : st = as.reverse ++ rest) (hcat : (rest.map fun v => v.category).sum ≤ 8)
    (hM : Me M2 d2 ac2 az2 as h none h2) (hd : d2 + 1 ≤ d) (hac : ac2 + ac1 ≤ ac) (haz : az2 + az1 ≤ az) (kk : Run M d ac1 az1 pc2 ll rest h2 Q) : Run M d ac az pc ll st h Q :=
  r_calls hdg hp hlk hm hv hn hst hcat hM hd hac haz (fun r x hq => by obtain ⟨rfl, rfl⟩ := hq; exact kk)
end QR
section QB
variable {M : MI} {d ac az pc : Nat} {ll : List (Nat × Value)} {st : List Value} {h : HS} {Q : Option Value → HS → Prop}
theorem q_icmp_eq {x y : Int32} {A B : Int} {off : Int} {tgt pc2 : Nat} (hdg : decode M.2.1 pc = .ok (.if_icmp .eq off, 3)) (ht : (pc : Int) + off = (tgt : Int)) (hp : pc + 3 = pc2) (hA : x.toInt = A) (hB : y.toInt = B) (kt : A = B → Run M d ac az tgt ll st h Q) (kf : A ≠ B → Run M d ac az pc2 ll st h Q) : Run M d ac az pc ll (.int y :: .int x :: st) h Q := by
  subst hA; subst hB; exact r_icmp_eq hdg ht hp kt kf
theorem q_if_eq {x : Int32} {A : Int} {off : Int} {tgt pc2 : Nat} (hdg : decode M.2.1 pc = .ok (.ifCond .eq off, 3)) (ht : (pc : Int) + off = (tgt : Int)) (hp : pc + 3 = pc2) (hA : x.toInt = A) (kt : A = 0 → Run M d ac az tgt ll st h Q) (kf : A ≠ 0 → Run M d ac az pc2 ll st h Q) : Run M d ac az pc ll (.int x :: st) h Q := by
  subst hA; exact r_if_eq hdg ht hp kt kf
theorem q_icmp_ne {x y : Int32} {A B : Int} {off : Int} {tgt pc2 : Nat} (hdg : decode M.2.1 pc = .ok (.if_icmp .ne off, 3)) (ht : (pc : Int) + off = (tgt : Int)) (hp : pc + 3 = pc2) (hA : x.toInt = A) (hB : y.toInt = B) (kt : A ≠ B → Run M d ac az tgt ll st h Q) (kf : A = B → Run M d ac az pc2 ll st h Q) : Run M d ac az pc ll (.int y :: .int x :: st) h Q := by
  subst hA; subst hB; exact r_icmp_ne hdg ht hp kt kf
theorem q_if_ne {x : Int32} {A : Int} {off : Int} {tgt pc2 : Nat} (hdg : decode M.2.1 pc = .ok (.ifCond .ne off, 3)) (ht : (pc : Int) + off = (tgt : Int)) (hp : pc + 3 = pc2) (hA : x.toInt = A) (kt : A ≠ 0 → Run M d ac az tgt ll st h Q) (kf : A = 0 → Run M d ac az pc2 ll st h Q) : Run M d ac az pc ll (.int x :: st) h Q := by
  subst hA; exact r_if_ne hdg ht hp kt kf
theorem q_icmp_lt {x y : Int32} {A B : Int} {off : Int} {tgt pc2 : Nat} (hdg : decode M.2.1 pc = .ok (.if_icmp .lt off, 3)) (ht : (pc : Int) + off = (tgt : Int)) (hp : pc + 3 = pc2) (hA : x.toInt = A) (hB : y.toInt = B) (kt : A < B → Run M d ac az tgt ll st h Q) (kf : B ≤ A → Run M d ac az pc2 ll st h Q) : Run M d ac az pc ll (.int y :: .int x :: st) h Q := by
  subst hA; subst hB; exact r_icmp_lt hdg ht hp kt kf
theorem q_if_lt {x : Int32} {A : Int} {off : Int} {tgt pc2 : Nat} (hdg : decode M.2.1 pc = .ok (.ifCond .lt off, 3)) (ht : (pc : Int) + off = (tgt : Int)) (hp : pc + 3 = pc2) (hA : x.toInt = A) (kt : A < 0 → Run M d ac az tgt ll st h Q) (kf : 0 ≤ A → Run M d ac az pc2 ll st h Q) : Run M d ac az pc ll (.int x :: st) h Q := by
  subst hA; exact r_if_lt hdg ht hp kt kf
theorem q_icmp_ge {x y : Int32} {A B : Int} {off : Int} {tgt pc2 : Nat} (hdg : decode M.2.1 pc = .ok (.if_icmp .ge off, 3)) (ht : (pc : Int) + off = (tgt : Int)) (hp : pc + 3 = pc2) (hA : x.toInt = A) (hB : y.toInt = B) (kt : B ≤ A → Run M d ac az tgt ll st h Q) (kf : A < B → Run M d ac az pc2 ll st h Q) : Run M d ac az pc ll (.int y :: .int x :: st) h Q := by
  subst hA; subst hB; exact r_icmp_ge hdg ht hp kt kf
theorem q_if_ge {x : Int32} {A : Int} {off : Int} {tgt pc2 : Nat} (hdg : decode M.2.1 pc = .ok (.ifCond .ge off, 3)) (ht : (pc : Int) + off = (tgt : Int)) (hp : pc + 3 = pc2) (hA : x.toInt = A) (kt : 0 ≤ A → Run M d ac az tgt ll st h Q) (kf : A < 0 → Run M d ac az pc2 ll st h Q) : Run M d ac az pc ll (.int x :: st) h Q := by
  subst hA; exact r_if_ge hdg ht hp kt kf
theorem q_icmp_gt {x y : Int32} {A B : Int} {off : Int} {tgt pc2 : Nat} (hdg : decode M.2.1 pc = .ok (.if_icmp .gt off, 3)) (ht : (pc : Int) + off = (tgt : Int)) (hp : pc + 3 = pc2) (hA : x.toInt = A) (hB : y.toInt = B) (kt : B < A → Run M d ac az tgt ll st h Q) (kf : A ≤ B → Run M d ac az pc2 ll st h Q) : Run M d ac az pc ll (.int y :: .int x :: st) h Q := by
  subst hA; subst hB; exact r_icmp_gt hdg ht hp kt kf
theorem q_if_gt {x : Int32} {A : Int} {off : Int} {tgt pc2 : Nat} (hdg : decode M.2.1 pc = .ok (.ifCond .gt off, 3)) (ht : (pc : Int) + off = (tgt : Int)) (hp : pc + 3 = pc2) (hA : x.toInt = A) (kt : 0 < A → Run M d ac az tgt ll st h Q) (kf : A ≤ 0 → Run M d ac az pc2 ll st h Q) : Run M d ac az pc ll (.int x :: st) h Q := by
  subst hA; exact r_if_gt hdg ht hp kt kf
theorem q_icmp_le {x y : Int32} {A B : Int} {off : Int} {tgt pc2 : Nat} (hdg : decode M.2.1 pc = .ok (.if_icmp .le off, 3)) (ht : (pc : Int) + off = (tgt : Int)) (hp : pc + 3 = pc2) (hA : x.toInt = A) (hB : y.toInt = B) (kt : A ≤ B → Run M d ac az tgt ll st h Q) (kf : B < A → Run M d ac az pc2 ll st h Q) : Run M d ac az pc ll (.int y :: .int x :: st) h Q := by
  subst hA; subst hB; exact r_icmp_le hdg ht hp kt kf
theorem q_if_le {x : Int32} {A : Int} {off : Int} {tgt pc2 : Nat} (hdg : decode M.2.1 pc = .ok (.ifCond .le off, 3)) (ht : (pc : Int) + off = (tgt : Int)) (hp : pc + 3 = pc2) (hA : x.toInt = A) (kt : A ≤ 0 → Run M d ac az tgt ll st h Q) (kf : 0 < A → Run M d ac az pc2 ll st h Q) : Run M d ac az pc ll (.int x :: st) h Q := by
  subst hA; exact r_if_le hdg ht hp kt kf
end QB
section QL
variable {M : MI} {d ac az pc : Nat} {ll : List (Nat × Value)} {st : List Value} {h : HS} {Q : Option Value → HS → Prop}
theorem q_switch {x : Int32} {A : Int} {dflt lo hi : Int} {offs : Array Int} {len tgt : Nat} (hdg : decode M.2.1 pc = .ok (.tableswitch dflt lo hi offs, len)) (ht : (pc : Int) + dflt = (tgt : Int)) (hA : x.toInt = A)
    (ki : ∀ (off : Int) (t2 : Nat), lo ≤ A → A ≤ hi → offs[(A - lo).toNat]? = some off → (pc : Int) + off = (t2 : Int) → Run M d ac az t2 ll st h Q) (hsz : (hi - lo).toNat < offs.size) (hnn : ∀ off ∈ offs, 0 ≤ (pc : Int) + off)
    (ko : (A < lo ∨ hi < A) → Run M d ac az tgt ll st h Q) : Run M d ac az pc ll (.int x :: st) h Q := by
  subst hA; exact r_switch hdg ht ki hsz hnn ko
theorem bcmp_lt {x y : Int64} : (lg_cmp x y).toInt < 0 ↔ x.toInt < y.toInt := by
  unfold lg_cmp
  by_cases h1 : y < x
  · rw [if_pos h1]; rw [Int64.lt_iff_toInt_lt] at h1; constructor
    · intro q; exact absurd q (by decide)
    · intro q; omega
  · rw [if_neg h1]; rw [Int64.lt_iff_toInt_lt] at h1
    by_cases h2 : x = y
    · rw [if_pos h2]; subst h2; constructor
      · intro q; exact absurd q (by decide)
      · intro q; omega
    · rw [if_neg h2]
      have h3 : x.toInt ≠ y.toInt := fun q => h2 (Int64.toInt_inj.mp q)
      constructor
      · intro _; omega
      · intro _; decide
theorem bcmp_gt {x y : Int64} : 0 < (lg_cmp x y).toInt ↔ y.toInt < x.toInt := by
  unfold lg_cmp
  by_cases h1 : y < x
  · rw [if_pos h1]; rw [Int64.lt_iff_toInt_lt] at h1; constructor
    · intro q; omega
    · intro q; decide
  · rw [if_neg h1]; rw [Int64.lt_iff_toInt_lt] at h1
    by_cases h2 : x = y
    · rw [if_pos h2]; constructor
      · intro q; exact absurd q (by decide)
      · intro q; omega
    · rw [if_neg h2]
      constructor
      · intro q; exact absurd q (by decide)
      · intro _; omega
theorem q_lif_eq {x y : Int64} {A B : Int} {off : Int} {tgt pc2 : Nat} (hdg : decode M.2.1 pc = .ok (.ifCond .eq off, 3)) (ht : (pc : Int) + off = (tgt : Int)) (hp : pc + 3 = pc2) (hA : x.toInt = A) (hB : y.toInt = B) (kt : A = B → Run M d ac az tgt ll st h Q) (kf : A ≠ B → Run M d ac az pc2 ll st h Q) : Run M d ac az pc ll (.int (lg_cmp x y) :: st) h Q := by
  subst hA; subst hB
  have e1 := bcmp_lt (x := x) (y := y)
  have e2 := bcmp_gt (x := x) (y := y)
  exact r_if_eq hdg ht hp (fun q => kt (by omega)) (fun q => kf (by omega))
theorem q_lif_ne {x y : Int64} {A B : Int} {off : Int} {tgt pc2 : Nat} (hdg : decode M.2.1 pc = .ok (.ifCond .ne off, 3)) (ht : (pc : Int) + off = (tgt : Int)) (hp : pc + 3 = pc2) (hA : x.toInt = A) (hB : y.toInt = B) (kt : A ≠ B → Run M d ac az tgt ll st h Q) (kf : A = B → Run M d ac az pc2 ll st h Q) : Run M d ac az pc ll (.int (lg_cmp x y) :: st) h Q := by
  subst hA; subst hB
  have e1 := bcmp_lt (x := x) (y := y)
  have e2 := bcmp_gt (x := x) (y := y)
  exact r_if_ne hdg ht hp (fun q => kt (by omega)) (fun q => kf (by omega))
theorem q_lif_lt {x y : Int64} {A B : Int} {off : Int} {tgt pc2 : Nat} (hdg : decode M.2.1 pc = .ok (.ifCond .lt off, 3)) (ht : (pc : Int) + off = (tgt : Int)) (hp : pc + 3 = pc2) (hA : x.toInt = A) (hB : y.toInt = B) (kt : A < B → Run M d ac az tgt ll st h Q) (kf : B ≤ A → Run M d ac az pc2 ll st h Q) : Run M d ac az pc ll (.int (lg_cmp x y) :: st) h Q := by
  subst hA; subst hB
  have e1 := bcmp_lt (x := x) (y := y)
  have e2 := bcmp_gt (x := x) (y := y)
  exact r_if_lt hdg ht hp (fun q => kt (by omega)) (fun q => kf (by omega))
theorem q_lif_ge {x y : Int64} {A B : Int} {off : Int} {tgt pc2 : Nat} (hdg : decode M.2.1 pc = .ok (.ifCond .ge off, 3)) (ht : (pc : Int) + off = (tgt : Int)) (hp : pc + 3 = pc2) (hA : x.toInt = A) (hB : y.toInt = B) (kt : B ≤ A → Run M d ac az tgt ll st h Q) (kf : A < B → Run M d ac az pc2 ll st h Q) : Run M d ac az pc ll (.int (lg_cmp x y) :: st) h Q := by
  subst hA; subst hB
  have e1 := bcmp_lt (x := x) (y := y)
  have e2 := bcmp_gt (x := x) (y := y)
  exact r_if_ge hdg ht hp (fun q => kt (by omega)) (fun q => kf (by omega))
theorem q_lif_gt {x y : Int64} {A B : Int} {off : Int} {tgt pc2 : Nat} (hdg : decode M.2.1 pc = .ok (.ifCond .gt off, 3)) (ht : (pc : Int) + off = (tgt : Int)) (hp : pc + 3 = pc2) (hA : x.toInt = A) (hB : y.toInt = B) (kt : B < A → Run M d ac az tgt ll st h Q) (kf : A ≤ B → Run M d ac az pc2 ll st h Q) : Run M d ac az pc ll (.int (lg_cmp x y) :: st) h Q := by
  subst hA; subst hB
  have e1 := bcmp_lt (x := x) (y := y)
  have e2 := bcmp_gt (x := x) (y := y)
  exact r_if_gt hdg ht hp (fun q => kt (by omega)) (fun q => kf (by omega))
theorem q_lif_le {x y : Int64} {A B : Int} {off : Int} {tgt pc2 : Nat} (hdg : decode M.2.1 pc = .ok (.ifCond .le off, 3)) (ht : (pc : Int) + off = (tgt : Int)) (hp : pc + 3 = pc2) (hA : x.toInt = A) (hB : y.toInt = B) (kt : A ≤ B → Run M d ac az tgt ll st h Q) (kf : B < A → Run M d ac az pc2 ll st h Q) : Run M d ac az pc ll (.int (lg_cmp x y) :: st) h Q := by
  subst hA; subst hB
  have e1 := bcmp_lt (x := x) (y := y)
  have e2 := bcmp_gt (x := x) (y := y)
  exact r_if_le hdg ht hp (fun q => kt (by omega)) (fun q => kf (by omega))
end QL
theorem pn_X : plainName "FeatureDesk" = true := by decide +kernel
theorem pn_M : plainName "FeatureDeskModel" = true := by decide +kernel
theorem pn_An : plainName "FeatureDesk$Answers" = true := by decide +kernel
theorem pn_Co : plainName "FeatureDesk$Condition" = true := by decide +kernel
theorem pn_De : plainName "FeatureDesk$Desk" = true := by decide +kernel
theorem pn_Fe : plainName "FeatureDesk$Feature" = true := by decide +kernel
theorem pn_Pe : plainName "FeatureDesk$Persons" = true := by decide +kernel
theorem pn_Re : plainName "FeatureDesk$Reader" = true := by decide +kernel
theorem pn_Ru : plainName "FeatureDesk$Rule" = true := by decide +kernel
theorem pn_Sh : plainName "FeatureDesk$Shelf" = true := by decide +kernel
theorem pn_Sp : plainName "FeatureDesk$Speller" = true := by decide +kernel
theorem pn_St : plainName "FeatureDesk$Steps" = true := by decide +kernel
/-- the first number of which something is so -/
def fst1 (p : Nat → Bool) : Nat → Option Nat
  | 0 => none
  | n + 1 => match fst1 p n with
    | some j => some j
    | none => if p n then some n else none
theorem fst1_none {p : Nat → Bool} : ∀ {n : Nat}, (∀ j, j < n → p j = false) → fst1 p n = none
  | 0, _ => rfl
  | n + 1, h => by
    unfold fst1
    rw [fst1_none (fun j hj => h j (by omega)), h n (by omega)]
    rfl
theorem fst1_some {p : Nat → Bool} {i : Nat} (h : ∀ j, j < i → p j = false) (hp : p i = true) : ∀ {n : Nat}, i < n → fst1 p n = some i
  | 0, q => absurd q (by omega)
  | n + 1, q => by
    unfold fst1
    by_cases e : i = n
    · subst e
      rw [fst1_none h, hp]
      rfl
    · rw [fst1_some h hp (show i < n by omega)]
theorem fst1_spec {p : Nat → Bool} : ∀ {n i : Nat}, fst1 p n = some i → i < n ∧ p i = true ∧ ∀ j, j < i → p j = false
  | 0, _, h => by cases h
  | n + 1, i, h => by
    unfold fst1 at h
    cases e : fst1 p n with
    | some j =>
      rw [e] at h
      cases h
      obtain ⟨h1, h2, h3⟩ := fst1_spec e
      exact ⟨by omega, h2, h3⟩
    | none =>
      rw [e] at h
      dsimp only at h
      by_cases hp : p n = true
      · rw [if_pos hp] at h
        cases h
        refine ⟨by omega, hp, fun j hj => ?_⟩
        cases hj2 : p j with
        | false => rfl
        | true =>
          exfalso
          have : ∀ m, j < m → fst1 p m ≠ none := by
            intro m
            induction m with
            | zero => intro q; omega
            | succ m ih =>
              intro q hz
              unfold fst1 at hz
              by_cases hm : j < m
              · cases e2 : fst1 p m with
                | none => exact ih hm e2
                | some z => rw [e2] at hz; cases hz
              · have : j = m := by omega
                subst this
                cases e2 : fst1 p j with
                | none => rw [e2] at hz; dsimp only at hz; rw [if_pos hj2] at hz; cases hz
                | some z => rw [e2] at hz; cases hz
          exact this n hj e
      · rw [if_neg hp] at h
        cases h
theorem fst1_not {p : Nat → Bool} : ∀ {n : Nat}, fst1 p n = none → ∀ j, j < n → p j = false := by
  intro n h j hj
  cases hp : p j with
  | false => rfl
  | true =>
    obtain ⟨i, hi⟩ : ∃ i, fst1 p n = some i := by
      obtain ⟨k, hk, hk2⟩ := pk_least (fun k => p k = true) ⟨j, hp⟩
      refine ⟨k, fst1_some (fun i hi => by cases e : p i with | false => rfl | true => exact absurd e (hk2 i hi)) hk ?_⟩
      by_cases q : k ≤ j
      · omega
      · exact absurd hp (hk2 j (by omega))
    rw [hi] at h; cases h
def vo : Option Nat → Int32
  | none => -1
  | some i => nI i
/-- a method of a class that isn't plainly named (the JDK's): no row of natives stands for it -/
theorem Met.ofWF {l : Launch} {y : MethodName} {ws ws' : List Jvm.Cond} {rm : Room} {Pc : Array Value → State → Prop} {Qc : Array Value → State → Outcome → State → Prop} {mc ms : Nat} {free : Addr → Prop} {cc : ByteArray} {maxL : Nat} {ret : Option FieldType}
    (hy : plainFor y = true) (hw : ws = Jvm.Cond.code y cc maxL ret :: ws')
    (body : ∀ p e s m args below meth c s₁, BodyLoose p l y (headSpec ws rm) cc maxL ret e s m args below meth c s₁ → c.maxLocals = maxL → Pc args s →
      W p l e (headSpec ws rm).room s m args below meth c s.heap [] 0 0 (MQ below Qc args s mc ms free) (entryFrame m args maxL)) : Met l y ws rm Pc Qc mc ms free := by
  refine MetFree.of_bodySF (code := cc) (maxLocals := maxL) (ret := ret) hy ?_ ?_
  · intro args s m h hn
    obtain ⟨meth, c, h1, h2, h3, h4, h5, h6, -, -⟩ := Cond.code_spec hn (atoms_spec (ws := ws) h _ (by rw [hw]; exact List.mem_cons_self))
    exact ⟨meth, c, h1, h2, h3, h4, h5, h6⟩
  · intro p e s m args below meth c s₁ B hml hP _
    have hh0 : s₁.heap = s.heap := by rw [B.state]; rfl
    obtain ⟨t, a1, o, b1, b2, b3⟩ := body p e s m args below meth c s₁ B hml hP s₁ hh0 (Stand.of_body B)
    exact ⟨t, o, a1, b1, b2, ⟨b3.1, b3.2⟩⟩
theorem Mt.ofF {M : MI} {d ac az : Nat} {args : List Value} {h : HS} {Q : Option Value → HS → Prop} (hy : plainFor M.1 = true) (hL : (lg_sl args).length ≤ M.2.2.1) (k : Run M d ac az 0 (lv_args 0 args) [] h Q) : Mt M d ac az args h Q := by
  intro l w
  obtain ⟨y, cc, mL, ret⟩ := M
  refine Met.ofWF (cc := cc) (maxL := mL) (ret := ret) hy rfl ?_
  intro p e s m args' below meth c s₁ B hml hv
  obtain ⟨rfl, hR, hK⟩ := hv
  rw [lg_entry_eq]
  have hl := lv_entry (args.map (trV w.1)) (n := mL) (by rw [lg_sl_map]; exact hL)
  refine k w p l e _ s m _ below meth c s.heap [] 0 0 _ _ ⟨B.exec, B.bytes, hml, findClass_of_methodNamed B.named, fun x hx => atoms_spec (ws := bWs (y, cc, mL, ret)) B.pre x (List.mem_cons_of_mem _ hx), (name_of_methodNamed B.named B.method).1, hK, Nat.le_refl _, Nat.le_refl _, ?_, ?_, Nat.zero_le _⟩ hR ⟨_, hl, fun j v hj => ?_⟩ (fun q h => by cases h) (bRet_of B.exec B.bytes B.returns B.notSynchronized (fun q h => h))
  · show 0 + ac ≤ ac
    omega
  · show 0 + az ≤ az
    omega
  · rw [lv_args_map]
    exact List.mem_map.mpr ⟨(j, v), lget_mem hj, rfl⟩
theorem Mt.room {M : MI} {d d' ac ac' az az' : Nat} {args : List Value} {h : HS} {Q Q' : Option Value → HS → Prop} (hy : plainName M.1.cls = true) (hL : (lg_sl args).length ≤ M.2.2.1) (k : Run M d ac az 0 (lv_args 0 args) [] h Q) (hd : d ≤ d') (hac : ac ≤ ac') (haz : az ≤ az') (hq : ∀ r x, Q r x → Q' r x) : Mt M d' ac' az' args h Q' :=
  Mt.of hy hL ((k.room hd hac haz).imp hq)
section QD
variable {M : MI} {d ac az pc : Nat} {ll : List (Nat × Value)} {st : List Value} {h : HS} {Q : Option Value → HS → Prop}
theorem q_idivN {a b pc2 : Nat} (hdg : decode M.2.1 pc = .ok (.idiv, 1)) (hp : pc + 1 = pc2) (ha : a < 2 ^ 31) (hb : 0 < b) (hb2 : b < 2 ^ 31) (k : Run M d ac az pc2 ll (.int (nI (a / b)) :: st) h Q) : Run M d ac az pc ll (.int (nI b) :: .int (nI a) :: st) h Q := r_idiv hdg hp (nI_ne0 hb hb2) (by rw [pk_div ha hb hb2]; exact k)
theorem q_iremN {a b pc2 : Nat} (hdg : decode M.2.1 pc = .ok (.irem, 1)) (hp : pc + 1 = pc2) (ha : a < 2 ^ 31) (hb : 0 < b) (hb2 : b < 2 ^ 31) (k : Run M d ac az pc2 ll (.int (nI (a % b)) :: st) h Q) : Run M d ac az pc ll (.int (nI b) :: .int (nI a) :: st) h Q := r_irem hdg hp (nI_ne0 hb hb2) (by rw [pk_rem ha hb hb2]; exact k)
end QD
