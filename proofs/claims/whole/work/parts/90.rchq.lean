/-! WHAT CAN BE REACHED: the class, by a queue. -/
def QI (T : Int64) (c0 : Nat) (x : kK) (s : Int64) (n : Nat) : Prop := n ≤ 64 ∧ (∀ r, r < n → ∃ c, c < 64 ∧ x.2.2.1 8 r = nI c ∧ tb s c = true) ∧ (∀ r r2, r < n → r2 < n → x.2.2.1 8 r = x.2.2.1 8 r2 → r = r2) ∧ (∀ q, q < 64 → tb s q = true → (∃ r, r < n ∧ x.2.2.1 8 r = nI q) ∧ Rch (tb T) c0 q) ∧ tb s c0 = true
def CL (T : Int64) (x : kK) (s : Int64) (r : Nat) : Prop := ∀ c, c < 64 → x.2.2.1 8 r = nI c → ∀ j, j < 4 → tb T (nx c (2 * j)) = false → tb s (nx c (2 * j)) = true
def qK (x x2 : kK) : Prop := x2.1 = x.1 ∧ x2.2.1 = x.2.1 ∧ ∀ r, r ≠ 8 → x2.2.2.1 r = x.2.2.1 r
theorem qK_t {x x2 x3 : kK} (h1 : qK x x2) (h2 : qK x2 x3) : qK x x3 := ⟨h2.1.trans h1.1, h2.2.1.trans h1.2.1, fun r h => (h2.2.2 r h).trans (h1.2.2 r h)⟩
theorem kkR8 {x : kK} {f : Nat → Int32} : qK x (kkR x 8 f) := ⟨rfl, rfl, fun r hr => if_neg hr⟩
theorem in_set {s : Int64} {c : Int32} {q : Nat} (e : c = nI q) (hq : q < 64) : (lg_cmp ((Int64.toUInt64 s >>> (Int64.toUInt64 (Int32.toInt64 c) &&& Int64.toUInt64 63)).toInt64 &&& 1) 0 = 0) ↔ tb s q = false := by
  rw [lg_cmp_0, tb_lo, tb_shr e hq, Nat.zero_add]
theorem QI_lt {T : Int64} {c0 : Nat} {x : kK} {s : Int64} {n q : Nat} (h : QI T c0 x s n) (hq : q < 64) (ns : tb s q = false) : n < 64 := by
  obtain ⟨h1, h2, h3, h4, h5⟩ := h
  have := pg_le (n := n + 1) (m := 64) (fun r => if r < n then (x.2.2.1 8 r).toNatClampNeg else q) (fun r hr => by
    show (if r < n then (x.2.2.1 8 r).toNatClampNeg else q) < 64
    split
    · rename_i hn
      obtain ⟨c, hc, e, -⟩ := h2 r hn
      rw [e, nI_clamp (by omega)]; exact hc
    · exact hq) (fun i j hi hj e => by
    have e : (if i < n then (x.2.2.1 8 i).toNatClampNeg else q) = (if j < n then (x.2.2.1 8 j).toNatClampNeg else q) := e
    by_cases i1 : i < n
    · obtain ⟨c, hc, ec, sc⟩ := h2 i i1
      rw [if_pos i1, ec, nI_clamp (by omega)] at e
      by_cases j1 : j < n
      · obtain ⟨d, hd, ed, -⟩ := h2 j j1
        rw [if_pos j1, ed, nI_clamp (by omega)] at e
        exact h3 i j i1 j1 (by rw [ec, ed, e])
      · rw [if_neg j1] at e
        rw [e, ns] at sc; cases sc
    · rw [if_neg i1] at e
      by_cases j1 : j < n
      · obtain ⟨d, hd, ed, sd⟩ := h2 j j1
        rw [if_pos j1, ed, nI_clamp (by omega)] at e
        rw [← e, ns] at sd; cases sd
      · omega)
  omega
theorem cq_s {T : Int64} {c0 i c : Nat} {a : Int32} (hc : c < 64) {k : Nat} : ∀ {x : kK} {j : Nat} {s : Int64} {n : Nat}, j + k = 4 → (x.1 0).1 = T → QI T c0 x s n → i < n → x.2.2.1 8 i = nI c → ∃ n2, n ≤ n2 ∧ (cqI a i k x j s (nI n)).2.2 = nI n2 ∧ QI T c0 (cqI a i k x j s (nI n)).1 (cqI a i k x j s (nI n)).2.1 n2 ∧ (∀ q, q < 64 → tb s q = true → tb (cqI a i k x j s (nI n)).2.1 q = true) ∧ (∀ r, r < n → (cqI a i k x j s (nI n)).1.2.2.1 8 r = x.2.2.1 8 r) ∧ qK x (cqI a i k x j s (nI n)).1 ∧ ∀ j2, j ≤ j2 → j2 < 4 → tb T (nx c (2 * j2)) = false → tb (cqI a i k x j s (nI n)).2.1 (nx c (2 * j2)) = true := by
  induction k with
  | zero => intro x j s n hj _ Q _ _; exact ⟨n, Nat.le_refl _, rfl, Q, fun _ _ h => h, fun _ _ => rfl, ⟨rfl, rfl, fun _ _ => rfl⟩, fun j2 p q => by omega⟩
  | succ k ih =>
    intro x j s n hj hT Q hi he
    have hj4 : j < 4 := by omega
    have nb : f_X11_neighbour (x.2.2.1 8 (Int32.toNatClampNeg (nI i))) (nI (2 * j)) = nI (nx c (2 * j)) := by
      have := Q.1
      rw [nI_clamp (by omega), he]
      exact nb_nx hc (by omega)
    have hn6 : nx c (2 * j) < 64 := nx_lt
    have skip : (tb T (nx c (2 * j)) = false → tb s (nx c (2 * j)) = true) → ∃ n2, n ≤ n2 ∧ (cqI a i k x (j + 1) s (nI n)).2.2 = nI n2 ∧ QI T c0 (cqI a i k x (j + 1) s (nI n)).1 (cqI a i k x (j + 1) s (nI n)).2.1 n2 ∧ (∀ q, q < 64 → tb s q = true → tb (cqI a i k x (j + 1) s (nI n)).2.1 q = true) ∧ (∀ r, r < n → (cqI a i k x (j + 1) s (nI n)).1.2.2.1 8 r = x.2.2.1 8 r) ∧ qK x (cqI a i k x (j + 1) s (nI n)).1 ∧ ∀ j2, j ≤ j2 → j2 < 4 → tb T (nx c (2 * j2)) = false → tb (cqI a i k x (j + 1) s (nI n)).2.1 (nx c (2 * j2)) = true := by
      intro hcl
      obtain ⟨n2, b1, b2, b3, b4, b5, b6, b7⟩ := ih (x := x) (j := j + 1) (s := s) (n := n) (by omega) hT Q hi he
      refine ⟨n2, b1, b2, b3, b4, b5, b6, fun j2 q1 q2 q3 => ?_⟩
      by_cases e : j2 = j
      · subst e; exact b4 _ hn6 (hcl q3)
      · exact b7 j2 (by omega) q2 q3
    rw [cqI, nb]
    by_cases h1 : tb s (nx c (2 * j)) = false
    · rw [if_pos ((in_set rfl hn6).2 h1), hT]
      by_cases h2 : tb T (nx c (2 * j)) = false
      · have n6 := QI_lt Q hn6 h1
        rw [if_pos ((tb_b2i hn6).2 h2), if_neg (show ¬ 64 ≤ nI n from nI_ge (b := 64) n6 (by omega)), nI_clamp (show n < 2 ^ 31 by omega), show nI n + Int32.ofInt 1 = nI (n + 1) from nI_1 n]
        obtain ⟨q1, q2, q3, q4, q5⟩ := Q
        have ts : ∀ q, q < 64 → tb (s ||| ((1 : Int64) <<< (Int32.toInt64 (nI (nx c (2 * j))) &&& 63))) q = (tb s q || decide (q = nx c (2 * j))) := by
          intro q hq
          have e : tb ((1 : Int64) <<< (Int32.toInt64 (nI (nx c (2 * j))) &&& 63)) q = decide (q = nx c (2 * j)) := tb_N hn6 hq
          rw [tb_or, e]
        have up : ∀ q, q < 64 → tb s q = true → tb (s ||| ((1 : Int64) <<< (Int32.toInt64 (nI (nx c (2 * j))) &&& 63))) q = true := fun q hq h => by rw [ts q hq, h]; rfl
        have self : tb (s ||| ((1 : Int64) <<< (Int32.toInt64 (nI (nx c (2 * j))) &&& 63))) (nx c (2 * j)) = true := by rw [ts _ hn6, decide_eq_true rfl]; simp
        have c06 : c0 < 64 := by
          rcases Nat.lt_or_ge c0 64 with z | z
          · exact z
          · rw [tb_hi z] at q5; cases q5
        have ro : ∀ r, r < n → upd (x.2.2.1 8) n (nI (nx c (2 * j))) r = x.2.2.1 8 r := fun r h => pk_un (by omega)
        have rn : upd (x.2.2.1 8) n (nI (nx c (2 * j))) n = nI (nx c (2 * j)) := pk_us
        have notin : ∀ r, r < n → x.2.2.1 8 r ≠ nI (nx c (2 * j)) := by
          intro r hr z
          obtain ⟨d, hd, ed, sd⟩ := q2 r hr
          rw [ed] at z
          have z := (nI_eq (by omega) (by omega)).1 z
          rw [z, h1] at sd; cases sd
        have sc : tb s c = true := by
          obtain ⟨d, hd, ed, sd⟩ := q2 i hi
          rw [he] at ed
          have z := (nI_eq (by omega) (by omega)).1 ed
          rw [z]; exact sd
        have Q2 : QI T c0 (kkR x 8 (upd (x.2.2.1 8) n (nI (nx c (2 * j))))) (s ||| ((1 : Int64) <<< (Int32.toInt64 (nI (nx c (2 * j))) &&& 63))) (n + 1) := by
          refine ⟨by omega, fun r hr => ?_, fun r r2 hr hr2 e => ?_, fun q hq h => ?_, up c0 c06 q5⟩
          · show ∃ c2, c2 < 64 ∧ upd (x.2.2.1 8) n (nI (nx c (2 * j))) r = nI c2 ∧ _
            by_cases z : r = n
            · subst z; exact ⟨_, hn6, rn, self⟩
            · obtain ⟨d, hd, ed, sd⟩ := q2 r (by omega)
              exact ⟨d, hd, (ro r (by omega)).trans ed, up d hd sd⟩
          · have e : upd (x.2.2.1 8) n (nI (nx c (2 * j))) r = upd (x.2.2.1 8) n (nI (nx c (2 * j))) r2 := e
            by_cases z : r = n
            · by_cases z2 : r2 = n
              · omega
              · subst z
                rw [rn, ro r2 (by omega)] at e
                exact absurd e.symm (notin r2 (by omega))
            · by_cases z2 : r2 = n
              · subst z2
                rw [rn, ro r (by omega)] at e
                exact absurd e (notin r (by omega))
              · rw [ro r (by omega), ro r2 (by omega)] at e
                exact q3 r r2 (by omega) (by omega) e
          · show (∃ r, r < n + 1 ∧ upd (x.2.2.1 8) n (nI (nx c (2 * j))) r = nI q) ∧ _
            rw [ts q hq, Bool.or_eq_true, decide_eq_true_iff] at h
            by_cases z : q = nx c (2 * j)
            · refine ⟨⟨n, by omega, by rw [rn, z]⟩, ?_⟩
              rw [z]
              exact Rch_s (q4 c hc sc).2 hc hj4 h2
            · have h := h.resolve_right z
              obtain ⟨⟨r, hr, er⟩, w⟩ := q4 q hq h
              exact ⟨⟨r, by omega, (ro r hr).trans er⟩, w⟩
        obtain ⟨n2, b1, b2, b3, b4, b5, b6, b7⟩ := ih (x := kkR x 8 (upd (x.2.2.1 8) n (nI (nx c (2 * j))))) (j := j + 1) (s := s ||| ((1 : Int64) <<< (Int32.toInt64 (nI (nx c (2 * j))) &&& 63))) (n := n + 1) (by omega) hT Q2 (by omega) ((ro i hi).trans he)
        refine ⟨n2, by omega, b2, b3, fun q hq h => b4 q hq (up q hq h), fun r hr => (b5 r (by omega)).trans (ro r hr), qK_t kkR8 b6, fun j2 p1 p2 p3 => ?_⟩
        by_cases e : j2 = j
        · subst e; exact b4 _ hn6 self
        · exact b7 j2 (by omega) p2 p3
      · rw [if_neg (fun z => h2 ((tb_b2i hn6).1 z))]
        exact skip (fun z => absurd z h2)
    · rw [if_neg (fun z => h1 ((in_set rfl hn6).1 z))]
      refine skip (fun _ => ?_)
      cases e : tb s (nx c (2 * j)) with
      | true => rfl
      | false => exact absurd e h1
theorem cqL_s {T : Int64} {c0 : Nat} {a : Int32} {k : Nat} : ∀ {x : kK} {i : Nat} {s : Int64} {n : Nat}, i + k = 64 → (x.1 0).1 = T → QI T c0 x s n → (∀ r, r < i → r < n → CL T x s r) → tb (cqL a k x i s (nI n)).2 c0 = true ∧ (∀ q, q < 64 → tb (cqL a k x i s (nI n)).2 q = true → Rch (tb T) c0 q) ∧ (∀ p j, p < 64 → tb (cqL a k x i s (nI n)).2 p = true → j < 4 → tb T (nx p (2 * j)) = false → tb (cqL a k x i s (nI n)).2 (nx p (2 * j)) = true) ∧ qK x (cqL a k x i s (nI n)).1 := by
  have fin : ∀ {x : kK} {s : Int64} {n : Nat}, QI T c0 x s n → (∀ r, r < n → CL T x s r) → tb s c0 = true ∧ (∀ q, q < 64 → tb s q = true → Rch (tb T) c0 q) ∧ (∀ p j, p < 64 → tb s p = true → j < 4 → tb T (nx p (2 * j)) = false → tb s (nx p (2 * j)) = true) ∧ qK x x := by
    intro x s n Q C
    refine ⟨Q.2.2.2.2, fun q hq h => (Q.2.2.2.1 q hq h).2, fun p j hp h hj ht => ?_, ⟨rfl, rfl, fun _ _ => rfl⟩⟩
    obtain ⟨r, hr, e⟩ := (Q.2.2.2.1 p hp h).1
    exact C r hr p hp e j hj ht
  induction k with
  | zero =>
    intro x i s n hi hT Q C
    have := Q.1
    rw [cqL, ite_self]
    exact fin Q (fun r hr => C r (by omega) hr)
  | succ k ih =>
    intro x i s n hi hT Q C
    have n6 := Q.1
    rw [cqL]
    by_cases h : n ≤ i
    · rw [if_pos (nI_le h (by omega))]
      exact fin Q (fun r hr => C r (by omega) hr)
    · rw [if_neg (nI_ge (by omega) (by omega))]
      obtain ⟨c, hc, ec, -⟩ := Q.2.1 i (by omega)
      obtain ⟨n2, b1, b2, b3, b4, b5, b6, b7⟩ := cq_s (a := a) hc (k := 4) (x := x) (j := 0) (s := s) (n := n) (by omega) hT Q (by omega) ec
      rw [b2]
      obtain ⟨d1, d2, d3, d4⟩ := ih (x := (cqI a i 4 x 0 s (nI n)).1) (i := i + 1) (s := (cqI a i 4 x 0 s (nI n)).2.1) (n := n2) (by omega) (by rw [b6.1]; exact hT) b3 (fun r hr hr2 c2 hc2 e j hj ht => by
        by_cases z : r = i
        · subst z
          rw [b5 r (by omega), ec] at e
          have z := (nI_eq (by omega) (by omega)).1 e
          subst z
          exact b7 j (Nat.zero_le _) hj ht
        · rw [b5 r (by omega)] at e
          exact b4 _ nx_lt (C r (by omega) (by omega) c2 hc2 e j hj ht))
      exact ⟨d1, d2, d3, qK_t b6 d4⟩
section RCQ
variable {t : Nat} {x : kK} {y : kY}
theorem q_reachByQueue (X : RX t x y) {a b : Int32} : RX t (g_X11_reachByQueue x a b) (g_X12_reachByQueue y a b) ∧ (okL (o_X11_reachByQueue x a b) (g_X12_reachByQueue y a b) (f_X12_reachByQueue y a b) ∨ exE (o_X11_reachByQueue x a b) (g_X12_reachByQueue y a b) "java/lang/IndexOutOfBoundsException" 1) := by
  unfold o_X11_reachByQueue g_X11_reachByQueue g_X12_reachByQueue f_X12_reachByQueue
  rcases ce_cs a b with ⟨e1, e2⟩ | ⟨e1, e2, p, q, hp, hq, rfl, rfl, e3⟩
  · have g : g_X12_reach y a b = yS y 0 1 := by unfold g_X12_reach; rw [if_pos e2]
    rw [if_pos e1, if_pos e1, g]
    exact ⟨RX_s X 1, Or.inr ⟨rfl, rfl⟩⟩
  · have h6 : 8 * q + p < 64 := by omega
    rw [e1, if_neg z10, if_neg z10, cell_nI hp hq]
    unfold f_X11_connectedByQueue g_X11_connectedByQueue
    cases hc : tb (x.1 0).1 (8 * q + p) with
    | true =>
      obtain ⟨r1, r2, r3⟩ := q_rchY_t X e2 h6 e3 hc
      have nz : ¬ b2i (bitA (x.1 0).1 (nI (8 * q + p))) = 0 := fun z => by rw [(tb_b2i h6).1 z] at hc; cases hc
      rw [if_neg nz, if_neg nz, r1]
      exact ⟨r2, Or.inl ⟨rfl, r3⟩⟩
    | false =>
      obtain ⟨r1, r2, r3⟩ := q_rchY X e2 h6 e3 hc
      have nz := (tb_b2i (t := (x.1 0).1) h6).2 hc
      rw [if_pos nz, if_pos nz]
      have ts : ∀ r, r < 64 → tb ((1 : Int64) <<< (Int32.toInt64 (nI (8 * q + p)) &&& 63)) r = decide (r = 8 * q + p) := fun r hr => tb_N h6 hr
      have Q0 : QI (x.1 0).1 (8 * q + p) (kkR x 8 (upd (x.2.2.1 8) (Int32.toNatClampNeg 0) (nI (8 * q + p)))) ((1 : Int64) <<< (Int32.toInt64 (nI (8 * q + p)) &&& 63)) 1 := by
        have u0 : (kkR x 8 (upd (x.2.2.1 8) (Int32.toNatClampNeg 0) (nI (8 * q + p)))).2.2.1 8 0 = nI (8 * q + p) := by
          show upd (x.2.2.1 8) (Int32.toNatClampNeg (nI 0)) (nI (8 * q + p)) 0 = _
          rw [nI_clamp (by omega), pk_us]
        refine ⟨by omega, fun r hr => ?_, fun r r2 hr hr2 _ => by omega, fun r hr h => ?_, by rw [ts _ h6]; exact decide_eq_true rfl⟩
        · have : r = 0 := by omega
          subst this
          exact ⟨_, h6, u0, by rw [ts _ h6]; exact decide_eq_true rfl⟩
        · rw [ts r hr] at h
          have z := of_decide_eq_true h
          subst z
          exact ⟨⟨0, by omega, u0⟩, Rch_0⟩
      obtain ⟨d1, d2, d3, d4⟩ := cqL_s (a := nI (8 * q + p)) (k := 64) (i := 0) (n := 1) (by omega) (show ((kkR x 8 (upd (x.2.2.1 8) (Int32.toNatClampNeg 0) (nI (8 * q + p)))).1 0).1 = (x.1 0).1 from rfl) Q0 (fun r hr _ => absurd hr (Nat.not_lt_zero _))
      have n1 : (nI 1 : Int32) = 1 := rfl
      rw [n1] at d1 d2 d3 d4
      have k0 : qK x (cqL (nI (8 * q + p)) 64 (kkR x 8 (upd (x.2.2.1 8) (Int32.toNatClampNeg 0) (nI (8 * q + p)))) 0 ((1 : Int64) <<< (Int32.toInt64 (nI (8 * q + p)) &&& 63)) 1).1 := qK_t kkR8 d4
      refine ⟨?_, Or.inl ⟨?_, r3⟩⟩
      · exact RX_q r2 (Nat.le_refl _) k0.1 (fun k _ _ => by rw [k0.2.1]) (fun k hk => k0.2.2 k (by omega)) (by
          unfold kChn kQu
          rw [k0.2.2 4 (by decide), k0.2.2 3 (by decide), k0.2.2 2 (by decide), k0.2.2 1 (by decide)]
          exact X.O.2.1) (fun _ _ _ _ => rfl) (fun _ _ _ => rfl)
      · congr 3
        apply tb_ext
        intro r hr
        have is := Rch_is (tr := tb (x.1 0).1) (c0 := 8 * q + p) (q := r) (S := fun c => c < 64 ∧ tb (cqL (nI (8 * q + p)) 64 (kkR x 8 (upd (x.2.2.1 8) (Int32.toNatClampNeg 0) (nI (8 * q + p)))) 0 ((1 : Int64) <<< (Int32.toInt64 (nI (8 * q + p)) &&& 63)) 1).2 c = true) ⟨h6, d1⟩ (fun p j hp hs hj ht => ⟨nx_lt, d3 p j hp hs.2 hj ht⟩) (fun hs => d2 r hr hs.2)
        rw [Bool.eq_iff_iff, r1 r hr]
        exact ⟨fun z => is.1 ⟨hr, z⟩, fun z => (is.2 z).2⟩
end RCQ
