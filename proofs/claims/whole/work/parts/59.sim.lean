/-! What the class and the reference have in common: the simulation -/
def LRN (n : Nat) (T U : Nat → Nat) (kn : Bool) (TS M : Nat → Nat) (ev : Nat) : Prop := (∀ x, TS x < 4096) ∧ ev < 4096 ∧ (kn = true → ev = 2 ^ n - 1 ∧ ∀ x, x < 2 ^ n → ∀ k, k < 5 → ((M x).testBit k = true ↔ KIND T U n x k))
def REC (n : Nat) (T U : Nat → Nat) (kn : Bool) (HI KD MR : Nat → Nat) (gr : Nat) : Prop := (∀ x, HI x < 4096) ∧ (∀ x, KD x < 32) ∧ (∀ x, MR x ≤ 12) ∧ (kn = true → HOK n T HI ∧ (∀ x, x < 2 ^ n → ∀ k, k < 5 → ((KD x).testBit k = true ↔ KIND T U n x k)) ∧ gr = gdA T n n ∧ ∀ i, i < n → RND T n i (MR i))
def LST (n : Nat) (op : Bool) (ki pl : Nat) (td : Option Nat) (lg td2 : Bool) (ld lt : Nat) : Prop := lg = op ∧ (op = true → ld = ki ∧ lt = pl) ∧ ki < 5 ∧ pl ≤ 4096 ∧ td2 = td.isSome ∧ ∀ k, td = some k → lt = k + 1 ∧ k < 2 ^ n
def TLK (z : Nat) (Sa : Nat → Nat) (An : Nat → Int32) (Sd : Nat → Nat) (mv : Nat) (Sy : Nat → Nat) (Ay : Nat → Int32) (Dy : Nat → Nat) : Prop := mv = z ∧ z ≤ 500 ∧ ∀ i, i < z → Sa i = Sy i ∧ An i = Ay i ∧ Sd i = Dy i
theorem LRN.off {n n' : Nat} {T U T' U' TS M : Nat → Nat} {kn : Bool} {ev : Nat} (h : LRN n T U kn TS M ev) : LRN n' T' U' false TS M ev := ⟨h.1, h.2.1, (fun q => nomatch q)⟩
theorem REC.off {n n' gr : Nat} {T U T' U' HI KD MR : Nat → Nat} {kn : Bool} (h : REC n T U kn HI KD MR gr) : REC n' T' U' false HI KD MR gr := ⟨h.1, h.2.1, h.2.2.1, (fun q => nomatch q)⟩
theorem LST.off {n n' ki pl ld lt : Nat} {op lg td2 : Bool} {td : Option Nat} (h : LST n op ki pl td lg td2 ld lt) : LST n' false ki pl none false false ld lt := ⟨rfl, (fun q => nomatch q), h.2.2.1, h.2.2.2.1, rfl, (fun _ q => nomatch q)⟩
theorem con_T {n : Nat} {T U : Nat → Nat} (hn : n ≤ 12) (h : CON n T U) : ∀ a, T a < 4096 := fun a => Nat.lt_of_lt_of_le (h.1 a) (p12_le hn)
theorem con_U {n : Nat} {T U : Nat → Nat} (hn : n ≤ 12) (h : CON n T U) : ∀ a, U a < 4096 := fun a => Nat.lt_of_lt_of_le (h.2.1 a) (p12_le hn)
theorem LRN.q {n : Nat} {T U TS M : Nat → Nat} {kn : Bool} {ev : Nat} (P : Nat → Nat) (hn : n ≤ 12) (hC : CON n T U) (h : LRN n T U kn TS M ev) : LRN n T U true (lnTS kn T n TS) (lnM kn T n TS M P) (lnEv kn n ev) := by
  refine ⟨lnTS_b (con_T hn hC) h.1, lnEv_lt hn h.2.1, fun _ => ?_⟩
  cases kn with
  | true => exact h.2.2 rfl
  | false => exact ⟨rfl, fun x hx k hk => ln_kind hC TS M P hx k hk⟩
theorem REC.q {n : Nat} {T U HI KD MR : Nat → Nat} {kn : Bool} {gr : Nat} (HE AV : Nat → Bool) (hn : n ≤ 12) (hC : CON n T U) (h : REC n T U kn HI KD MR gr) : REC n T U true (qH kn T n HI) (qK kn T U n HI KD HE AV) (qR kn T U n HI MR) (qG kn T U n HI gr) := by
  refine ⟨qH_b (con_T hn hC) h.1, qK_b h.2.1, qR_b h.2.2.1 hn, fun _ => ?_⟩
  cases kn with
  | true => exact h.2.2.2 rfl
  | false =>
    have hH : HOK n T (rkH T n HI) := fun k hk => by unfold rkH; rw [ovw_at (by rw [ev1]; exact hk)]
    exact ⟨hH, fun x hx k hk => rk_kind hC HI KD HE AV hx k hk, rdA_gdA hC hH n, fun i hi => rdR_RND hC hH hi⟩
/-- the two tables of kinds, side by side -/
theorem same_kinds {n : Nat} {T U TS M HI KD MR : Nat → Nat} {ev gr : Nat} (h : LRN n T U true TS M ev) (h2 : REC n T U true HI KD MR gr) {x k : Nat} (hx : x < 2 ^ n) (hk : k < 5) : (M x).testBit k = (KD x).testBit k := by
  rw [Bool.eq_iff_iff]
  exact ((h.2.2 rfl).2 x hx k hk).trans ((h2.2.2.2 rfl).2.1 x hx k hk).symm
theorem gdR_b {T : Nat → Nat} {n : Nat} {R : Nat → Nat} (h : ∀ x, R x ≤ 12) : ∀ r, r ≤ 12 → ∀ a, gdR T n (ovw R (fun _ => 0) 12) r a ≤ 12 := by
  intro r
  induction r with
  | zero => intro _ a; show ovw R (fun _ => 0) 12 a ≤ 12; unfold ovw; split; exact Nat.zero_le _; exact h a
  | succ r ih =>
    intro hr a
    show nrU (gdR T n (ovw R (fun _ => 0) 12) r) _ (r + 1) 12 a ≤ 12
    unfold nrU
    split
    · exact hr
    · exact ih (by omega) a
theorem mrX_b {T : Nat → Nat} {n : Nat} {X : Nat → Nat} (hn : n ≤ 12) (hT : ∀ a, T a < 2 ^ n) (h : ∀ x, X x < 4096) : ∀ a, mrX T n X a < 4096 := by
  intro a
  by_cases ha : a < 12
  · exact rcB_lt (fun a ha => rx_lt (fun a => Nat.lt_of_lt_of_le (hT a) (p12_le hn)) h ha) n hn a ha
  · have key : ∀ k, rcB (ovw X (mrA T) n) n k a = X a := by
      intro k
      induction k with
      | zero => show ovw X (mrA T) n a = X a; unfold ovw; rw [if_neg (by omega)]
      | succ k ih =>
        show rcU (rcB (ovw X (mrA T) n) n k) k n a = X a
        rw [rcU_at, if_neg (fun q => by omega)]
        exact ih
    show rcB (ovw X (mrA T) n) n n a < 4096
    rw [key]
    exact h a
def SIM (a : AS) (o : OS) : Prop :=
  (a.n ≤ 12 ∧ o.n = a.n ∧ o.T = a.T ∧ o.U = a.U ∧ CON a.n a.T a.U) ∧ LRN a.n a.T a.U a.kn a.TS a.M a.ev ∧ REC a.n a.T a.U o.kn o.HI o.KD o.MR o.gr ∧ LST a.n a.op a.ki a.pl a.td o.lg o.td o.ld o.lt ∧ TLK a.z a.Sa a.An a.Sd o.mv o.Sy o.Ay o.Dy ∧ (∀ x, a.R x ≤ 12) ∧ ∀ x, o.MX x < 4096
section Sim
variable {n n' : Nat} {T U T' U' TS M P : Nat → Nat} {tc ev : Nat} {kn op : Bool} {ki pl : Nat} {td : Option Nat} {R : Nat → Nat} {al : Nat} {Sa : Nat → Nat} {An : Nat → Int32} {Sd : Nat → Nat} {z : Nat} {tl : Bool} {X Y : Nat → Nat} {rz : Nat} {th : Nat} {kn2 lg td2 : Bool} {ld lt gr mv la : Nat} {HI KD : Nat → Nat} {HE AV : Nat → Bool} {MR Sy : Nat → Nat} {Ay : Nat → Int32} {Dy Sl : Nat → Nat} {Al : Nat → Int32} {Dl MX : Nat → Nat} {MC : Nat → Int32}
theorem SIM.mk (e1 : n' = n) (e2 : T' = T) (e3 : U' = U) (hn : n ≤ 12) (hC : CON n T U) (hL : LRN n T U kn TS M ev) (hR : REC n T U kn2 HI KD MR gr) (hS : LST n op ki pl td lg td2 ld lt) (hK : TLK z Sa An Sd mv Sy Ay Dy) (hr : ∀ x, R x ≤ 12) (hX : ∀ x, MX x < 4096) :
    SIM (n, T, U, TS, M, P, tc, ev, kn, op, ki, pl, td, R, al, Sa, An, Sd, z, tl, X, Y, rz) (th, n', kn2, lg, td2, ld, lt, gr, mv, la, T', U', HI, KD, HE, AV, MR, Sy, Ay, Dy, Sl, Al, Dl, MX, MC) :=
  ⟨⟨hn, e1, e2, e3, hC⟩, hL, hR, hS, hK, hr, hX⟩
end Sim
theorem SIM.un {a : AS} {o : OS} (h : SIM a o) {motive : AS → OS → Prop} (k : ∀ (n : Nat) (T U TS M P : Nat → Nat) (tc ev : Nat) (kn op : Bool) (ki pl : Nat) (td : Option Nat) (R : Nat → Nat) (al : Nat) (Sa : Nat → Nat) (An : Nat → Int32) (Sd : Nat → Nat) (z : Nat) (tl : Bool) (X Y : Nat → Nat) (rz : Nat) (th : Nat) (kn2 lg td2 : Bool) (ld lt gr mv la : Nat) (HI KD : Nat → Nat) (HE AV : Nat → Bool) (MR Sy : Nat → Nat) (Ay : Nat → Int32) (Dy Sl : Nat → Nat) (Al : Nat → Int32) (Dl MX : Nat → Nat) (MC : Nat → Int32),
    n ≤ 12 → CON n T U → LRN n T U kn TS M ev → REC n T U kn2 HI KD MR gr → LST n op ki pl td lg td2 ld lt → TLK z Sa An Sd mv Sy Ay Dy → (∀ x, R x ≤ 12) → (∀ x, MX x < 4096) →
    motive (n, T, U, TS, M, P, tc, ev, kn, op, ki, pl, td, R, al, Sa, An, Sd, z, tl, X, Y, rz) (th, n, kn2, lg, td2, ld, lt, gr, mv, la, T, U, HI, KD, HE, AV, MR, Sy, Ay, Dy, Sl, Al, Dl, MX, MC)) : motive a o := by
  obtain ⟨n, T, U, TS, M, P, tc, ev, kn, op, ki, pl, td, R, al, Sa, An, Sd, z, tl, X, Y, rz⟩ := a
  obtain ⟨th, n', kn2, lg, td2, ld, lt, gr, mv, la, T', U', HI, KD, HE, AV, MR, Sy, Ay, Dy, Sl, Al, Dl, MX, MC⟩ := o
  obtain ⟨⟨hn, e1, e2, e3, hC⟩, hL, hR, hS, hK, hr, hX⟩ := h
  replace e1 : n' = n := e1
  replace e2 : T' = T := e2
  replace e3 : U' = U := e3
  subst e1; subst e2; subst e3
  exact k _ _ _ _ _ _ _ _ _ _ _ _ _ _ _ _ _ _ _ _ _ _ _ _ _ _ _ _ _ _ _ _ _ _ _ _ _ _ _ _ _ _ _ _ _ hn hC hL hR hS hK hr hX
theorem SIM_0 : SIM (0, (fun _ => 0), (fun _ => 0), (fun _ => 0), (fun _ => 0), (fun _ => 0), 0, 0, false, false, 0, 0, none, (fun _ => 0), 0, (fun _ => 0), aN (fun _ => 0), (fun _ => 0), 0, false, (fun _ => 0), (fun _ => 0), 0)
    (0, 0, false, false, false, 0, 1, 0, 0, 0, (fun _ => 0), (fun _ => 0), (fun _ => 0), (fun _ => 0), (fun _ => false), (fun _ => false), (fun _ => 0), (fun _ => 0), aN (fun _ => 0), (fun _ => 0), (fun _ => 0), aN (fun _ => 0), (fun _ => 0), (fun _ => 0), aN (fun _ => 0)) :=
  SIM.mk rfl rfl rfl (by decide) CON_0 ⟨fun _ => Nat.zero_lt_succ _, by decide, (fun q => nomatch q)⟩ ⟨fun _ => Nat.zero_lt_succ _, fun _ => Nat.zero_lt_succ _, fun _ => Nat.zero_le _, (fun q => nomatch q)⟩ ⟨rfl, (fun q => nomatch q), by decide, by decide, rfl, (fun _ q => nomatch q)⟩ ⟨rfl, by decide, fun i h => absurd h (Nat.not_lt_zero i)⟩ (fun _ => Nat.zero_le _) (fun _ => Nat.zero_lt_succ _)
