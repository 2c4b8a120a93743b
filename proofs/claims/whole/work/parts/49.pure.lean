theorem inv_0 (L : Nat) : x_inv L 0 x0 := inv_0' L
theorem inv_next {L t : Nat} {x : xS} (h : x_inv L t x) : x_inv L (t + 1) x := inv_next' h
theorem inv_part {L t : Nat} (hL : 1 ≤ L ∧ L ≤ 6) {x : xS} (h : x_inv L t x) (ht : t < 512) (a b c : Int32) : x_inv L (t + 1) (x_part L x a b c).2 := inv_part' hL h ht a b c
theorem inv_water {L t : Nat} (hL : 1 ≤ L ∧ L ≤ 6) {x : xS} (h : x_inv L t x) (ht : t < 512) (a b : Int32) : x_inv L (t + 1) (x_water L x a b).2 := inv_water' hL h ht a b
theorem inv_heat {L t : Nat} (hL : 1 ≤ L ∧ L ≤ 6) {x : xS} (h : x_inv L t x) (ht : t < 512) (a b : Int32) : x_inv L (t + 1) (x_heat L x a b).2 := inv_heat' hL h ht a b
theorem inv_rate {L t : Nat} (hL : 1 ≤ L ∧ L ≤ 6) {x : xS} (h : x_inv L t x) (ht : t < 512) (a b c : Int32) : x_inv L (t + 1) (x_rate x a b c).2 := inv_rate' h a b c
theorem inv_yields {L t : Nat} (hL : 1 ≤ L ∧ L ≤ 6) {x : xS} (h : x_inv L t x) (ht : t < 512) (a b c : Int32) : x_inv L (t + 1) (x_yields x a b c).2 := inv_yields' h a b c
theorem inv_bounds {L t : Nat} (hL : 1 ≤ L ∧ L ≤ 6) {x : xS} (h : x_inv L t x) (ht : t < 512) (a b c : Int32) : x_inv L (t + 1) (x_bounds L x a b c).2 := inv_bounds' h a b c
theorem inv_rain {L t : Nat} (hL : 1 ≤ L ∧ L ≤ 6) {x : xS} (h : x_inv L t x) (ht : t < 512) (a : Int32) : x_inv L (t + 1) (x_rain x a).2 := inv_rain' h a
theorem inv_loss {L t : Nat} (hL : 1 ≤ L ∧ L ≤ 6) {x : xS} (h : x_inv L t x) (ht : t < 512) (a : Int32) : x_inv L (t + 1) (x_loss x a).2 := inv_loss' h a
theorem inv_limit {L t : Nat} (hL : 1 ≤ L ∧ L ≤ 6) {x : xS} (h : x_inv L t x) (ht : t < 512) (a : Int32) : x_inv L (t + 1) (x_limit x a).2 := inv_limit' h a
theorem inv_fan {L t : Nat} (hL : 1 ≤ L ∧ L ≤ 6) {x : xS} (h : x_inv L t x) (ht : t < 512) (a b c : Int32) : x_inv L (t + 1) (x_fan x a b c).2 := inv_fan' h a b c
theorem inv_run {L t : Nat} (hL : 1 ≤ L ∧ L ≤ 6) {x : xS} (h : x_inv L t x) (ht : t < 512) (a : Int32) : x_inv L (t + 1) (x_run L x a).2 := inv_run' hL h ht a
theorem inv_turn {L t : Nat} (hL : 1 ≤ L ∧ L ≤ 6) {x : xS} (h : x_inv L t x) (ht : t < 512) : x_inv L (t + 1) (x_turn L x).2 := inv_turn' hL h ht
theorem inv_batch {L t : Nat} (hL : 1 ≤ L ∧ L ≤ 6) {x : xS} (h : x_inv L t x) (ht : t < 512) : x_inv L (t + 1) (x_batchN x L).2 := inv_batch' h
theorem eq_run {L t : Nat} (hL : 1 ≤ L ∧ L ≤ 6) {x : xS} (h : x_inv L t x) (ht : t < 512) (a : Int32) : m_run L x a = x_run L x a := eq_run' hL h ht a
theorem eq_warmth {L t : Nat} (hL : 1 ≤ L ∧ L ≤ 6) {x : xS} (h : x_inv L t x) (ht : t < 512) (a : Int32) : m_warmth L x a = x_warmth L x a := eq_warmth' hL h ht a
theorem eq_turn {L : Nat} (hL : 1 ≤ L ∧ L ≤ 6) (x : xS) : m_turn L x = x_turn L x := eq_turn' x
theorem eq_balance {L : Nat} (hL : 1 ≤ L ∧ L ≤ 6) (x : xS) (a : Int32) : m_balance L x a = x_balance L x a := eq_balance' x a
theorem eq_batch1 {L : Nat} (hL : 1 ≤ L ∧ L ≤ 6) (x : xS) : (m_batch L x).1 = (x_batchN x L).1 := eq_batch1' x
theorem eq_batch2 {L : Nat} (hL : 1 ≤ L ∧ L ≤ 6) (g : wG) (ad : Nat → Nat) (x : xS) : mE g ad L (m_batch L x).2 = mE g ad L (x_batchN x L).2 := eq_batch2' g ad x
