/-! the shapes of the objects, each at its own address b, its parts behind it -/
def PadS (S : Sh) (b : Nat) : Prop := S.2 b = some (oS 2 [some (some (b + 1)), none]) ∧ S.2 (b + 1) = some (aI 40)
theorem PadS.p {S : Sh} {b : Nat} (h : PadS S b) : S.2 b = some (oS 2 [some (some (b + 1)), none]) := h.1
theorem PadS.p_signs {S : Sh} {b : Nat} (h : PadS S b) : S.2 (b + 1) = some (aI 40) := h.2
def RelS (S : Sh) (b : Nat) : Prop := S.2 b = some (oS 4 [some (some (b + 1)), some (some (b + 2)), none, none, none]) ∧ S.2 (b + 1) = some (aI 6) ∧ S.2 (b + 2) = some (aI 64)
theorem RelS.p {S : Sh} {b : Nat} (h : RelS S b) : S.2 b = some (oS 4 [some (some (b + 1)), some (some (b + 2)), none, none, none]) := h.1
theorem RelS.p_noLess {S : Sh} {b : Nat} (h : RelS S b) : S.2 (b + 1) = some (aI 6) := h.2.1
theorem RelS.p_ways {S : Sh} {b : Nat} (h : RelS S b) : S.2 (b + 2) = some (aI 64) := h.2.2
def SpnS (S : Sh) (b : Nat) : Prop := S.2 b = some (oS 5 [some (some (b + 1)), some (some (b + 2)), none]) ∧ S.2 (b + 1) = some (aI 6) ∧ S.2 (b + 2) = some (aI 6)
theorem SpnS.p {S : Sh} {b : Nat} (h : SpnS S b) : S.2 b = some (oS 5 [some (some (b + 1)), some (some (b + 2)), none]) := h.1
theorem SpnS.p_low {S : Sh} {b : Nat} (h : SpnS S b) : S.2 (b + 1) = some (aI 6) := h.2.1
theorem SpnS.p_high {S : Sh} {b : Nat} (h : SpnS S b) : S.2 (b + 2) = some (aI 6) := h.2.2
def FalS (S : Sh) (b : Nat) : Prop := S.2 b = some (oS 1 [none, none, none])
theorem FalS.p {S : Sh} {b : Nat} (h : FalS S b) : S.2 b = some (oS 1 [none, none, none]) := h
def WlnS (S : Sh) (b : Nat) : Prop := S.2 b = some (oS 6 [some (some (b + 1)), none, none, none]) ∧ S.2 (b + 1) = some (aI 6)
theorem WlnS.p {S : Sh} {b : Nat} (h : WlnS S b) : S.2 b = some (oS 6 [some (some (b + 1)), none, none, none]) := h.1
theorem WlnS.p_line {S : Sh} {b : Nat} (h : WlnS S b) : S.2 (b + 1) = some (aI 6) := h.2
def BookS (S : Sh) (b : Nat) : Prop := S.2 b = some (oS 0 [some (some (b + 1)), some (some (b + 14)), some (some (b + 15)), some (some (b + 16)), some (some (b + 17)), some (some (b + 18)), none, none, none]) ∧ S.2 (b + 1) = some (aR 102 12 (fun i => if i < 12 then some (b + 2 + i) else none)) ∧ S.2 (b + 14) = some (aI 6) ∧ S.2 (b + 15) = some (aI 6) ∧ S.2 (b + 16) = some (aI 6) ∧ S.2 (b + 17) = some (aI 6) ∧ S.2 (b + 18) = some (aI 6) ∧ ∀ i : Nat, i < 12 → S.2 (b + 2 + i) = some (aI 5)
theorem BookS.p {S : Sh} {b : Nat} (h : BookS S b) : S.2 b = some (oS 0 [some (some (b + 1)), some (some (b + 14)), some (some (b + 15)), some (some (b + 16)), some (some (b + 17)), some (some (b + 18)), none, none, none]) := h.1
theorem BookS.p_sayings {S : Sh} {b : Nat} (h : BookS S b) : S.2 (b + 1) = some (aR 102 12 (fun i => if i < 12 then some (b + 2 + i) else none)) := h.2.1
theorem BookS.p_lifts {S : Sh} {b : Nat} (h : BookS S b) : S.2 (b + 14) = some (aI 6) := h.2.2.1
theorem BookS.p_least {S : Sh} {b : Nat} (h : BookS S b) : S.2 (b + 15) = some (aI 6) := h.2.2.2.1
theorem BookS.p_greatest {S : Sh} {b : Nat} (h : BookS S b) : S.2 (b + 16) = some (aI 6) := h.2.2.2.2.1
theorem BookS.p_tolls {S : Sh} {b : Nat} (h : BookS S b) : S.2 (b + 17) = some (aI 6) := h.2.2.2.2.2.1
theorem BookS.p_weights {S : Sh} {b : Nat} (h : BookS S b) : S.2 (b + 18) = some (aI 6) := h.2.2.2.2.2.2.1
theorem BookS.p_row {S : Sh} {b : Nat} (h : BookS S b) : ∀ i : Nat, i < 12 → S.2 (b + 2 + i) = some (aI 5) := h.2.2.2.2.2.2.2
def ModS (S : Sh) (b : Nat) : Prop := S.2 b = some (oS 8 [none, none, some (some (b + 1)), none, some (some (b + 2)), some (some (b + 3)), some (some (b + 4)), some (some (b + 5)), some (some (b + 6)), none, some (some (b + 7)), some (some (b + 8)), some (some (b + 9)), none, some (some (b + 10)), some (some (b + 11)), some (some (b + 12)), none, some (some (b + 13)), some (some (b + 14)), some (some (b + 15)), some (some (b + 16)), some (some (b + 17)), some (some (b + 18)), some (some (b + 19)), some (some (b + 20)), some (some (b + 21))]) ∧ S.2 (b + 1) = some (aI 40) ∧ S.2 (b + 2) = some (aI 60) ∧ S.2 (b + 3) = some (aI 6) ∧ S.2 (b + 4) = some (aI 6) ∧ S.2 (b + 5) = some (aI 6) ∧ S.2 (b + 6) = some (aI 6) ∧ S.2 (b + 7) = some (aI 6) ∧ S.2 (b + 8) = some (aZ 36) ∧ S.2 (b + 9) = some (aZ 36) ∧ S.2 (b + 10) = some (aI 6) ∧ S.2 (b + 11) = some (aI 6) ∧ S.2 (b + 12) = some (aI 64) ∧ S.2 (b + 13) = some (aI 26000) ∧ S.2 (b + 14) = some (aI 26000) ∧ S.2 (b + 15) = some (aI 26000) ∧ S.2 (b + 16) = some (aI 65536) ∧ S.2 (b + 17) = some (aI 6) ∧ S.2 (b + 18) = some (aI 6) ∧ S.2 (b + 19) = some (aI 6) ∧ S.2 (b + 20) = some (aI 186) ∧ S.2 (b + 21) = some (aZ 2)
theorem ModS.p {S : Sh} {b : Nat} (h : ModS S b) : S.2 b = some (oS 8 [none, none, some (some (b + 1)), none, some (some (b + 2)), some (some (b + 3)), some (some (b + 4)), some (some (b + 5)), some (some (b + 6)), none, some (some (b + 7)), some (some (b + 8)), some (some (b + 9)), none, some (some (b + 10)), some (some (b + 11)), some (some (b + 12)), none, some (some (b + 13)), some (some (b + 14)), some (some (b + 15)), some (some (b + 16)), some (some (b + 17)), some (some (b + 18)), some (some (b + 19)), some (some (b + 20)), some (some (b + 21))]) := h.1
theorem ModS.p_pad {S : Sh} {b : Nat} (h : ModS S b) : S.2 (b + 1) = some (aI 40) := h.2.1
theorem ModS.p_book {S : Sh} {b : Nat} (h : ModS S b) : S.2 (b + 2) = some (aI 60) := h.2.2.1
theorem ModS.p_lifts {S : Sh} {b : Nat} (h : ModS S b) : S.2 (b + 3) = some (aI 6) := h.2.2.2.1
theorem ModS.p_tolls {S : Sh} {b : Nat} (h : ModS S b) : S.2 (b + 4) = some (aI 6) := h.2.2.2.2.1
theorem ModS.p_low {S : Sh} {b : Nat} (h : ModS S b) : S.2 (b + 5) = some (aI 6) := h.2.2.2.2.2.1
theorem ModS.p_high {S : Sh} {b : Nat} (h : ModS S b) : S.2 (b + 6) = some (aI 6) := h.2.2.2.2.2.2.1
theorem ModS.p_weights {S : Sh} {b : Nat} (h : ModS S b) : S.2 (b + 7) = some (aI 6) := h.2.2.2.2.2.2.2.1
theorem ModS.p_over {S : Sh} {b : Nat} (h : ModS S b) : S.2 (b + 8) = some (aZ 36) := h.2.2.2.2.2.2.2.2.1
theorem ModS.p_same {S : Sh} {b : Nat} (h : ModS S b) : S.2 (b + 9) = some (aZ 36) := h.2.2.2.2.2.2.2.2.2.1
theorem ModS.p_group {S : Sh} {b : Nat} (h : ModS S b) : S.2 (b + 10) = some (aI 6) := h.2.2.2.2.2.2.2.2.2.2.1
theorem ModS.p_groupOf {S : Sh} {b : Nat} (h : ModS S b) : S.2 (b + 11) = some (aI 6) := h.2.2.2.2.2.2.2.2.2.2.2.1
theorem ModS.p_ways {S : Sh} {b : Nat} (h : ModS S b) : S.2 (b + 12) = some (aI 64) := h.2.2.2.2.2.2.2.2.2.2.2.2.1
theorem ModS.p_known {S : Sh} {b : Nat} (h : ModS S b) : S.2 (b + 13) = some (aI 26000) := h.2.2.2.2.2.2.2.2.2.2.2.2.2.1
theorem ModS.p_lying {S : Sh} {b : Nat} (h : ModS S b) : S.2 (b + 14) = some (aI 26000) := h.2.2.2.2.2.2.2.2.2.2.2.2.2.2.1
theorem ModS.p_value {S : Sh} {b : Nat} (h : ModS S b) : S.2 (b + 15) = some (aI 26000) := h.2.2.2.2.2.2.2.2.2.2.2.2.2.2.2.1
theorem ModS.p_table {S : Sh} {b : Nat} (h : ModS S b) : S.2 (b + 16) = some (aI 65536) := h.2.2.2.2.2.2.2.2.2.2.2.2.2.2.2.2.1
theorem ModS.p_least {S : Sh} {b : Nat} (h : ModS S b) : S.2 (b + 17) = some (aI 6) := h.2.2.2.2.2.2.2.2.2.2.2.2.2.2.2.2.2.1
theorem ModS.p_greatest {S : Sh} {b : Nat} (h : ModS S b) : S.2 (b + 18) = some (aI 6) := h.2.2.2.2.2.2.2.2.2.2.2.2.2.2.2.2.2.2.1
theorem ModS.p_order {S : Sh} {b : Nat} (h : ModS S b) : S.2 (b + 19) = some (aI 6) := h.2.2.2.2.2.2.2.2.2.2.2.2.2.2.2.2.2.2.2.1
theorem ModS.p_image {S : Sh} {b : Nat} (h : ModS S b) : S.2 (b + 20) = some (aI 186) := h.2.2.2.2.2.2.2.2.2.2.2.2.2.2.2.2.2.2.2.2.1
theorem ModS.p_isKept {S : Sh} {b : Nat} (h : ModS S b) : S.2 (b + 21) = some (aZ 2) := h.2.2.2.2.2.2.2.2.2.2.2.2.2.2.2.2.2.2.2.2.2
def PlnS (S : Sh) (b N : Nat) : Prop := S.2 b = some (oS 3 [none, none, some (some (b + 1))]) ∧ S.2 (b + 1) = some (aI N)
theorem PlnS.p {S : Sh} {b N : Nat} (h : PlnS S b N) : S.2 b = some (oS 3 [none, none, some (some (b + 1))]) := h.1
theorem PlnS.p_found {S : Sh} {b N : Nat} (h : PlnS S b N) : S.2 (b + 1) = some (aI N) := h.2
def LsS (S : Sh) (b : Nat) (im pl : Nat → Option Nat) : Prop := S.2 b = some (oS 7 [some (some (b + 1)), some (some (b + 3)), some (some (b + 22)), some (some (b + 23)), some (some (b + 26)), some (some (b + 29)), some (some (b + 30)), some (some (b + 32))]) ∧ PadS S (b + 1) ∧ BookS S (b + 3) ∧ S.2 (b + 22) = some (aR 103 2 im) ∧ RelS S (b + 23) ∧ SpnS S (b + 26) ∧ FalS S (b + 29) ∧ WlnS S (b + 30) ∧ S.2 (b + 32) = some (aR 104 6 pl)
theorem LsS.p {S : Sh} {b : Nat} {im pl : Nat → Option Nat} (h : LsS S b im pl) : S.2 b = some (oS 7 [some (some (b + 1)), some (some (b + 3)), some (some (b + 22)), some (some (b + 23)), some (some (b + 26)), some (some (b + 29)), some (some (b + 30)), some (some (b + 32))]) := h.1
theorem LsS.pad {S : Sh} {b : Nat} {im pl : Nat → Option Nat} (h : LsS S b im pl) : PadS S (b + 1) := h.2.1
theorem LsS.book {S : Sh} {b : Nat} {im pl : Nat → Option Nat} (h : LsS S b im pl) : BookS S (b + 3) := h.2.2.1
theorem LsS.images {S : Sh} {b : Nat} {im pl : Nat → Option Nat} (h : LsS S b im pl) : S.2 (b + 22) = some (aR 103 2 im) := h.2.2.2.1
theorem LsS.relation {S : Sh} {b : Nat} {im pl : Nat → Option Nat} (h : LsS S b im pl) : RelS S (b + 23) := h.2.2.2.2.1
theorem LsS.spans {S : Sh} {b : Nat} {im pl : Nat → Option Nat} (h : LsS S b im pl) : SpnS S (b + 26) := h.2.2.2.2.2.1
theorem LsS.falseSayings {S : Sh} {b : Nat} {im pl : Nat → Option Nat} (h : LsS S b im pl) : FalS S (b + 29) := h.2.2.2.2.2.2.1
theorem LsS.weighedLine {S : Sh} {b : Nat} {im pl : Nat → Option Nat} (h : LsS S b im pl) : WlnS S (b + 30) := h.2.2.2.2.2.2.2.1
theorem LsS.planners {S : Sh} {b : Nat} {im pl : Nat → Option Nat} (h : LsS S b im pl) : S.2 (b + 32) = some (aR 104 6 pl) := h.2.2.2.2.2.2.2.2
