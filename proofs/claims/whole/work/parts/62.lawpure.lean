def zb (x : Int32) : Int32 := if x = 0 then 0 else 1
/-- one call of the script: both sides, and their answers are the same -/
def lawC (j : Nat) (a : Nat → Int32) (σ τ : mS) : Option (mS × mS) := match j with
  | 0 => (f_LP_heap σ).bind fun o => (f_Mo_heap τ).bind fun q => if o = q then some (σ, τ) else none
  | 1 => (f_LP_node σ).bind fun o => (f_Mo_node τ).bind fun q => if o.1 = q.1 then some (o.2, q.2) else none
  | 2 => (f_LP_arc σ (a 1) (a 2) (a 3)).bind fun o => (f_Mo_arc τ (a 1) (a 2) (a 3)).bind fun q => if o.1 = q.1 then some (o.2, q.2) else none
  | 3 => (f_LP_share σ (a 1) (a 2) (a 3)).bind fun o => (f_Mo_share τ (a 1) (a 2) (a 3)).bind fun q => if o.1 = q.1 then some (o.2, q.2) else none
  | 4 => (f_LP_drop σ (a 1)).bind fun o => (f_Mo_drop τ (a 1)).bind fun q => if o.1 = q.1 then some (o.2, q.2) else none
  | 5 => (f_LP_source σ (a 1) (zb (a 2))).bind fun o => (f_Mo_source τ (a 1) (zb (a 2))).bind fun q => if o.1 = q.1 then some (o.2, q.2) else none
  | 6 => (f_LP_rest σ (a 1) (a 2)).bind fun o => (f_Mo_rest τ (a 1) (a 2)).bind fun q => if o.1 = q.1 then some (o.2, q.2) else none
  | 7 => (f_LP_clear σ).bind fun o => (f_Mo_clear τ).bind fun q => if o.1 = q.1 then some (o.2, q.2) else none
  | 8 => (f_LP_distance σ (a 1)).bind fun o => (f_Mo_distance τ (a 1)).bind fun q => if o.1 = q.1 then some (o.2, q.2) else none
  | 9 => (f_LP_hops σ (a 1)).bind fun o => (f_Mo_hops τ (a 1)).bind fun q => if o.1 = q.1 then some (o.2, q.2) else none
  | 10 => (f_LP_step σ (a 1)).bind fun o => (f_Mo_step τ (a 1)).bind fun q => if o.1 = q.1 then some (o.2, q.2) else none
  | 11 => (f_LP_ways σ (a 1)).bind fun o => (f_Mo_ways τ (a 1)).bind fun q => if o.1 = q.1 then some (o.2, q.2) else none
  | 12 => (f_LP_tree σ (a 1) (a 2)).bind fun o => (f_Mo_tree τ (a 1) (a 2)).bind fun q => if o.1 = q.1 then some (o.2, q.2) else none
  | 13 => (f_LP_reached σ).bind fun o => (f_Mo_reached τ).bind fun q => if o.1 = q.1 then some (o.2, q.2) else none
  | 14 => (f_LP_good σ (a 1)).bind fun o => (f_Mo_good τ (a 1)).bind fun q => if o = q then some (σ, τ) else none
  | 15 => (f_LP_led σ (a 1) (a 2)).bind fun o => (f_Mo_led τ (a 1) (a 2)).bind fun q => if o.1 = q.1 then some (o.2, q.2) else none
  | 16 => (f_LP_ledTo σ (a 1) (a 2)).bind fun o => (f_Mo_ledTo τ (a 1) (a 2)).bind fun q => if o.1 = q.1 then some (o.2, q.2) else none
  | 17 => (f_LP_both σ (a 1) (a 2)).bind fun o => (f_Mo_both τ (a 1) (a 2)).bind fun q => if o.1 = q.1 then some (o.2, q.2) else none
  | 18 => (f_LP_bothTo σ (a 1) (a 2)).bind fun o => (f_Mo_bothTo τ (a 1) (a 2)).bind fun q => if o.1 = q.1 then some (o.2, q.2) else none
  | 19 => (f_LP_kth σ (a 1) (a 2) (a 3)).bind fun o => (f_Mo_kth τ (a 1) (a 2) (a 3)).bind fun q => if o.1 = q.1 then some (o.2, q.2) else none
  | 20 => (f_LP_kthArc σ (a 1) (a 2) (a 3) (a 4)).bind fun o => (f_Mo_kthArc τ (a 1) (a 2) (a 3) (a 4)).bind fun q => if o.1 = q.1 then some (o.2, q.2) else none
  | 21 => (f_LP_widest σ (a 1) (a 2)).bind fun o => (f_Mo_widest τ (a 1) (a 2)).bind fun q => if o.1 = q.1 then some (o.2, q.2) else none
  | 22 => (f_LP_trust σ (a 1) (a 2) (a 3)).bind fun o => (f_Mo_trust τ (a 1) (a 2) (a 3)).bind fun q => if o.1 = q.1 then some (o.2, q.2) else none
  | 23 => (f_LP_ring σ).bind fun o => (f_Mo_ring τ).bind fun q => if o.1 = q.1 then some (o.2, q.2) else none
  | 24 => (f_LP_ringArc σ (a 1)).bind fun o => (f_Mo_ringArc τ (a 1)).bind fun q => if o.1 = q.1 then some (o.2, q.2) else none
  | 25 => (f_LP_missed σ (a 1) (a 2)).bind fun o => (f_Mo_missed τ (a 1) (a 2)).bind fun q => if o.1 = q.1 then some (o.2, q.2) else none
  | _ => some (σ, τ)
def lawN (xs : Nat → Int32) (L : Nat) : Nat → Nat → mS → mS → Option Unit
  | 0, _, _, _ => none
  | d + 1, i, σ, τ => if i + 5 ≤ L then (lawC (xs i &&& 31).toNatClampNeg (fun k => xs (i + k)) σ τ).bind fun q => lawN xs L d (i + 5) q.1 q.2 else some ()
