section
/-! What the owed statement says of the room: at every start that it allows, the run of the law ends with at most 750,793 cells more than it began with (its frame: no more new cells than the room). -/
theorem pb_bound (hc : Claimed_1_1) (l : Launch) (hf : l.flags = flags0) (hl : Lists l classFile x code maxLocals ret tables_1 room_1) (p : Program) (e : Env) (ha : l.admits e) (h1 : FairCas e.choices) (h2 : FairClock e.choices)
    (s : State) (m : MethodId) (args : Array Value) (below : List Frame) (hs : s.frames = Frame.invoking m args :: below) (h3 : argsFit s.vm m args = true) (h4 : heapFits s = true)
    (h5 : (headSpec (Cond.code x code maxLocals ret :: tables_1) room_1).applies x e.platform s = true) (h6 : Calls_1 p.tables e args s) (h7 : rest_1 p.tables e args s) (h8 : Pre_1 p.tables e args s) :
    ∃ (n : Nat) (o : Outcome), (∀ k, k < n → Within (stepsAlone p.tables e k s) below) ∧ Ended (stepsAlone p.tables e n s) below o ∧ (stepsAlone p.tables e n s).heap.size ≤ s.heap.size + 750793 := by
  obtain ⟨n, o, hw, _, he, hp⟩ := hc l hf hl trivial p e ha h1 h2 s m args below hs h3 h4 h5 ⟨h6, h7, h8⟩
  obtain ⟨_, hfr⟩ := hp
  exact ⟨n, o, hw, he, hfr.2.2.2.2.1⟩
end
section
/-! The law's own count, after its Java text: how many objects and arrays one call of Machine.reachable makes on the script pc_script. Each verdict called from goesOn and from reachable's last loop makes: the array of the configuration (1), the iterator of the transitions (1), the array 'next' where a transition is chosen (1), the iterator of the invariants where 'next' is in range (1). Nothing is collected: the statement counts every cell. -/
def pc_script : List Nat := [21305, 1475968, 1344148, 1230993, 19077, 0, 0, 0, 0, 0, 0, 0, 0] ++ List.replicate 28 5
def pc_cell (k : Nat) : Nat := pc_script.getD k (113 * k + 67)
def pc_bits (y a n : Nat) : Nat := (y >>> a) % 2 ^ n
def pc_states : Nat := 1 + pc_bits (pc_cell 0) 0 2
def pc_events : Nat := 1 + pc_bits (pc_cell 0) 2 2 % 3
def pc_vars : Nat := 1 + pc_bits (pc_cell 0) 4 1
/-- source, event, target; guard: none, or (variable, op, constant); action: none, or (variable, action, constant) -/
abbrev PcT : Type := Nat × Nat × Nat × Option (Nat × Nat × Nat) × Option (Nat × Nat × Nat)
def pc_tr (y : Nat) : PcT :=
  (pc_bits y 0 2 % pc_states, pc_bits y 2 2 % pc_events, pc_bits y 4 2 % pc_states,
    (if pc_bits y 6 1 = 0 then some (pc_bits y 7 1 % pc_vars, pc_bits y 8 3 % 6, pc_bits y 11 4 % 10) else none),
    (if pc_bits y 15 2 = 0 then none else some (pc_bits y 17 1 % pc_vars, pc_bits y 18 2 % 3, pc_bits y 20 2)))
def pc_trs : List PcT := (List.range (2 + pc_bits (pc_cell 0) 13 3)).map (fun k => pc_tr (pc_cell (1 + k)))
def pc_ini (k : Nat) : Nat := if k < pc_vars then pc_bits (pc_cell 0) (5 + 4 * k) 4 % 10 else 0
/-- two states, three events, two variables, both 9 at first; four transitions; no invariant is kept; each of the 28 events is case 5, 'reachable' -/
theorem pc_machine : pc_states = 2 ∧ pc_events = 3 ∧ pc_vars = 2 ∧ pc_ini 0 = 9 ∧ pc_ini 1 = 9 ∧ pc_bits (pc_cell 0) 16 2 = 0 := by decide +kernel
theorem pc_cases : (List.range 28).all (fun k => pc_bits (pc_cell (13 + k)) 0 4 == 5) = true := by decide +kernel
theorem pc_trs_are : pc_trs = [(0, 0, 0, some (1, 5, 0), some (1, 1, 1)), (0, 1, 1, some (1, 2, 0), some (0, 1, 1)), (1, 0, 1, some (1, 0, 9), some (1, 0, 1)), (1, 1, 0, some (1, 2, 9), none)] := by rfl
def pc_holds (c : Nat × Nat × Nat) (u v : Nat) : Bool :=
  let z := if c.1 = 0 then u else v
  match c.2.1 with
  | 0 => Nat.blt z c.2.2
  | 1 => Nat.ble z c.2.2
  | 2 => Nat.beq z c.2.2
  | 3 => !Nat.beq z c.2.2
  | 4 => Nat.ble c.2.2 z
  | _ => Nat.blt c.2.2 z
def pc_guard (t : PcT) (u v : Nat) : Bool := match t.2.2.2.1 with
  | none => true
  | some c => pc_holds c u v
def pc_act1 (a : Nat × Nat × Nat) (z : Nat) : Option Nat := match a.2.1 with
  | 0 => if z + a.2.2 ≤ 9 then some (z + a.2.2) else none
  | 1 => if a.2.2 ≤ z then some (z - a.2.2) else none
  | _ => some a.2.2
def pc_act (t : PcT) (u v : Nat) : Option (Nat × Nat) := match t.2.2.2.2 with
  | none => some (u, v)
  | some a => if a.1 = 0 then (pc_act1 a u).map (fun z => (z, v)) else (pc_act1 a v).map (fun z => (u, z))
/-- a verdict: where it leads (there are no invariants), and how many cells it makes beside the array that it is given -/
def pc_verdict (s u v e : Nat) : Option Nat × Nat := match pc_trs.find? (fun t => Nat.beq t.1 s && Nat.beq t.2.1 e && pc_guard t u v) with
  | none => (none, 1)
  | some t => match pc_act t u v with
    | none => (none, 2)
    | some (u, v) => (some (100 * t.2.2.1 + 10 * u + v), 3)
/-- all the ways on from configuration c, and the cells that its three events cost -/
def pc_on (c : Nat) : List Nat × Nat := (List.range pc_events).foldl (fun r e => let q := pc_verdict (c / 100) (c / 10 % 10) (c % 10) e; (r.1 ++ q.1.toList, r.2 + 1 + q.2)) ([], 0)
def pc_set (seen : Nat) (l : List Nat) : Nat := l.foldl (fun z c => z ||| (1 <<< c)) seen
/-- one round of the while loop, from configuration c on: who is seen (bits), the cells -/
def pc_round : Nat → Nat → Nat → Nat → Nat × Nat
  | 0, _, seen, cells => (seen, cells)
  | n + 1, c, seen, cells => match Nat.beq ((seen >>> c) % 2) 1 with
    | true => pc_round n (c + 1) (pc_set seen (pc_on c).1) (cells + (pc_on c).2)
    | false => pc_round n (c + 1) seen cells
/-- rounds until nothing new is seen: who is seen, the cells, how many rounds -/
def pc_rounds : Nat → Nat → Nat → Nat → Nat × Nat × Nat
  | 0, seen, cells, k => (seen, cells, k)
  | n + 1, seen, cells, k =>
    let q := pc_round (100 * pc_states) 0 seen cells
    match Nat.beq q.1 seen with
    | true => (q.1, q.2, k + 1)
    | false => pc_rounds n q.1 q.2 (k + 1)
/-- the last loop: each configuration that is seen once more -/
def pc_last (seen : Nat) : Nat := ((List.range (100 * pc_states)).map (fun c => if (seen >>> c) % 2 = 1 then (pc_on c).2 else 0)).foldl (· + ·) 0
def pc_all : Nat × Nat × Nat := pc_rounds 400 (1 <<< 99) 0 0
set_option maxRecDepth 100000 in
set_option maxHeartbeats 4000000 in
/-- 100 rounds, 77,119 cells -/
theorem pc_counted : pc_all = (1569275433846670190958947355801916604025588861116008628223, 77119, 100) := by decide +kernel
set_option maxRecDepth 100000 in
set_option maxHeartbeats 4000000 in
theorem pc_lasts : pc_last 1569275433846670190958947355801916604025588861116008628223 = 1519 := by decide +kernel
theorem pc_sum (q : Nat × Nat × Nat) (h1 : q = (1569275433846670190958947355801916604025588861116008628223, 77119, 100)) : q.2.1 = 77119 ∧ pc_last q.1 = 1519 := by
  subst h1
  exact ⟨rfl, pc_lasts⟩
/-- ten such calls alone pass the room; the script has 28 -/
theorem pc_passes : 750793 < 10 * (pc_all.2.1 + pc_last pc_all.1) ∧ 28 * (pc_all.2.1 + pc_last pc_all.1) = 2201864 := by
  obtain ⟨h1, h2⟩ := pc_sum pc_all pc_counted
  generalize pc_all.2.1 = z at h1
  generalize pc_last pc_all.1 = y at h2
  subst h1 h2
  decide
end
