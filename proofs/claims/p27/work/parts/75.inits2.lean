abbrev as0 : mAs := (st0, (0, fun _ => st0), (0, fun _ => 0))
abbrev gz0 : Nat → Nat := (upN (upN (upN (upN (fun _ => 0) 0 3) 1 4) 3 2) 4 10)
