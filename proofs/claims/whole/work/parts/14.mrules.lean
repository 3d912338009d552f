theorem qR1 {M : Nat} {h : Hp} (hw : MW M h) (s : MS) : gR (pm M h s) 10 1 M = some (some (M + 1)) := pm_gR hw s (by decide)
theorem qR2 {M : Nat} {h : Hp} (hw : MW M h) (s : MS) : gR (pm M h s) 10 2 M = some (some (M + 2)) := pm_gR hw s (by decide)
theorem qR3 {M : Nat} {h : Hp} (hw : MW M h) (s : MS) : gR (pm M h s) 10 3 M = some (some (M + 3)) := pm_gR hw s (by decide)
theorem qR4 {M : Nat} {h : Hp} (hw : MW M h) (s : MS) : gR (pm M h s) 10 4 M = some (some (M + 4)) := pm_gR hw s (by decide)
theorem qR5 {M : Nat} {h : Hp} (hw : MW M h) (s : MS) : gR (pm M h s) 10 5 M = some (some (M + 5)) := pm_gR hw s (by decide)
theorem qR6 {M : Nat} {h : Hp} (hw : MW M h) (s : MS) : gR (pm M h s) 10 6 M = some (some (M + 6)) := pm_gR hw s (by decide)
theorem qR7 {M : Nat} {h : Hp} (hw : MW M h) (s : MS) : gR (pm M h s) 10 7 M = some (some (M + 7)) := pm_gR hw s (by decide)
theorem qR8 {M : Nat} {h : Hp} (hw : MW M h) (s : MS) : gR (pm M h s) 10 8 M = some (some (M + 8)) := pm_gR hw s (by decide)
theorem qR9 {M : Nat} {h : Hp} (hw : MW M h) (s : MS) : gR (pm M h s) 10 9 M = some (some (M + 9)) := pm_gR hw s (by decide)
theorem qR10 {M : Nat} {h : Hp} (hw : MW M h) (s : MS) : gR (pm M h s) 10 10 M = some (some (M + 10)) := pm_gR hw s (by decide)
theorem qR11 {M : Nat} {h : Hp} (hw : MW M h) (s : MS) : gR (pm M h s) 10 11 M = some (some (M + 11)) := pm_gR hw s (by decide)
theorem qR12 {M : Nat} {h : Hp} (hw : MW M h) (s : MS) : gR (pm M h s) 10 12 M = some (some (M + 12)) := pm_gR hw s (by decide)
theorem qR13 {M : Nat} {h : Hp} (hw : MW M h) (s : MS) : gR (pm M h s) 10 13 M = some (some (M + 13)) := pm_gR hw s (by decide)
theorem qR14 {M : Nat} {h : Hp} (hw : MW M h) (s : MS) : gR (pm M h s) 10 14 M = some (some (M + 14)) := pm_gR hw s (by decide)
theorem qR15 {M : Nat} {h : Hp} (hw : MW M h) (s : MS) : gR (pm M h s) 10 15 M = some (some (M + 15)) := pm_gR hw s (by decide)
theorem qR16 {M : Nat} {h : Hp} (hw : MW M h) (s : MS) : gR (pm M h s) 10 16 M = some (some (M + 16)) := pm_gR hw s (by decide)
theorem qR17 {M : Nat} {h : Hp} (hw : MW M h) (s : MS) : gR (pm M h s) 10 17 M = some (some (M + 17)) := pm_gR hw s (by decide)
theorem qR18 {M : Nat} {h : Hp} (hw : MW M h) (s : MS) : gR (pm M h s) 10 18 M = some (some (M + 18)) := pm_gR hw s (by decide)
theorem qR19 {M : Nat} {h : Hp} (hw : MW M h) (s : MS) : gR (pm M h s) 10 19 M = some (some (M + 19)) := pm_gR hw s (by decide)
theorem qR20 {M : Nat} {h : Hp} (hw : MW M h) (s : MS) : gR (pm M h s) 10 20 M = some (some (M + 20)) := pm_gR hw s (by decide)
theorem qR21 {M : Nat} {h : Hp} (hw : MW M h) (s : MS) : gR (pm M h s) 10 21 M = some (some (M + 21)) := pm_gR hw s (by decide)
theorem qR22 {M : Nat} {h : Hp} (hw : MW M h) (s : MS) : gR (pm M h s) 10 22 M = some (some (M + 22)) := pm_gR hw s (by decide)
theorem qR23 {M : Nat} {h : Hp} (hw : MW M h) (s : MS) : gR (pm M h s) 10 23 M = some (some (M + 23)) := pm_gR hw s (by decide)
theorem qR25 {M : Nat} {h : Hp} (hw : MW M h) (s : MS) : gR (pm M h s) 10 25 M = some (some (M + 24)) := pm_gR hw s (by decide)
theorem qR26 {M : Nat} {h : Hp} (hw : MW M h) (s : MS) : gR (pm M h s) 10 26 M = some (some (M + 25)) := pm_gR hw s (by decide)
theorem qR32 {M : Nat} {h : Hp} (hw : MW M h) (s : MS) : gR (pm M h s) 10 32 M = some (some (M + 26)) := pm_gR hw s (by decide)
theorem qR33 {M : Nat} {h : Hp} (hw : MW M h) (s : MS) : gR (pm M h s) 10 33 M = some (some (M + 27)) := pm_gR hw s (by decide)
theorem qR34 {M : Nat} {h : Hp} (hw : MW M h) (s : MS) : gR (pm M h s) 10 34 M = some (some (M + 28)) := pm_gR hw s (by decide)
theorem qR35 {M : Nat} {h : Hp} (hw : MW M h) (s : MS) : gR (pm M h s) 10 35 M = some (some (M + 29)) := pm_gR hw s (by decide)
theorem qR36 {M : Nat} {h : Hp} (hw : MW M h) (s : MS) : gR (pm M h s) 10 36 M = some (some (M + 30)) := pm_gR hw s (by decide)
theorem qR37 {M : Nat} {h : Hp} (hw : MW M h) (s : MS) : gR (pm M h s) 10 37 M = some (some (M + 31)) := pm_gR hw s (by decide)
theorem qR38 {M : Nat} {h : Hp} (hw : MW M h) (s : MS) : gR (pm M h s) 10 38 M = some (some (M + 32)) := pm_gR hw s (by decide)
theorem qR39 {M : Nat} {h : Hp} (hw : MW M h) (s : MS) : gR (pm M h s) 10 39 M = some (some (M + 33)) := pm_gR hw s (by decide)
theorem qR43 {M : Nat} {h : Hp} (hw : MW M h) (s : MS) : gR (pm M h s) 10 43 M = some (some (M + 34)) := pm_gR hw s (by decide)
theorem qR44 {M : Nat} {h : Hp} (hw : MW M h) (s : MS) : gR (pm M h s) 10 44 M = some (some (M + 35)) := pm_gR hw s (by decide)
theorem qR45 {M : Nat} {h : Hp} (hw : MW M h) (s : MS) : gR (pm M h s) 10 45 M = some (some (M + 36)) := pm_gR hw s (by decide)
theorem qR46 {M : Nat} {h : Hp} (hw : MW M h) (s : MS) : gR (pm M h s) 10 46 M = some (some (M + 37)) := pm_gR hw s (by decide)
theorem qR48 {M : Nat} {h : Hp} (hw : MW M h) (s : MS) : gR (pm M h s) 10 48 M = some (some (M + 38)) := pm_gR hw s (by decide)
theorem ql1 {M : Nat} {h : Hp} (hw : MW M h) (s : MS) (t : Nat) (i : Int32) : ldI (pm M h s) t (M + 1) i = ldA s t 1 i := pm_ld hw s t 1 i (by decide)
theorem qs1 {β : Type} {M : Nat} {h : Hp} (hw : MW M h) (s : MS) (t : Nat) (i v : Int32) (K : Hp → Option β) : bd (stI (pm M h s) t (M + 1) i v) K = bd (stA s t 1 i v) (fun s2 => K (pm M h s2)) := pm_st hw s t 1 i v (by decide) K
theorem qz1 {β : Type} {M : Nat} {h : Hp} (hw : MW M h) (s : MS) (t : Nat) (i v : Int32) (K : Hp → Option β) : bd (stZ (pm M h s) t (M + 1) i v) K = bd (stB s t 1 i v) (fun s2 => K (pm M h s2)) := pm_sz hw s t 1 i v (by decide) K
theorem ql2 {M : Nat} {h : Hp} (hw : MW M h) (s : MS) (t : Nat) (i : Int32) : ldI (pm M h s) t (M + 2) i = ldA s t 2 i := pm_ld hw s t 2 i (by decide)
theorem qs2 {β : Type} {M : Nat} {h : Hp} (hw : MW M h) (s : MS) (t : Nat) (i v : Int32) (K : Hp → Option β) : bd (stI (pm M h s) t (M + 2) i v) K = bd (stA s t 2 i v) (fun s2 => K (pm M h s2)) := pm_st hw s t 2 i v (by decide) K
theorem qz2 {β : Type} {M : Nat} {h : Hp} (hw : MW M h) (s : MS) (t : Nat) (i v : Int32) (K : Hp → Option β) : bd (stZ (pm M h s) t (M + 2) i v) K = bd (stB s t 2 i v) (fun s2 => K (pm M h s2)) := pm_sz hw s t 2 i v (by decide) K
theorem ql3 {M : Nat} {h : Hp} (hw : MW M h) (s : MS) (t : Nat) (i : Int32) : ldI (pm M h s) t (M + 3) i = ldA s t 3 i := pm_ld hw s t 3 i (by decide)
theorem qs3 {β : Type} {M : Nat} {h : Hp} (hw : MW M h) (s : MS) (t : Nat) (i v : Int32) (K : Hp → Option β) : bd (stI (pm M h s) t (M + 3) i v) K = bd (stA s t 3 i v) (fun s2 => K (pm M h s2)) := pm_st hw s t 3 i v (by decide) K
theorem qz3 {β : Type} {M : Nat} {h : Hp} (hw : MW M h) (s : MS) (t : Nat) (i v : Int32) (K : Hp → Option β) : bd (stZ (pm M h s) t (M + 3) i v) K = bd (stB s t 3 i v) (fun s2 => K (pm M h s2)) := pm_sz hw s t 3 i v (by decide) K
theorem ql4 {M : Nat} {h : Hp} (hw : MW M h) (s : MS) (t : Nat) (i : Int32) : ldI (pm M h s) t (M + 4) i = ldA s t 4 i := pm_ld hw s t 4 i (by decide)
theorem qs4 {β : Type} {M : Nat} {h : Hp} (hw : MW M h) (s : MS) (t : Nat) (i v : Int32) (K : Hp → Option β) : bd (stI (pm M h s) t (M + 4) i v) K = bd (stA s t 4 i v) (fun s2 => K (pm M h s2)) := pm_st hw s t 4 i v (by decide) K
theorem qz4 {β : Type} {M : Nat} {h : Hp} (hw : MW M h) (s : MS) (t : Nat) (i v : Int32) (K : Hp → Option β) : bd (stZ (pm M h s) t (M + 4) i v) K = bd (stB s t 4 i v) (fun s2 => K (pm M h s2)) := pm_sz hw s t 4 i v (by decide) K
theorem ql5 {M : Nat} {h : Hp} (hw : MW M h) (s : MS) (t : Nat) (i : Int32) : ldI (pm M h s) t (M + 5) i = ldA s t 5 i := pm_ld hw s t 5 i (by decide)
theorem qs5 {β : Type} {M : Nat} {h : Hp} (hw : MW M h) (s : MS) (t : Nat) (i v : Int32) (K : Hp → Option β) : bd (stI (pm M h s) t (M + 5) i v) K = bd (stA s t 5 i v) (fun s2 => K (pm M h s2)) := pm_st hw s t 5 i v (by decide) K
theorem qz5 {β : Type} {M : Nat} {h : Hp} (hw : MW M h) (s : MS) (t : Nat) (i v : Int32) (K : Hp → Option β) : bd (stZ (pm M h s) t (M + 5) i v) K = bd (stB s t 5 i v) (fun s2 => K (pm M h s2)) := pm_sz hw s t 5 i v (by decide) K
theorem ql6 {M : Nat} {h : Hp} (hw : MW M h) (s : MS) (t : Nat) (i : Int32) : ldI (pm M h s) t (M + 6) i = ldA s t 6 i := pm_ld hw s t 6 i (by decide)
theorem qs6 {β : Type} {M : Nat} {h : Hp} (hw : MW M h) (s : MS) (t : Nat) (i v : Int32) (K : Hp → Option β) : bd (stI (pm M h s) t (M + 6) i v) K = bd (stA s t 6 i v) (fun s2 => K (pm M h s2)) := pm_st hw s t 6 i v (by decide) K
theorem qz6 {β : Type} {M : Nat} {h : Hp} (hw : MW M h) (s : MS) (t : Nat) (i v : Int32) (K : Hp → Option β) : bd (stZ (pm M h s) t (M + 6) i v) K = bd (stB s t 6 i v) (fun s2 => K (pm M h s2)) := pm_sz hw s t 6 i v (by decide) K
theorem ql7 {M : Nat} {h : Hp} (hw : MW M h) (s : MS) (t : Nat) (i : Int32) : ldI (pm M h s) t (M + 7) i = ldA s t 7 i := pm_ld hw s t 7 i (by decide)
theorem qs7 {β : Type} {M : Nat} {h : Hp} (hw : MW M h) (s : MS) (t : Nat) (i v : Int32) (K : Hp → Option β) : bd (stI (pm M h s) t (M + 7) i v) K = bd (stA s t 7 i v) (fun s2 => K (pm M h s2)) := pm_st hw s t 7 i v (by decide) K
theorem qz7 {β : Type} {M : Nat} {h : Hp} (hw : MW M h) (s : MS) (t : Nat) (i v : Int32) (K : Hp → Option β) : bd (stZ (pm M h s) t (M + 7) i v) K = bd (stB s t 7 i v) (fun s2 => K (pm M h s2)) := pm_sz hw s t 7 i v (by decide) K
theorem ql8 {M : Nat} {h : Hp} (hw : MW M h) (s : MS) (t : Nat) (i : Int32) : ldI (pm M h s) t (M + 8) i = ldA s t 8 i := pm_ld hw s t 8 i (by decide)
theorem qs8 {β : Type} {M : Nat} {h : Hp} (hw : MW M h) (s : MS) (t : Nat) (i v : Int32) (K : Hp → Option β) : bd (stI (pm M h s) t (M + 8) i v) K = bd (stA s t 8 i v) (fun s2 => K (pm M h s2)) := pm_st hw s t 8 i v (by decide) K
theorem qz8 {β : Type} {M : Nat} {h : Hp} (hw : MW M h) (s : MS) (t : Nat) (i v : Int32) (K : Hp → Option β) : bd (stZ (pm M h s) t (M + 8) i v) K = bd (stB s t 8 i v) (fun s2 => K (pm M h s2)) := pm_sz hw s t 8 i v (by decide) K
theorem ql9 {M : Nat} {h : Hp} (hw : MW M h) (s : MS) (t : Nat) (i : Int32) : ldI (pm M h s) t (M + 9) i = ldA s t 9 i := pm_ld hw s t 9 i (by decide)
theorem qs9 {β : Type} {M : Nat} {h : Hp} (hw : MW M h) (s : MS) (t : Nat) (i v : Int32) (K : Hp → Option β) : bd (stI (pm M h s) t (M + 9) i v) K = bd (stA s t 9 i v) (fun s2 => K (pm M h s2)) := pm_st hw s t 9 i v (by decide) K
theorem qz9 {β : Type} {M : Nat} {h : Hp} (hw : MW M h) (s : MS) (t : Nat) (i v : Int32) (K : Hp → Option β) : bd (stZ (pm M h s) t (M + 9) i v) K = bd (stB s t 9 i v) (fun s2 => K (pm M h s2)) := pm_sz hw s t 9 i v (by decide) K
theorem ql10 {M : Nat} {h : Hp} (hw : MW M h) (s : MS) (t : Nat) (i : Int32) : ldI (pm M h s) t (M + 10) i = ldA s t 10 i := pm_ld hw s t 10 i (by decide)
theorem qs10 {β : Type} {M : Nat} {h : Hp} (hw : MW M h) (s : MS) (t : Nat) (i v : Int32) (K : Hp → Option β) : bd (stI (pm M h s) t (M + 10) i v) K = bd (stA s t 10 i v) (fun s2 => K (pm M h s2)) := pm_st hw s t 10 i v (by decide) K
theorem qz10 {β : Type} {M : Nat} {h : Hp} (hw : MW M h) (s : MS) (t : Nat) (i v : Int32) (K : Hp → Option β) : bd (stZ (pm M h s) t (M + 10) i v) K = bd (stB s t 10 i v) (fun s2 => K (pm M h s2)) := pm_sz hw s t 10 i v (by decide) K
theorem ql11 {M : Nat} {h : Hp} (hw : MW M h) (s : MS) (t : Nat) (i : Int32) : ldI (pm M h s) t (M + 11) i = ldA s t 11 i := pm_ld hw s t 11 i (by decide)
theorem qs11 {β : Type} {M : Nat} {h : Hp} (hw : MW M h) (s : MS) (t : Nat) (i v : Int32) (K : Hp → Option β) : bd (stI (pm M h s) t (M + 11) i v) K = bd (stA s t 11 i v) (fun s2 => K (pm M h s2)) := pm_st hw s t 11 i v (by decide) K
theorem qz11 {β : Type} {M : Nat} {h : Hp} (hw : MW M h) (s : MS) (t : Nat) (i v : Int32) (K : Hp → Option β) : bd (stZ (pm M h s) t (M + 11) i v) K = bd (stB s t 11 i v) (fun s2 => K (pm M h s2)) := pm_sz hw s t 11 i v (by decide) K
theorem ql12 {M : Nat} {h : Hp} (hw : MW M h) (s : MS) (t : Nat) (i : Int32) : ldI (pm M h s) t (M + 12) i = ldA s t 12 i := pm_ld hw s t 12 i (by decide)
theorem qs12 {β : Type} {M : Nat} {h : Hp} (hw : MW M h) (s : MS) (t : Nat) (i v : Int32) (K : Hp → Option β) : bd (stI (pm M h s) t (M + 12) i v) K = bd (stA s t 12 i v) (fun s2 => K (pm M h s2)) := pm_st hw s t 12 i v (by decide) K
theorem qz12 {β : Type} {M : Nat} {h : Hp} (hw : MW M h) (s : MS) (t : Nat) (i v : Int32) (K : Hp → Option β) : bd (stZ (pm M h s) t (M + 12) i v) K = bd (stB s t 12 i v) (fun s2 => K (pm M h s2)) := pm_sz hw s t 12 i v (by decide) K
theorem ql13 {M : Nat} {h : Hp} (hw : MW M h) (s : MS) (t : Nat) (i : Int32) : ldI (pm M h s) t (M + 13) i = ldA s t 13 i := pm_ld hw s t 13 i (by decide)
theorem qs13 {β : Type} {M : Nat} {h : Hp} (hw : MW M h) (s : MS) (t : Nat) (i v : Int32) (K : Hp → Option β) : bd (stI (pm M h s) t (M + 13) i v) K = bd (stA s t 13 i v) (fun s2 => K (pm M h s2)) := pm_st hw s t 13 i v (by decide) K
theorem qz13 {β : Type} {M : Nat} {h : Hp} (hw : MW M h) (s : MS) (t : Nat) (i v : Int32) (K : Hp → Option β) : bd (stZ (pm M h s) t (M + 13) i v) K = bd (stB s t 13 i v) (fun s2 => K (pm M h s2)) := pm_sz hw s t 13 i v (by decide) K
theorem ql14 {M : Nat} {h : Hp} (hw : MW M h) (s : MS) (t : Nat) (i : Int32) : ldI (pm M h s) t (M + 14) i = ldA s t 14 i := pm_ld hw s t 14 i (by decide)
theorem qs14 {β : Type} {M : Nat} {h : Hp} (hw : MW M h) (s : MS) (t : Nat) (i v : Int32) (K : Hp → Option β) : bd (stI (pm M h s) t (M + 14) i v) K = bd (stA s t 14 i v) (fun s2 => K (pm M h s2)) := pm_st hw s t 14 i v (by decide) K
theorem qz14 {β : Type} {M : Nat} {h : Hp} (hw : MW M h) (s : MS) (t : Nat) (i v : Int32) (K : Hp → Option β) : bd (stZ (pm M h s) t (M + 14) i v) K = bd (stB s t 14 i v) (fun s2 => K (pm M h s2)) := pm_sz hw s t 14 i v (by decide) K
theorem ql15 {M : Nat} {h : Hp} (hw : MW M h) (s : MS) (t : Nat) (i : Int32) : ldI (pm M h s) t (M + 15) i = ldA s t 15 i := pm_ld hw s t 15 i (by decide)
theorem qs15 {β : Type} {M : Nat} {h : Hp} (hw : MW M h) (s : MS) (t : Nat) (i v : Int32) (K : Hp → Option β) : bd (stI (pm M h s) t (M + 15) i v) K = bd (stA s t 15 i v) (fun s2 => K (pm M h s2)) := pm_st hw s t 15 i v (by decide) K
theorem qz15 {β : Type} {M : Nat} {h : Hp} (hw : MW M h) (s : MS) (t : Nat) (i v : Int32) (K : Hp → Option β) : bd (stZ (pm M h s) t (M + 15) i v) K = bd (stB s t 15 i v) (fun s2 => K (pm M h s2)) := pm_sz hw s t 15 i v (by decide) K
theorem ql16 {M : Nat} {h : Hp} (hw : MW M h) (s : MS) (t : Nat) (i : Int32) : ldI (pm M h s) t (M + 16) i = ldA s t 16 i := pm_ld hw s t 16 i (by decide)
theorem qs16 {β : Type} {M : Nat} {h : Hp} (hw : MW M h) (s : MS) (t : Nat) (i v : Int32) (K : Hp → Option β) : bd (stI (pm M h s) t (M + 16) i v) K = bd (stA s t 16 i v) (fun s2 => K (pm M h s2)) := pm_st hw s t 16 i v (by decide) K
theorem qz16 {β : Type} {M : Nat} {h : Hp} (hw : MW M h) (s : MS) (t : Nat) (i v : Int32) (K : Hp → Option β) : bd (stZ (pm M h s) t (M + 16) i v) K = bd (stB s t 16 i v) (fun s2 => K (pm M h s2)) := pm_sz hw s t 16 i v (by decide) K
theorem ql17 {M : Nat} {h : Hp} (hw : MW M h) (s : MS) (t : Nat) (i : Int32) : ldI (pm M h s) t (M + 17) i = ldA s t 17 i := pm_ld hw s t 17 i (by decide)
theorem qs17 {β : Type} {M : Nat} {h : Hp} (hw : MW M h) (s : MS) (t : Nat) (i v : Int32) (K : Hp → Option β) : bd (stI (pm M h s) t (M + 17) i v) K = bd (stA s t 17 i v) (fun s2 => K (pm M h s2)) := pm_st hw s t 17 i v (by decide) K
theorem qz17 {β : Type} {M : Nat} {h : Hp} (hw : MW M h) (s : MS) (t : Nat) (i v : Int32) (K : Hp → Option β) : bd (stZ (pm M h s) t (M + 17) i v) K = bd (stB s t 17 i v) (fun s2 => K (pm M h s2)) := pm_sz hw s t 17 i v (by decide) K
theorem ql18 {M : Nat} {h : Hp} (hw : MW M h) (s : MS) (t : Nat) (i : Int32) : ldI (pm M h s) t (M + 18) i = ldA s t 18 i := pm_ld hw s t 18 i (by decide)
theorem qs18 {β : Type} {M : Nat} {h : Hp} (hw : MW M h) (s : MS) (t : Nat) (i v : Int32) (K : Hp → Option β) : bd (stI (pm M h s) t (M + 18) i v) K = bd (stA s t 18 i v) (fun s2 => K (pm M h s2)) := pm_st hw s t 18 i v (by decide) K
theorem qz18 {β : Type} {M : Nat} {h : Hp} (hw : MW M h) (s : MS) (t : Nat) (i v : Int32) (K : Hp → Option β) : bd (stZ (pm M h s) t (M + 18) i v) K = bd (stB s t 18 i v) (fun s2 => K (pm M h s2)) := pm_sz hw s t 18 i v (by decide) K
theorem ql19 {M : Nat} {h : Hp} (hw : MW M h) (s : MS) (t : Nat) (i : Int32) : ldI (pm M h s) t (M + 19) i = ldA s t 19 i := pm_ld hw s t 19 i (by decide)
theorem qs19 {β : Type} {M : Nat} {h : Hp} (hw : MW M h) (s : MS) (t : Nat) (i v : Int32) (K : Hp → Option β) : bd (stI (pm M h s) t (M + 19) i v) K = bd (stA s t 19 i v) (fun s2 => K (pm M h s2)) := pm_st hw s t 19 i v (by decide) K
theorem qz19 {β : Type} {M : Nat} {h : Hp} (hw : MW M h) (s : MS) (t : Nat) (i v : Int32) (K : Hp → Option β) : bd (stZ (pm M h s) t (M + 19) i v) K = bd (stB s t 19 i v) (fun s2 => K (pm M h s2)) := pm_sz hw s t 19 i v (by decide) K
theorem ql20 {M : Nat} {h : Hp} (hw : MW M h) (s : MS) (t : Nat) (i : Int32) : ldI (pm M h s) t (M + 20) i = ldA s t 20 i := pm_ld hw s t 20 i (by decide)
theorem qs20 {β : Type} {M : Nat} {h : Hp} (hw : MW M h) (s : MS) (t : Nat) (i v : Int32) (K : Hp → Option β) : bd (stI (pm M h s) t (M + 20) i v) K = bd (stA s t 20 i v) (fun s2 => K (pm M h s2)) := pm_st hw s t 20 i v (by decide) K
theorem qz20 {β : Type} {M : Nat} {h : Hp} (hw : MW M h) (s : MS) (t : Nat) (i v : Int32) (K : Hp → Option β) : bd (stZ (pm M h s) t (M + 20) i v) K = bd (stB s t 20 i v) (fun s2 => K (pm M h s2)) := pm_sz hw s t 20 i v (by decide) K
theorem ql21 {M : Nat} {h : Hp} (hw : MW M h) (s : MS) (t : Nat) (i : Int32) : ldI (pm M h s) t (M + 21) i = ldA s t 21 i := pm_ld hw s t 21 i (by decide)
theorem qs21 {β : Type} {M : Nat} {h : Hp} (hw : MW M h) (s : MS) (t : Nat) (i v : Int32) (K : Hp → Option β) : bd (stI (pm M h s) t (M + 21) i v) K = bd (stA s t 21 i v) (fun s2 => K (pm M h s2)) := pm_st hw s t 21 i v (by decide) K
theorem qz21 {β : Type} {M : Nat} {h : Hp} (hw : MW M h) (s : MS) (t : Nat) (i v : Int32) (K : Hp → Option β) : bd (stZ (pm M h s) t (M + 21) i v) K = bd (stB s t 21 i v) (fun s2 => K (pm M h s2)) := pm_sz hw s t 21 i v (by decide) K
theorem ql22 {M : Nat} {h : Hp} (hw : MW M h) (s : MS) (t : Nat) (i : Int32) : ldI (pm M h s) t (M + 22) i = ldA s t 22 i := pm_ld hw s t 22 i (by decide)
theorem qs22 {β : Type} {M : Nat} {h : Hp} (hw : MW M h) (s : MS) (t : Nat) (i v : Int32) (K : Hp → Option β) : bd (stI (pm M h s) t (M + 22) i v) K = bd (stA s t 22 i v) (fun s2 => K (pm M h s2)) := pm_st hw s t 22 i v (by decide) K
theorem qz22 {β : Type} {M : Nat} {h : Hp} (hw : MW M h) (s : MS) (t : Nat) (i v : Int32) (K : Hp → Option β) : bd (stZ (pm M h s) t (M + 22) i v) K = bd (stB s t 22 i v) (fun s2 => K (pm M h s2)) := pm_sz hw s t 22 i v (by decide) K
theorem ql23 {M : Nat} {h : Hp} (hw : MW M h) (s : MS) (t : Nat) (i : Int32) : ldI (pm M h s) t (M + 23) i = ldA s t 23 i := pm_ld hw s t 23 i (by decide)
theorem qs23 {β : Type} {M : Nat} {h : Hp} (hw : MW M h) (s : MS) (t : Nat) (i v : Int32) (K : Hp → Option β) : bd (stI (pm M h s) t (M + 23) i v) K = bd (stA s t 23 i v) (fun s2 => K (pm M h s2)) := pm_st hw s t 23 i v (by decide) K
theorem qz23 {β : Type} {M : Nat} {h : Hp} (hw : MW M h) (s : MS) (t : Nat) (i v : Int32) (K : Hp → Option β) : bd (stZ (pm M h s) t (M + 23) i v) K = bd (stB s t 23 i v) (fun s2 => K (pm M h s2)) := pm_sz hw s t 23 i v (by decide) K
theorem ql24 {M : Nat} {h : Hp} (hw : MW M h) (s : MS) (t : Nat) (i : Int32) : ldI (pm M h s) t (M + 24) i = ldA s t 24 i := pm_ld hw s t 24 i (by decide)
theorem qs24 {β : Type} {M : Nat} {h : Hp} (hw : MW M h) (s : MS) (t : Nat) (i v : Int32) (K : Hp → Option β) : bd (stI (pm M h s) t (M + 24) i v) K = bd (stA s t 24 i v) (fun s2 => K (pm M h s2)) := pm_st hw s t 24 i v (by decide) K
theorem qz24 {β : Type} {M : Nat} {h : Hp} (hw : MW M h) (s : MS) (t : Nat) (i v : Int32) (K : Hp → Option β) : bd (stZ (pm M h s) t (M + 24) i v) K = bd (stB s t 24 i v) (fun s2 => K (pm M h s2)) := pm_sz hw s t 24 i v (by decide) K
theorem ql25 {M : Nat} {h : Hp} (hw : MW M h) (s : MS) (t : Nat) (i : Int32) : ldI (pm M h s) t (M + 25) i = ldA s t 25 i := pm_ld hw s t 25 i (by decide)
theorem qs25 {β : Type} {M : Nat} {h : Hp} (hw : MW M h) (s : MS) (t : Nat) (i v : Int32) (K : Hp → Option β) : bd (stI (pm M h s) t (M + 25) i v) K = bd (stA s t 25 i v) (fun s2 => K (pm M h s2)) := pm_st hw s t 25 i v (by decide) K
theorem qz25 {β : Type} {M : Nat} {h : Hp} (hw : MW M h) (s : MS) (t : Nat) (i v : Int32) (K : Hp → Option β) : bd (stZ (pm M h s) t (M + 25) i v) K = bd (stB s t 25 i v) (fun s2 => K (pm M h s2)) := pm_sz hw s t 25 i v (by decide) K
theorem ql26 {M : Nat} {h : Hp} (hw : MW M h) (s : MS) (t : Nat) (i : Int32) : ldI (pm M h s) t (M + 26) i = ldA s t 26 i := pm_ld hw s t 26 i (by decide)
theorem qs26 {β : Type} {M : Nat} {h : Hp} (hw : MW M h) (s : MS) (t : Nat) (i v : Int32) (K : Hp → Option β) : bd (stI (pm M h s) t (M + 26) i v) K = bd (stA s t 26 i v) (fun s2 => K (pm M h s2)) := pm_st hw s t 26 i v (by decide) K
theorem qz26 {β : Type} {M : Nat} {h : Hp} (hw : MW M h) (s : MS) (t : Nat) (i v : Int32) (K : Hp → Option β) : bd (stZ (pm M h s) t (M + 26) i v) K = bd (stB s t 26 i v) (fun s2 => K (pm M h s2)) := pm_sz hw s t 26 i v (by decide) K
theorem ql27 {M : Nat} {h : Hp} (hw : MW M h) (s : MS) (t : Nat) (i : Int32) : ldI (pm M h s) t (M + 27) i = ldA s t 27 i := pm_ld hw s t 27 i (by decide)
theorem qs27 {β : Type} {M : Nat} {h : Hp} (hw : MW M h) (s : MS) (t : Nat) (i v : Int32) (K : Hp → Option β) : bd (stI (pm M h s) t (M + 27) i v) K = bd (stA s t 27 i v) (fun s2 => K (pm M h s2)) := pm_st hw s t 27 i v (by decide) K
theorem qz27 {β : Type} {M : Nat} {h : Hp} (hw : MW M h) (s : MS) (t : Nat) (i v : Int32) (K : Hp → Option β) : bd (stZ (pm M h s) t (M + 27) i v) K = bd (stB s t 27 i v) (fun s2 => K (pm M h s2)) := pm_sz hw s t 27 i v (by decide) K
theorem ql28 {M : Nat} {h : Hp} (hw : MW M h) (s : MS) (t : Nat) (i : Int32) : ldI (pm M h s) t (M + 28) i = ldA s t 28 i := pm_ld hw s t 28 i (by decide)
theorem qs28 {β : Type} {M : Nat} {h : Hp} (hw : MW M h) (s : MS) (t : Nat) (i v : Int32) (K : Hp → Option β) : bd (stI (pm M h s) t (M + 28) i v) K = bd (stA s t 28 i v) (fun s2 => K (pm M h s2)) := pm_st hw s t 28 i v (by decide) K
theorem qz28 {β : Type} {M : Nat} {h : Hp} (hw : MW M h) (s : MS) (t : Nat) (i v : Int32) (K : Hp → Option β) : bd (stZ (pm M h s) t (M + 28) i v) K = bd (stB s t 28 i v) (fun s2 => K (pm M h s2)) := pm_sz hw s t 28 i v (by decide) K
theorem ql29 {M : Nat} {h : Hp} (hw : MW M h) (s : MS) (t : Nat) (i : Int32) : ldI (pm M h s) t (M + 29) i = ldA s t 29 i := pm_ld hw s t 29 i (by decide)
theorem qs29 {β : Type} {M : Nat} {h : Hp} (hw : MW M h) (s : MS) (t : Nat) (i v : Int32) (K : Hp → Option β) : bd (stI (pm M h s) t (M + 29) i v) K = bd (stA s t 29 i v) (fun s2 => K (pm M h s2)) := pm_st hw s t 29 i v (by decide) K
theorem qz29 {β : Type} {M : Nat} {h : Hp} (hw : MW M h) (s : MS) (t : Nat) (i v : Int32) (K : Hp → Option β) : bd (stZ (pm M h s) t (M + 29) i v) K = bd (stB s t 29 i v) (fun s2 => K (pm M h s2)) := pm_sz hw s t 29 i v (by decide) K
theorem ql30 {M : Nat} {h : Hp} (hw : MW M h) (s : MS) (t : Nat) (i : Int32) : ldI (pm M h s) t (M + 30) i = ldA s t 30 i := pm_ld hw s t 30 i (by decide)
theorem qs30 {β : Type} {M : Nat} {h : Hp} (hw : MW M h) (s : MS) (t : Nat) (i v : Int32) (K : Hp → Option β) : bd (stI (pm M h s) t (M + 30) i v) K = bd (stA s t 30 i v) (fun s2 => K (pm M h s2)) := pm_st hw s t 30 i v (by decide) K
theorem qz30 {β : Type} {M : Nat} {h : Hp} (hw : MW M h) (s : MS) (t : Nat) (i v : Int32) (K : Hp → Option β) : bd (stZ (pm M h s) t (M + 30) i v) K = bd (stB s t 30 i v) (fun s2 => K (pm M h s2)) := pm_sz hw s t 30 i v (by decide) K
theorem ql31 {M : Nat} {h : Hp} (hw : MW M h) (s : MS) (t : Nat) (i : Int32) : ldI (pm M h s) t (M + 31) i = ldA s t 31 i := pm_ld hw s t 31 i (by decide)
theorem qs31 {β : Type} {M : Nat} {h : Hp} (hw : MW M h) (s : MS) (t : Nat) (i v : Int32) (K : Hp → Option β) : bd (stI (pm M h s) t (M + 31) i v) K = bd (stA s t 31 i v) (fun s2 => K (pm M h s2)) := pm_st hw s t 31 i v (by decide) K
theorem qz31 {β : Type} {M : Nat} {h : Hp} (hw : MW M h) (s : MS) (t : Nat) (i v : Int32) (K : Hp → Option β) : bd (stZ (pm M h s) t (M + 31) i v) K = bd (stB s t 31 i v) (fun s2 => K (pm M h s2)) := pm_sz hw s t 31 i v (by decide) K
theorem ql32 {M : Nat} {h : Hp} (hw : MW M h) (s : MS) (t : Nat) (i : Int32) : ldI (pm M h s) t (M + 32) i = ldA s t 32 i := pm_ld hw s t 32 i (by decide)
theorem qs32 {β : Type} {M : Nat} {h : Hp} (hw : MW M h) (s : MS) (t : Nat) (i v : Int32) (K : Hp → Option β) : bd (stI (pm M h s) t (M + 32) i v) K = bd (stA s t 32 i v) (fun s2 => K (pm M h s2)) := pm_st hw s t 32 i v (by decide) K
theorem qz32 {β : Type} {M : Nat} {h : Hp} (hw : MW M h) (s : MS) (t : Nat) (i v : Int32) (K : Hp → Option β) : bd (stZ (pm M h s) t (M + 32) i v) K = bd (stB s t 32 i v) (fun s2 => K (pm M h s2)) := pm_sz hw s t 32 i v (by decide) K
theorem ql33 {M : Nat} {h : Hp} (hw : MW M h) (s : MS) (t : Nat) (i : Int32) : ldI (pm M h s) t (M + 33) i = ldA s t 33 i := pm_ld hw s t 33 i (by decide)
theorem qs33 {β : Type} {M : Nat} {h : Hp} (hw : MW M h) (s : MS) (t : Nat) (i v : Int32) (K : Hp → Option β) : bd (stI (pm M h s) t (M + 33) i v) K = bd (stA s t 33 i v) (fun s2 => K (pm M h s2)) := pm_st hw s t 33 i v (by decide) K
theorem qz33 {β : Type} {M : Nat} {h : Hp} (hw : MW M h) (s : MS) (t : Nat) (i v : Int32) (K : Hp → Option β) : bd (stZ (pm M h s) t (M + 33) i v) K = bd (stB s t 33 i v) (fun s2 => K (pm M h s2)) := pm_sz hw s t 33 i v (by decide) K
theorem ql34 {M : Nat} {h : Hp} (hw : MW M h) (s : MS) (t : Nat) (i : Int32) : ldI (pm M h s) t (M + 34) i = ldA s t 34 i := pm_ld hw s t 34 i (by decide)
theorem qs34 {β : Type} {M : Nat} {h : Hp} (hw : MW M h) (s : MS) (t : Nat) (i v : Int32) (K : Hp → Option β) : bd (stI (pm M h s) t (M + 34) i v) K = bd (stA s t 34 i v) (fun s2 => K (pm M h s2)) := pm_st hw s t 34 i v (by decide) K
theorem qz34 {β : Type} {M : Nat} {h : Hp} (hw : MW M h) (s : MS) (t : Nat) (i v : Int32) (K : Hp → Option β) : bd (stZ (pm M h s) t (M + 34) i v) K = bd (stB s t 34 i v) (fun s2 => K (pm M h s2)) := pm_sz hw s t 34 i v (by decide) K
theorem ql35 {M : Nat} {h : Hp} (hw : MW M h) (s : MS) (t : Nat) (i : Int32) : ldI (pm M h s) t (M + 35) i = ldA s t 35 i := pm_ld hw s t 35 i (by decide)
theorem qs35 {β : Type} {M : Nat} {h : Hp} (hw : MW M h) (s : MS) (t : Nat) (i v : Int32) (K : Hp → Option β) : bd (stI (pm M h s) t (M + 35) i v) K = bd (stA s t 35 i v) (fun s2 => K (pm M h s2)) := pm_st hw s t 35 i v (by decide) K
theorem qz35 {β : Type} {M : Nat} {h : Hp} (hw : MW M h) (s : MS) (t : Nat) (i v : Int32) (K : Hp → Option β) : bd (stZ (pm M h s) t (M + 35) i v) K = bd (stB s t 35 i v) (fun s2 => K (pm M h s2)) := pm_sz hw s t 35 i v (by decide) K
theorem ql36 {M : Nat} {h : Hp} (hw : MW M h) (s : MS) (t : Nat) (i : Int32) : ldI (pm M h s) t (M + 36) i = ldA s t 36 i := pm_ld hw s t 36 i (by decide)
theorem qs36 {β : Type} {M : Nat} {h : Hp} (hw : MW M h) (s : MS) (t : Nat) (i v : Int32) (K : Hp → Option β) : bd (stI (pm M h s) t (M + 36) i v) K = bd (stA s t 36 i v) (fun s2 => K (pm M h s2)) := pm_st hw s t 36 i v (by decide) K
theorem qz36 {β : Type} {M : Nat} {h : Hp} (hw : MW M h) (s : MS) (t : Nat) (i v : Int32) (K : Hp → Option β) : bd (stZ (pm M h s) t (M + 36) i v) K = bd (stB s t 36 i v) (fun s2 => K (pm M h s2)) := pm_sz hw s t 36 i v (by decide) K
theorem ql37 {M : Nat} {h : Hp} (hw : MW M h) (s : MS) (t : Nat) (i : Int32) : ldI (pm M h s) t (M + 37) i = ldA s t 37 i := pm_ld hw s t 37 i (by decide)
theorem qs37 {β : Type} {M : Nat} {h : Hp} (hw : MW M h) (s : MS) (t : Nat) (i v : Int32) (K : Hp → Option β) : bd (stI (pm M h s) t (M + 37) i v) K = bd (stA s t 37 i v) (fun s2 => K (pm M h s2)) := pm_st hw s t 37 i v (by decide) K
theorem qz37 {β : Type} {M : Nat} {h : Hp} (hw : MW M h) (s : MS) (t : Nat) (i v : Int32) (K : Hp → Option β) : bd (stZ (pm M h s) t (M + 37) i v) K = bd (stB s t 37 i v) (fun s2 => K (pm M h s2)) := pm_sz hw s t 37 i v (by decide) K
theorem ql38 {M : Nat} {h : Hp} (hw : MW M h) (s : MS) (t : Nat) (i : Int32) : ldI (pm M h s) t (M + 38) i = ldA s t 38 i := pm_ld hw s t 38 i (by decide)
theorem qs38 {β : Type} {M : Nat} {h : Hp} (hw : MW M h) (s : MS) (t : Nat) (i v : Int32) (K : Hp → Option β) : bd (stI (pm M h s) t (M + 38) i v) K = bd (stA s t 38 i v) (fun s2 => K (pm M h s2)) := pm_st hw s t 38 i v (by decide) K
theorem qz38 {β : Type} {M : Nat} {h : Hp} (hw : MW M h) (s : MS) (t : Nat) (i v : Int32) (K : Hp → Option β) : bd (stZ (pm M h s) t (M + 38) i v) K = bd (stB s t 38 i v) (fun s2 => K (pm M h s2)) := pm_sz hw s t 38 i v (by decide) K
theorem qg0 {β : Type} {M : Nat} {h : Hp} (hw : MW M h) (s : MS) (K : Int32 → Option β) : bd (gI (pm M h s) 10 0 M) K = bd (rdF s 0) K := pm_gI hw s 0 (by decide) K
theorem qp0 {β : Type} {M : Nat} {h : Hp} (hw : MW M h) (s : MS) (v : Int32) (K : Hp → Option β) : bd (pI (pm M h s) 10 0 M v) K = bd (wrF s 0 v) (fun s2 => K (pm M h s2)) := pm_pI hw s 0 v (by decide) K
theorem qg24 {β : Type} {M : Nat} {h : Hp} (hw : MW M h) (s : MS) (K : Int32 → Option β) : bd (gI (pm M h s) 10 24 M) K = bd (rdF s 24) K := pm_gI hw s 24 (by decide) K
theorem qp24 {β : Type} {M : Nat} {h : Hp} (hw : MW M h) (s : MS) (v : Int32) (K : Hp → Option β) : bd (pI (pm M h s) 10 24 M v) K = bd (wrF s 24 v) (fun s2 => K (pm M h s2)) := pm_pI hw s 24 v (by decide) K
theorem qg27 {β : Type} {M : Nat} {h : Hp} (hw : MW M h) (s : MS) (K : Int32 → Option β) : bd (gI (pm M h s) 10 27 M) K = bd (rdF s 27) K := pm_gI hw s 27 (by decide) K
theorem qp27 {β : Type} {M : Nat} {h : Hp} (hw : MW M h) (s : MS) (v : Int32) (K : Hp → Option β) : bd (pI (pm M h s) 10 27 M v) K = bd (wrF s 27 v) (fun s2 => K (pm M h s2)) := pm_pI hw s 27 v (by decide) K
theorem qg28 {β : Type} {M : Nat} {h : Hp} (hw : MW M h) (s : MS) (K : Int32 → Option β) : bd (gI (pm M h s) 10 28 M) K = bd (rdF s 28) K := pm_gI hw s 28 (by decide) K
theorem qp28 {β : Type} {M : Nat} {h : Hp} (hw : MW M h) (s : MS) (v : Int32) (K : Hp → Option β) : bd (pI (pm M h s) 10 28 M v) K = bd (wrF s 28 v) (fun s2 => K (pm M h s2)) := pm_pI hw s 28 v (by decide) K
theorem qg29 {β : Type} {M : Nat} {h : Hp} (hw : MW M h) (s : MS) (K : Int32 → Option β) : bd (gI (pm M h s) 10 29 M) K = bd (rdF s 29) K := pm_gI hw s 29 (by decide) K
theorem qp29 {β : Type} {M : Nat} {h : Hp} (hw : MW M h) (s : MS) (v : Int32) (K : Hp → Option β) : bd (pI (pm M h s) 10 29 M v) K = bd (wrF s 29 v) (fun s2 => K (pm M h s2)) := pm_pI hw s 29 v (by decide) K
theorem qg30 {β : Type} {M : Nat} {h : Hp} (hw : MW M h) (s : MS) (K : Int32 → Option β) : bd (gI (pm M h s) 10 30 M) K = bd (rdF s 30) K := pm_gI hw s 30 (by decide) K
theorem qp30 {β : Type} {M : Nat} {h : Hp} (hw : MW M h) (s : MS) (v : Int32) (K : Hp → Option β) : bd (pI (pm M h s) 10 30 M v) K = bd (wrF s 30 v) (fun s2 => K (pm M h s2)) := pm_pI hw s 30 v (by decide) K
theorem qg31 {β : Type} {M : Nat} {h : Hp} (hw : MW M h) (s : MS) (K : Int32 → Option β) : bd (gI (pm M h s) 10 31 M) K = bd (rdF s 31) K := pm_gI hw s 31 (by decide) K
theorem qp31 {β : Type} {M : Nat} {h : Hp} (hw : MW M h) (s : MS) (v : Int32) (K : Hp → Option β) : bd (pI (pm M h s) 10 31 M v) K = bd (wrF s 31 v) (fun s2 => K (pm M h s2)) := pm_pI hw s 31 v (by decide) K
theorem qg40 {β : Type} {M : Nat} {h : Hp} (hw : MW M h) (s : MS) (K : Int32 → Option β) : bd (gI (pm M h s) 10 40 M) K = bd (rdF s 40) K := pm_gI hw s 40 (by decide) K
theorem qp40 {β : Type} {M : Nat} {h : Hp} (hw : MW M h) (s : MS) (v : Int32) (K : Hp → Option β) : bd (pI (pm M h s) 10 40 M v) K = bd (wrF s 40 v) (fun s2 => K (pm M h s2)) := pm_pI hw s 40 v (by decide) K
theorem qg41 {β : Type} {M : Nat} {h : Hp} (hw : MW M h) (s : MS) (K : Int32 → Option β) : bd (gI (pm M h s) 10 41 M) K = bd (rdF s 41) K := pm_gI hw s 41 (by decide) K
theorem qp41 {β : Type} {M : Nat} {h : Hp} (hw : MW M h) (s : MS) (v : Int32) (K : Hp → Option β) : bd (pI (pm M h s) 10 41 M v) K = bd (wrF s 41 v) (fun s2 => K (pm M h s2)) := pm_pI hw s 41 v (by decide) K
theorem qg42 {β : Type} {M : Nat} {h : Hp} (hw : MW M h) (s : MS) (K : Int32 → Option β) : bd (gI (pm M h s) 10 42 M) K = bd (rdF s 42) K := pm_gI hw s 42 (by decide) K
theorem qp42 {β : Type} {M : Nat} {h : Hp} (hw : MW M h) (s : MS) (v : Int32) (K : Hp → Option β) : bd (pI (pm M h s) 10 42 M v) K = bd (wrF s 42 v) (fun s2 => K (pm M h s2)) := pm_pI hw s 42 v (by decide) K
theorem qg47 {β : Type} {M : Nat} {h : Hp} (hw : MW M h) (s : MS) (K : Int32 → Option β) : bd (gI (pm M h s) 10 47 M) K = bd (rdF s 47) K := pm_gI hw s 47 (by decide) K
theorem qp47 {β : Type} {M : Nat} {h : Hp} (hw : MW M h) (s : MS) (v : Int32) (K : Hp → Option β) : bd (pI (pm M h s) 10 47 M v) K = bd (wrF s 47 v) (fun s2 => K (pm M h s2)) := pm_pI hw s 47 v (by decide) K
theorem qg49 {β : Type} {M : Nat} {h : Hp} (hw : MW M h) (s : MS) (K : Int32 → Option β) : bd (gI (pm M h s) 10 49 M) K = bd (rdF s 49) K := pm_gI hw s 49 (by decide) K
theorem qp49 {β : Type} {M : Nat} {h : Hp} (hw : MW M h) (s : MS) (v : Int32) (K : Hp → Option β) : bd (pI (pm M h s) 10 49 M v) K = bd (wrF s 49 v) (fun s2 => K (pm M h s2)) := pm_pI hw s 49 v (by decide) K
theorem qg50 {β : Type} {M : Nat} {h : Hp} (hw : MW M h) (s : MS) (K : Int32 → Option β) : bd (gI (pm M h s) 10 50 M) K = bd (rdF s 50) K := pm_gI hw s 50 (by decide) K
theorem qp50 {β : Type} {M : Nat} {h : Hp} (hw : MW M h) (s : MS) (v : Int32) (K : Hp → Option β) : bd (pI (pm M h s) 10 50 M v) K = bd (wrF s 50 v) (fun s2 => K (pm M h s2)) := pm_pI hw s 50 v (by decide) K
theorem qg51 {β : Type} {M : Nat} {h : Hp} (hw : MW M h) (s : MS) (K : Int32 → Option β) : bd (gI (pm M h s) 10 51 M) K = bd (rdF s 51) K := pm_gI hw s 51 (by decide) K
theorem qp51 {β : Type} {M : Nat} {h : Hp} (hw : MW M h) (s : MS) (v : Int32) (K : Hp → Option β) : bd (pI (pm M h s) 10 51 M v) K = bd (wrF s 51 v) (fun s2 => K (pm M h s2)) := pm_pI hw s 51 v (by decide) K
