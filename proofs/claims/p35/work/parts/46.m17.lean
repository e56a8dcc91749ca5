theorem srR_0 {ok : Nat → Bool} {lk : List Nat → bT → bT} {st : Nat} {pr : List Nat} {b : bT} : srR ok lk 0 st pr b = lk pr b := rfl
