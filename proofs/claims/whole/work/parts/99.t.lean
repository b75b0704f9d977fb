theorem tt : vwCl.length = 11 := rfl
