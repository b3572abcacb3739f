theorem ga_last9 : True := trivial
