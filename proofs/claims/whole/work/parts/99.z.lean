theorem jz0 : True := trivial
