theorem xx_dummy2 : True := trivial
