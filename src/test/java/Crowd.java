/** A game with 24 units: the unit 0 of the player 0 sees the 23 others, all of other players. */
final class Crowd {
    private Crowd() {
    }

    static SeedBattle game() {
        for (int seed = 0; seed < 100000; seed++) {
            SeedBattle game = new SeedBattle();
            game.setSeed(seed);
            if (game.ground(27) == 'h' && fill(game) == 24) {
                return game;
            }
        }
        throw new IllegalStateException("no seed has a hill with so wide a sight");
    }

    private static int fill(SeedBattle game) {
        game.addUnit(0, 't', 27);
        int units = 1;
        for (int cell = 0; cell < 64 && units < 24; cell++) {
            if (cell != 27 && game.ground(cell) != 'x' && game.sees(0, cell)) {
                game.addUnit(1 + units % 3, 't', cell);
                units++;
            }
        }
        return units;
    }
}
