/** A game with 24 units: the unit 0 on the cell 0, the unit 23 on the cell 63, both of the player 1. */
final class Corners {
    private Corners() {
    }

    /** The units 1 and 22, beside the two, and all between, on free land, are of the player 0. */
    static SeedBattle game() {
        SeedBattle game = Maps.game("0=l 1=l 62=l 63=l");
        Maps.with(game, "1s0 0s1");
        int cell = 2;
        for (int unit = 2; unit < 22; unit++) {
            while (game.ground(cell) == 'x') {
                cell++;
            }
            game.addUnit(0, 's', cell);
            cell++;
        }
        return Maps.with(game, "0s62 1s63");
    }
}
