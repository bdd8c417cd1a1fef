/** Promises 1 to 3: a new object, setSeed, ground. */
public final class MapTest {
    private static final Check CHECK = new Check("MapTest");

    public static void main(String[] args) {
        newObject();
        groundFollowsTheSeed();
        firstCellsByHand();
        wrongCells();
        seedStaysBehindUnits();
        seedMayChangeBehindTurns();
        CHECK.end();
    }

    private static void newObject() {
        SeedBattle game = new SeedBattle();
        CHECK.same("done", game.done(), 0);
        CHECK.due("cellOf(0)", "throws.IndexOutOfBoundsException", () -> game.cellOf(0));
        CHECK.same("checksum", game.checksum(), 0L);
        CHECK.same("isSound", game.isSound(), true);
        for (int cell = 0; cell < 64; cell++) {
            CHECK.same("ground by the seed 0, " + cell, game.ground(cell), Maps.of(0).charAt(cell));
            CHECK.same("unitOn " + cell, game.unitOn(cell), -1);
        }
        for (int at = 0; at < 4; at++) {
            int player = at;
            CHECK.same("seen", game.seen(player), 0);
            CHECK.same("sightings", game.sightings(player), 0);
            CHECK.due("blocks without a save", "throws.NoSuchElementException", () -> game.blocks(player));
        }
        CHECK.same("no treaty at first", game.setTreaty(0, 1, false), false);
        CHECK.same("setSeed", game.setSeed(5), 0);
    }

    private static void groundFollowsTheSeed() {
        int[] seeds = {1, -1, 7, 123456, Integer.MAX_VALUE, Integer.MIN_VALUE, -987654321, 0};
        SeedBattle game = new SeedBattle();
        int before = 0;
        for (int seed : seeds) {
            CHECK.same("setSeed(" + seed + ")", game.setSeed(seed), before);
            before = seed;
            StringBuilder map = new StringBuilder();
            for (int cell = 0; cell < 64; cell++) {
                map.append(game.ground(cell));
            }
            CHECK.same("the map of " + seed, map.toString(), Maps.of(seed));
        }
    }

    /** By hand: 12345 >>> 16 is 0; -740551042 is 0xD3DC167E, and 0xD3DC modulo 8 is 4. */
    private static void firstCellsByHand() {
        SeedBattle game = new SeedBattle();
        CHECK.same("ground(0)", game.ground(0), 'p');
        CHECK.same("ground(1)", game.ground(1), 'w');
    }

    private static void wrongCells() {
        SeedBattle game = new SeedBattle();
        for (int cell : new int[] {-1, 64, Integer.MIN_VALUE, Integer.MAX_VALUE}) {
            CHECK.noIndex("ground(" + cell + ")", game, () -> game.ground(cell));
        }
    }

    private static void seedStaysBehindUnits() {
        SeedBattle game = Maps.dryGame();
        game.addUnit(0, 's', 18);
        CHECK.noState("setSeed with a unit", game, () -> game.setSeed(1));
        game.turn();
        CHECK.noState("setSeed behind a turn", game, () -> game.setSeed(1));
    }

    private static void seedMayChangeBehindTurns() {
        SeedBattle game = new SeedBattle();
        game.turn();
        CHECK.same("setSeed without units", game.setSeed(9), 0);
        CHECK.same("setSeed again", game.setSeed(10), 9);
    }
}
