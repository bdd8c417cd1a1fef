/** Edges of the map and of a game as a whole: promises 1 to 3. */
final class MapEdges {
    /** Maps as another program than this class and Maps wrote them out. */
    private static final String MAP_OF_0 = "pwwwpxwwppwwphxpppwwpxpxpwwwwwpphppppxxhxppphppppwwwpppxhhphxwpw";
    private static final String MAP_OF_1 = "hhppppppwhwxwwpxpxphhpxxxhxpppwpphpppwppwwwxxhwpppppwpphhxppxxxh";
    private static final String MAP_OF_THE_GREATEST =
        "pphhpppxphwpppwhxpxwpwphppppxppwpppppphwpwwwwwwpwppphpppwwpwxppw";

    private final Check check;

    MapEdges(Check check) {
        this.check = check;
    }

    void run() {
        eightByEight();
        numbersOfCells();
        seedAtFirst();
        wrapping();
        shiftedWithZeros();
        moduloEight();
        newObject();
        seedBefore();
        groundsOfCells();
        followsFromSeedAndOrders();
        lastCall();
    }

    private static String map(SeedBattle game) {
        StringBuilder map = new StringBuilder();
        for (int cell = 0; cell < 64; cell++) {
            map.append(game.ground(cell));
        }
        return map.toString();
    }

    private static SeedBattle seeded(int seed) {
        SeedBattle game = new SeedBattle();
        game.setSeed(seed);
        return game;
    }

    private void eightByEight() {
        check.sentence("Map", "It has 8 columns and 8 rows");
        SeedBattle game = new SeedBattle();
        int cells = 0;
        for (int at = -200; at < 200; at++) {
            int cell = at;
            cells += Check.answer(() -> game.ground(cell)) instanceof Character ? 1 : 0;
        }
        check.same("the number of cells", cells, 64);
        check.same("the first", game.ground(0), 'p');
        check.same("the last", game.ground(63), 'w');
    }

    private void numbersOfCells() {
        check.sentence("Map", "the cell of the column x and the row y has the number 8 times y plus x");
        SeedBattle game = Maps.game("28=l 29=l 36=l");
        game.addUnit(0, 's', 28);
        check.play("a column to the right, then back", game, "0>2 0>6", 0, 28);
        check.play("a column to the right", game, "0>2", 0, 29);
        check.play("back, and a row down", game, "0>6 0>4", 0, 36);
    }

    private void seedAtFirst() {
        check.sentence("Map", "By the seed, an int, 0 at first");
        SeedBattle game = new SeedBattle();
        check.same("the map of a new object", map(game), MAP_OF_0);
        check.same("the seed before", game.setSeed(1), 0);
        check.same("the map of the seed 1", map(game), MAP_OF_1);
        game.setSeed(0);
        check.same("the map of the seed 0 again", map(game), MAP_OF_0);
    }

    private void wrapping() {
        check.sentence("Map", "becomes itself times 1103515245 plus 12345, as ints that wrap");
        check.same("the greatest seed", map(seeded(Integer.MAX_VALUE)), MAP_OF_THE_GREATEST);
        check.same("the seed -1, that differs in the sign alone", map(seeded(-1)), MAP_OF_THE_GREATEST);
        check.same("the least seed", map(seeded(Integer.MIN_VALUE)), MAP_OF_0);
        check.same("a seed that differs in the sign alone", map(seeded(Integer.MIN_VALUE + 1)), MAP_OF_1);
    }

    /** What there is for the cells 1 to 3 by the seed 0: 0xd3dc167e, 0xa70427df, 0xd6651c2c. */
    private void shiftedWithZeros() {
        check.sentence("Map", "this shifted right by 16 bits with zeros");
        SeedBattle game = new SeedBattle();
        check.same("0xd3dc modulo 8 is 4", game.ground(1), 'w');
        check.same("0xa704 modulo 8 is 4", game.ground(2), 'w');
        check.same("0xd665 modulo 8 is 5", game.ground(3), 'w');
        check.same("a hill by 0xbe39e1cc, 0x11397c15, 0x26866b2a", seeded(-1).ground(2), 'h');
        check.same("water at the last cell by 0xf13750c4", seeded(4).ground(63), 'x');
        check.same("a hill at the last cell by 0x8f3615c1", seeded(1).ground(63), 'h');
    }

    private void moduloEight() {
        check.sentence("Map", "modulo 8, tell the ground: 0 to 3 plain, 4 and 5 wood, 6 a hill, 7 water");
        int[] first = {0, 4, 8, 3, 2, 11, 1, 5};
        int[] last = {6, 10, 12, 14, 17, 19, 1, 4};
        for (int rest = 0; rest < 8; rest++) {
            check.same("the cell 0 by " + rest, seeded(first[rest]).ground(0), "ppppwwhx".charAt(rest));
            check.same("the cell 63 by " + rest, seeded(last[rest]).ground(63), "ppppwwhx".charAt(rest));
        }
    }

    private void newObject() {
        check.sentence("Promise 1", "Creates a game with the seed 0, without units, ahead of the turn 1.");
        SeedBattle game = new SeedBattle();
        check.same("its map", map(game), MAP_OF_0);
        check.same("turns", game.done(), 0);
        check.same("the sum", game.checksum(), 0L);
        check.due("the unit 0", "throws.IndexOutOfBoundsException", () -> game.cellOf(0));
        check.same("a unit may come", game.addUnit(0, 's', 0), 0);
        check.same("the seed", new SeedBattle().setSeed(0), 0);
    }

    private void seedBefore() {
        check.sentence("Promise 2", "Returns the seed before.");
        SeedBattle game = new SeedBattle();
        int[] seeds = {Integer.MIN_VALUE, Integer.MAX_VALUE, Integer.MAX_VALUE, -1, 1, 0, 0, 65536};
        int before = 0;
        for (int seed : seeds) {
            check.same("setSeed(" + seed + ")", game.setSeed(seed), before);
            before = seed;
        }
        game.turn();
        check.same("behind a turn, without units", game.setSeed(2), 65536);
        check.same("the map goes along", game.ground(0), 'w');
    }

    private void groundsOfCells() {
        check.sentence("Promise 3", "Returns 'p' plain, 'w' wood, 'h' a hill, 'x' water.");
        SeedBattle game = Maps.game("0=p 1=w 8=h 9=x 54=x 55=h 62=w 63=p");
        int[] cells = {0, 1, 8, 9, 54, 55, 62, 63};
        for (int at = 0; at < 8; at++) {
            check.same("ground(" + cells[at] + ")", game.ground(cells[at]), "pwhxxhwp".charAt(at));
        }
    }

    /** Two games in turns with each other, one of them asked for all that it can tell. */
    private void followsFromSeedAndOrders() {
        check.sentence("Terms", "What comes out follows from the seed and the orders alone");
        SeedBattle asked = Maps.plainGame();
        SeedBattle silent = Maps.plainGame();
        SeedBattle other = Maps.dryGame();
        for (SeedBattle game : new SeedBattle[] {asked, other, silent}) {
            Maps.with(game, "0s18 1a20 2s27 3t28");
            game.setTreaty(0, 3, true);
        }
        for (int turn = 0; turn < 9; turn++) {
            State.of(asked);
            for (SeedBattle game : new SeedBattle[] {asked, other, silent}) {
                Check.answer(() -> game.order(0, game.done() % 8));
                State.of(asked);
                Check.answer(() -> game.order(2, 3 * game.done() % 8));
                game.turn();
                game.save();
                game.breakBlock(0, 0);
                State.of(asked);
                game.repair(0);
            }
        }
        check.same("the game that was asked", State.of(asked), State.of(silent));
    }

    private void lastCall() {
        check.sentence("What it is", "An object is used for at most 512 calls after it has been made");
        SeedBattle game = new SeedBattle();
        game.setSeed(Maps.seedFor("27=l 28=p 29=l"));
        game.addUnit(0, 's', 27);
        game.addUnit(1, 's', 29);
        int calls = 3;
        for (int turn = 1; turn <= 98; turn++) {
            game.order(0, turn % 2 == 1 ? 2 : 6);
            game.turn();
            game.save();
            game.breakBlock(1, 0);
            game.repair(1);
            calls += 5;
        }
        while (calls < 510) {
            game.done();
            calls++;
        }
        check.same("the call 511", game.turn(), 0);
        check.same("the call 512", game.isSound(), true);
    }
}
