/** Promises 10 and 11 and the sight by lines: sees, seen. */
public final class SightTest {
    private static final Check CHECK = new Check("SightTest");
    /**
     * By hand, for a difference of n cells one way and m the other: the m of each cell between,
     * as k times m divided by n, rounded, halves toward 0.
     */
    private static final String[][] LINES = {
        {"", ""},
        {"", ""},
        {"0", "0", "1"},
        {"00", "01", "11", "12"},
        {"000", "001", "011", "112", "123"},
        {"0000", "0011", "0112", "1122", "1223", "1234"},
    };

    public static void main(String[] args) {
        reachOfKinds();
        whatBlocks();
        halvesTowardZero();
        allLines();
        wrongSights();
        seenByPlayers();
        sightOfMovedUnits();
        CHECK.end();
    }

    private static SeedBattle alone(String wishes, char kind, int cell) {
        SeedBattle game = Maps.game(wishes);
        game.addUnit(2, kind, cell);
        return game;
    }

    private static void reachOfKinds() {
        String open = " 25=o 26=o 27=o 28=o 29=o";
        for (int at = 0; at < 3; at++) {
            char kind = "sat".charAt(at);
            int reach = new int[] {3, 2, 4}[at];
            SeedBattle low = alone("24=p" + open, kind, 24);
            SeedBattle wood = alone("24=w" + open, kind, 24);
            SeedBattle high = alone("24=h" + open, kind, 24);
            for (int far = 0; far <= 7; far++) {
                CHECK.same(kind + " on plain sees " + far, low.sees(0, 24 + far), far <= reach);
                CHECK.same(kind + " in a wood sees " + far, wood.sees(0, 24 + far), far <= reach);
                CHECK.same(kind + " on a hill sees " + far, high.sees(0, 24 + far), far <= reach + 1);
            }
        }
        SeedBattle game = alone("27=p 19=o 11=o", 'a', 27);
        CHECK.same("rows, too", game.sees(0, 11), true);
        CHECK.same("rows, too far", game.sees(0, 3), false);
    }

    private static void whatBlocks() {
        check("a hill", "27=p 28=h", 29, false);
        check("the hill itself", "27=p 28=h", 28, true);
        check("a hill, seen from a hill", "27=h 28=h", 29, false);
        check("a wood", "27=p 28=w", 29, false);
        check("a wood, seen from a wood", "27=w 28=w", 29, false);
        check("the wood itself", "27=p 28=w", 28, true);
        check("a wood, seen from a hill", "27=h 28=w", 29, true);
        check("a wood, seen from water's side", "27=p 28=x 29=w", 30, false);
        check("water", "27=p 28=x 29=x", 30, true);
        check("plain", "27=p 28=p 29=p", 30, true);
        check("the second cell", "27=p 28=p 29=h", 30, false);
        check("a hill behind", "27=p 28=p 29=h", 29, true);
        check("a slanting hill", "27=p 36=h", 45, false);
        check("a slanting plain", "27=p 36=p", 45, true);
    }

    private static void check(String what, String wishes, int cell, boolean due) {
        CHECK.same(what, alone(wishes, 's', 27).sees(0, cell), due);
    }

    /** Two cells one way and one the other: the cell between lies straight, not aslant. */
    private static void halvesTowardZero() {
        int[][] jumps = {{2, 1}, {2, -1}, {-2, 1}, {-2, -1}, {1, 2}, {1, -2}, {-1, 2}, {-1, -2}};
        for (int[] jump : jumps) {
            int straight = 27 + jump[0] / 2 + 8 * (jump[1] / 2);
            int aslant = 27 + Integer.signum(jump[0]) + 8 * Integer.signum(jump[1]);
            int target = 27 + jump[0] + 8 * jump[1];
            check("straight hill to " + target, "27=p " + straight + "=h " + aslant + "=p", target, false);
            check("aslant hill to " + target, "27=p " + straight + "=p " + aslant + "=h", target, true);
        }
    }

    private static void allLines() {
        for (int seed = 0; seed < 400; seed++) {
            String map = Maps.of(seed);
            int cell = seed * 37 % 64;
            if (map.charAt(cell) == 'x') {
                continue;
            }
            for (int at = 0; at < 3; at++) {
                SeedBattle game = new SeedBattle();
                game.setSeed(seed);
                game.addUnit(1, "sat".charAt(at), cell);
                int reach = new int[] {3, 2, 4}[at] + (map.charAt(cell) == 'h' ? 1 : 0);
                int seen = 0;
                for (int target = 0; target < 64; target++) {
                    boolean due = byTable(map, cell, target, reach);
                    seen += due ? 1 : 0;
                    CHECK.same("seed " + seed + ", from " + cell + " to " + target, game.sees(0, target), due);
                }
                CHECK.same("seen with the seed " + seed, game.seen(1), seen);
            }
        }
    }

    private static boolean byTable(String map, int from, int to, int reach) {
        int right = to % 8 - from % 8;
        int down = to / 8 - from / 8;
        boolean wide = Math.abs(right) >= Math.abs(down);
        int longer = wide ? Math.abs(right) : Math.abs(down);
        int shorter = wide ? Math.abs(down) : Math.abs(right);
        if (longer > reach) {
            return false;
        }
        for (int k = 1; k < longer; k++) {
            int side = LINES[longer][shorter].charAt(k - 1) - '0';
            int column = from % 8 + Integer.signum(right) * (wide ? k : side);
            int row = from / 8 + Integer.signum(down) * (wide ? side : k);
            char ground = map.charAt(8 * row + column);
            if (ground == 'h' || ground == 'w' && map.charAt(from) != 'h') {
                return false;
            }
        }
        return true;
    }

    private static void wrongSights() {
        SeedBattle game = Maps.plainGame();
        game.addUnit(0, 's', 17);
        for (int unit : new int[] {-1, 1, Integer.MIN_VALUE, Integer.MAX_VALUE}) {
            CHECK.noIndex("sees of " + unit, game, () -> game.sees(unit, 17));
        }
        for (int cell : new int[] {-1, 64, Integer.MIN_VALUE, Integer.MAX_VALUE}) {
            CHECK.noIndex("sees to " + cell, game, () -> game.sees(0, cell));
        }
        for (int player : new int[] {-1, 4, Integer.MIN_VALUE, Integer.MAX_VALUE}) {
            CHECK.noIndex("seen by " + player, game, () -> game.seen(player));
        }
    }

    private static void seenByPlayers() {
        SeedBattle game = Maps.plainGame();
        game.addUnit(0, 's', 17);
        game.addUnit(0, 'a', 18);
        game.addUnit(1, 'a', 28);
        int both = 0;
        int one = 0;
        for (int cell = 0; cell < 64; cell++) {
            both += game.sees(0, cell) || game.sees(1, cell) ? 1 : 0;
            one += game.sees(2, cell) ? 1 : 0;
        }
        CHECK.same("seen(0)", game.seen(0), both);
        CHECK.same("seen(1)", game.seen(1), one);
        CHECK.same("seen(2)", game.seen(2), 0);
    }

    private static void sightOfMovedUnits() {
        SeedBattle game = Maps.plainGame();
        game.addUnit(0, 'a', 17);
        game.addUnit(1, 's', 18);
        CHECK.same("not yet", game.sees(0, 20), false);
        game.order(0, 2);
        game.turn();
        CHECK.same("from its new cell", game.sees(0, 20), true);
        CHECK.same("its own cell", game.sees(0, 18), true);
        CHECK.same("the lost one sees nothing", game.seen(1), 0);
    }
}
