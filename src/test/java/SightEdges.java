/** Edges of the sight: promises 10 and 11. */
final class SightEdges {
    private static final int[] COLUMNS = {0, 1, 1, 1, 0, -1, -1, -1};
    private static final int[] ROWS = {-1, -1, 0, 1, 1, 1, 0, -1};

    private final Check check;

    SightEdges(Check check) {
        this.check = check;
    }

    void run() {
        atMostItsSight();
        columnsAndRows();
        notAroundTheMap();
        itsOwn();
        cellsBetween();
        nearestNumbers();
        halvesTowardZero();
        hillsBlock();
        woodsBlock();
        waterAndPlain();
        notIfLost();
        seenCells();
    }

    private static SeedBattle alone(String wishes, char kind, int cell) {
        return Maps.with(Maps.game(wishes), "0" + kind + cell);
    }

    /** From a cell in the middle on open ground, each way: as far as the sight, and no farther. */
    private void ways(char kind, int far) {
        for (int way = 0; way < 8; way++) {
            int column = 3 - 2 * COLUMNS[way];
            int row = 3 - 2 * ROWS[way];
            StringBuilder wishes = new StringBuilder(8 * row + column + "=p");
            for (int k = 1; k <= far; k++) {
                wishes.append(' ').append(8 * (row + k * ROWS[way]) + column + k * COLUMNS[way]).append("=o");
            }
            SeedBattle game = alone(wishes.toString(), kind, 8 * row + column);
            for (int k = 0; k <= far + 1; k++) {
                int target = 8 * (row + k * ROWS[way]) + column + k * COLUMNS[way];
                check.same(kind + " by the way " + way + ", " + k + " far", game.sees(0, target), k <= far);
            }
        }
    }

    private void atMostItsSight() {
        check.sentence("Sight", "A unit sees a cell whose columns and rows differ by at most its sight");
        ways('a', 2);
        ways('s', 3);
        ways('t', 4);
    }

    private void columnsAndRows() {
        check.sentence("Sight", "whose columns and rows differ by at most its sight");
        SeedBattle game = alone("27=p 19=o 28=o 20=o 35=o 26=o 34=o 18=o 36=o", 'a', 27);
        for (int cell = 0; cell < 64; cell++) {
            boolean near = cell % 8 >= 1 && cell % 8 <= 5 && cell / 8 >= 1 && cell / 8 <= 5;
            check.same("an army on 27 sees " + cell, game.sees(0, cell), near);
        }
        check.same("the number of cells", game.seen(0), 25);
    }

    private void notAroundTheMap() {
        check.sentence("Sight", "columns and rows differ by at most its sight");
        SeedBattle right = alone("31=h", 't', 31);
        for (int cell : new int[] {24, 32, 33, 40, 16, 25}) {
            check.same("from the right border to " + cell, right.sees(0, cell), false);
        }
        SeedBattle left = alone("32=h", 't', 32);
        for (int cell : new int[] {31, 39, 23, 30, 47, 38}) {
            check.same("from the left border to " + cell, left.sees(0, cell), false);
        }
        SeedBattle first = alone("0=h", 't', 0);
        check.same("from the first cell to the last", first.sees(0, 63), false);
        check.same("from the first cell to the end of its row", first.sees(0, 7), false);
        check.same("from the first cell to the end of its column", first.sees(0, 56), false);
        SeedBattle last = alone("63=h", 't', 63);
        check.same("from the last cell to the first", last.sees(0, 0), false);
        check.same("from the last cell to its neighbour", last.sees(0, 62), true);
    }

    private void itsOwn() {
        check.sentence("Sight", "its own always");
        for (String ground : new String[] {"p", "w", "h"}) {
            for (char kind : new char[] {'s', 'a', 't'}) {
                for (int cell : new int[] {0, 27, 63}) {
                    check.same(kind + " on " + ground + cell, alone(cell + "=" + ground, kind, cell).sees(0, cell), true);
                }
            }
        }
    }

    private void cellsBetween() {
        check.sentence("Sight", "with n the greater difference of columns and rows, the cells between are, "
            + "for k from 1 to n less 1");
        SeedBattle game = alone("27=w 18=b 19=b 20=b 26=b 28=b 34=b 35=b 36=b", 's', 27);
        for (int cell : new int[] {18, 19, 20, 26, 28, 34, 35, 36}) {
            check.same("none lies between neighbours, " + cell, game.sees(0, cell), true);
        }
        check.same("no more cells than these", game.seen(0), 9);
        check.same("the last one between", alone("24=p 25=p 26=h", 's', 24).sees(0, 27), false);
        check.same("the first one between", alone("24=p 25=h 26=p", 's', 24).sees(0, 27), false);
        check.same("the end is not between", alone("24=p 25=p 26=p 27=h", 's', 24).sees(0, 27), true);
        check.same("nor one behind the end", alone("24=p 25=p 26=p 27=h", 's', 24).sees(0, 26), true);
    }

    /** Whether a tower on plain sees the cell, if all other cells given are open, and one is a hill. */
    private void line(int from, int to, String between, String beside) {
        String[] parts = between.split(" ");
        for (String hill : parts) {
            check.same("from " + from + " to " + to + " by the hill " + hill, lined(from, to, between, hill), false);
        }
        for (String hill : beside.split(" ")) {
            check.same("from " + from + " to " + to + " beside the hill " + hill, lined(from, to, between, hill), true);
        }
    }

    private static boolean lined(int from, int to, String open, String hill) {
        StringBuilder wishes = new StringBuilder(from + "=p " + hill + "=h");
        for (String cell : open.split(" ")) {
            if (!cell.equals(hill)) {
                wishes.append(' ').append(cell).append("=o");
            }
        }
        return alone(wishes.toString(), 't', from).sees(0, to);
    }

    private void nearestNumbers() {
        check.sentence("Sight", "the column moved by k times the difference of columns divided by n, the row likewise, "
            + "both rounded to the nearest whole number");
        line(27, 38, "28 37", "36 29");
        line(27, 54, "36 45", "35 37 44 46");
        line(27, 53, "36 44", "35 45");
        line(36, 25, "35 26", "27 34");
        line(36, 10, "27 19", "28 18");
    }

    private void halvesTowardZero() {
        check.sentence("Sight", "halves toward 0");
        line(27, 37, "28", "36");
        line(27, 21, "28", "20");
        line(27, 33, "26", "34");
        line(27, 17, "26", "18");
        line(27, 44, "35", "36");
        line(27, 42, "35", "34");
        line(27, 12, "19", "20");
        line(27, 10, "19", "18");
        line(27, 47, "28 37 38", "36 46 29");
        line(36, 16, "35 26 25", "27 17 34");
        line(27, 61, "35 44 52", "36 53 43");
        line(36, 2, "28 19 11", "27 10 20");
        line(32, 60, "41 42 51", "33 50 52");
        line(39, 11, "30 29 20", "38 21 19");
        line(32, 44, "33 34 43", "41 42 35");
        line(36, 24, "35 34 25", "27 26 33");
    }

    private void hillsBlock() {
        check.sentence("Sight", "Hills block always");
        check.same("seen from plain", alone("27=p 28=h", 's', 27).sees(0, 29), false);
        check.same("seen from a wood", alone("27=w 28=h", 's', 27).sees(0, 29), false);
        check.same("seen from a hill", alone("27=h 28=h", 's', 27).sees(0, 29), false);
        check.same("seen from a hill by a tower", alone("27=h 35=h", 't', 27).sees(0, 43), false);
    }

    private void woodsBlock() {
        check.sentence("Sight", "woods unless the one that sees is on a hill");
        check.same("seen from plain", alone("27=p 28=w", 's', 27).sees(0, 29), false);
        check.same("seen from a wood", alone("27=w 28=w", 's', 27).sees(0, 29), false);
        check.same("seen from a hill", alone("27=h 28=w", 's', 27).sees(0, 29), true);
        check.same("two woods, seen from a hill", alone("27=h 28=w 29=w", 's', 27).sees(0, 30), true);
        check.same("a wood and a hill, seen from a hill", alone("27=h 28=w 29=h", 's', 27).sees(0, 30), false);
        check.same("a hill at the end does not help", alone("27=p 28=w 29=h", 's', 27).sees(0, 29), false);
    }

    private void waterAndPlain() {
        check.sentence("Sight", "water and plain do not");
        check.same("water", alone("27=p 28=x 29=x", 's', 27).sees(0, 30), true);
        check.same("plain", alone("27=p 28=p 29=p", 's', 27).sees(0, 30), true);
        check.same("both, from a wood", alone("27=w 28=x 29=p", 's', 27).sees(0, 30), true);
        check.same("water at the end", alone("27=p 28=p 29=x", 's', 27).sees(0, 29), true);
    }

    private void notIfLost() {
        check.sentence("Promise 10", "Returns whether it does; not if it is lost.");
        SeedBattle game = Maps.with(Maps.plainGame(), "0a17 1s18");
        check.same("ahead of it", game.sees(1, 18), true);
        game.order(0, 2);
        game.turn();
        for (int cell = 0; cell < 64; cell++) {
            check.same("the lost one sees " + cell, game.sees(1, cell), false);
        }
        check.same("the other one sees the first cell", game.sees(0, 0), false);
        SeedBattle corner = alone("0=p 1=p 9=p", 's', 0);
        check.same("the first cell", corner.sees(0, 0), true);
        check.same("the last cell", corner.sees(0, 63), false);
        check.same("the first cell is empty, and seen", alone("1=p", 's', 1).sees(0, 0), true);
        check.same("the last cell is empty, and seen", alone("62=p", 's', 62).sees(0, 63), true);
    }

    private void seenCells() {
        check.sentence("Promise 11", "Returns the number of cells.");
        SeedBattle game = new SeedBattle();
        for (int player = 0; player < 4; player++) {
            check.same("without units", game.seen(player), 0);
        }
        SeedBattle small = alone("0=p 1=h 8=h 9=h", 'a', 0);
        check.same("a corner behind hills", small.seen(0), 4);
        check.same("another player", small.seen(1), 0);
        check.same("the corner of the last row", alone("56=p 48=h 49=h 57=h", 'a', 56).seen(0), 4);
        check.same("the last corner", alone("63=p 62=h 54=h 55=h", 't', 63).seen(0), 4);
        SeedBattle twice = Maps.with(Maps.game("27=p 19=o 28=p 20=o 35=o 26=o 34=o 18=o 36=o 29=o 21=o 37=o"), "0a27 0a28");
        check.same("each cell counts once", twice.seen(0), 30);
        check.sentence("Promise 11", "Returns how many cells a player sees by its units.");
        SeedBattle lost = Maps.with(Maps.plainGame(), "0a17 1s18");
        lost.setTreaty(0, 1, true);
        lost.setTreaty(2, 1, true);
        check.same("not by those of an ally", lost.seen(2), 0);
        lost.order(0, 2);
        lost.turn();
        check.same("not by the lost one", lost.seen(1), 0);
    }
}
