/** Promises 4, 8, 9, 24 and 25: addUnit, cellOf, unitOn, checksum, livingShare. */
public final class UnitTest {
    private static final Check CHECK = new Check("UnitTest");

    public static void main(String[] args) {
        unitsAreNumbered();
        wrongUnits();
        exceptionsInTheirOrder();
        noUnitOnWater();
        twentyFourAtMost();
        noUnitBehindATurn();
        placesAndSums();
        lostUnits();
        CHECK.end();
    }

    private static void unitsAreNumbered() {
        SeedBattle game = Maps.dryGame();
        CHECK.same("the first", game.addUnit(3, 's', 18), 0);
        CHECK.same("the second", game.addUnit(0, 'a', 19), 1);
        CHECK.same("the third", game.addUnit(3, 't', 20), 2);
        CHECK.same("cellOf(0)", game.cellOf(0), 18);
        CHECK.same("cellOf(2)", game.cellOf(2), 20);
        CHECK.same("unitOn(19)", game.unitOn(19), 1);
        CHECK.same("unitOn(21)", game.unitOn(21), -1);
    }

    private static void wrongUnits() {
        SeedBattle game = Maps.dryGame();
        game.addUnit(0, 's', 18);
        for (int player : new int[] {-1, 4, Integer.MIN_VALUE, Integer.MAX_VALUE}) {
            CHECK.noIndex("addUnit by " + player, game, () -> game.addUnit(player, 's', 19));
        }
        for (int cell : new int[] {-1, 64, Integer.MIN_VALUE, Integer.MAX_VALUE}) {
            CHECK.noIndex("addUnit on " + cell, game, () -> game.addUnit(0, 's', cell));
            CHECK.noIndex("unitOn(" + cell + ")", game, () -> game.unitOn(cell));
        }
        for (char kind : new char[] {'S', 'b', 'r', 'u', 0, ' ', (char) 255, (char) 65535}) {
            CHECK.noArgument("addUnit of " + (int) kind, game, () -> game.addUnit(0, kind, 19));
        }
        CHECK.unsupported("addUnit on a unit", game, () -> game.addUnit(0, 'a', 18));
        CHECK.unsupported("addUnit on a unit of another", game, () -> game.addUnit(1, 'a', 18));
        for (int unit : new int[] {-1, 1, 24, Integer.MIN_VALUE, Integer.MAX_VALUE}) {
            CHECK.noIndex("cellOf(" + unit + ")", game, () -> game.cellOf(unit));
        }
    }

    private static void exceptionsInTheirOrder() {
        SeedBattle game = Maps.dryGame();
        game.addUnit(0, 's', 18);
        game.turn();
        CHECK.noIndex("player before kind", game, () -> game.addUnit(4, 'q', 18));
        CHECK.noIndex("cell before kind", game, () -> game.addUnit(0, 'q', 64));
        CHECK.noArgument("kind before the taken cell", game, () -> game.addUnit(0, 'q', 18));
        CHECK.unsupported("the taken cell before the turn", game, () -> game.addUnit(0, 's', 18));
        CHECK.noState("the turn", game, () -> game.addUnit(0, 's', 19));
    }

    private static void noUnitOnWater() {
        SeedBattle game = Maps.game("0=x 1=p 2=w 3=h");
        CHECK.unsupported("addUnit on water", game, () -> game.addUnit(0, 's', 0));
        CHECK.same("on plain", game.addUnit(0, 's', 1), 0);
        CHECK.same("in a wood", game.addUnit(0, 's', 2), 1);
        CHECK.same("on a hill", game.addUnit(0, 's', 3), 2);
    }

    private static void twentyFourAtMost() {
        SeedBattle game = new SeedBattle();
        int number = 0;
        int cell = 0;
        while (number < 24) {
            if (game.ground(cell) != 'x') {
                CHECK.same("addUnit", game.addUnit(number % 4, "sat".charAt(number % 3), cell), number);
                number++;
            }
            cell++;
        }
        int free = cell;
        while (game.ground(free) == 'x') {
            free++;
        }
        int land = free;
        CHECK.noState("the 25th", game, () -> game.addUnit(0, 's', land));
        CHECK.unsupported("a taken cell before the 25th", game, () -> game.addUnit(0, 's', game.cellOf(3)));
        CHECK.same("cellOf(23)", game.unitOn(game.cellOf(23)), 23);
        CHECK.noIndex("cellOf(24)", game, () -> game.cellOf(24));
    }

    private static void noUnitBehindATurn() {
        SeedBattle game = Maps.dryGame();
        game.turn();
        CHECK.noState("addUnit behind a turn", game, () -> game.addUnit(0, 's', 18));
    }

    private static void placesAndSums() {
        SeedBattle game = Maps.dryGame();
        CHECK.noNumber("livingShare without units", game, game::livingShare);
        game.addUnit(0, 's', 18);
        CHECK.same("checksum of one", game.checksum(), 18L);
        game.addUnit(1, 's', 21);
        CHECK.same("checksum of two", game.checksum(), 31L * 18 + 21);
        CHECK.same("livingShare", game.livingShare(), 1.0f);
        game.order(1, 0);
        game.turn();
        CHECK.same("the checksum goes along", game.checksum(), 31L * 18 + game.cellOf(1));
    }

    private static void lostUnits() {
        SeedBattle game = Maps.dryGame();
        game.addUnit(0, 'a', 18);
        game.addUnit(1, 's', 19);
        game.addUnit(2, 's', 34);
        game.order(0, 2);
        CHECK.same("turn", game.turn(), 1);
        CHECK.same("cellOf the lost", game.cellOf(1), -1);
        CHECK.same("unitOn its cell", game.unitOn(19), 0);
        CHECK.same("unitOn the cell left", game.unitOn(18), -1);
        CHECK.same("checksum", game.checksum(), 31L * (31L * 19 - 1) + 34);
        CHECK.same("livingShare", game.livingShare(), 2.0f / 3.0f);
        CHECK.same("the lost one sees", game.sees(1, 19), false);
        CHECK.unsupported("order to the lost", game, () -> game.order(1, 0));
    }
}
