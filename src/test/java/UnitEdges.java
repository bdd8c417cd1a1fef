/** Edges of units and orders: promises 4, 5, 8 and 9. */
final class UnitEdges {
    private final Check check;

    UnitEdges(Check check) {
        this.check = check;
    }

    void run() {
        fourPlayers();
        twentyFour();
        notOnWater();
        oneOnEach();
        scouts();
        armies();
        towers();
        hills();
        asManyOrdersAsSteps();
        eightDirections();
        ordersAreGone();
        numbersOfUnits();
        numbersOfOrders();
        cellsOfUnits();
        unitsOnCells();
    }

    private static SeedBattle with(String units) {
        return Maps.with(Maps.dryGame(), units);
    }

    private void fourPlayers() {
        check.sentence("Units", "There are the players 0 to 3.");
        SeedBattle game = Maps.with(Maps.plainGame(), "0a17 1a18 2a19 3a20");
        check.noIndex("a unit of the player -1", game, () -> game.addUnit(-1, 's', 26));
        check.noIndex("a unit of the player 4", game, () -> game.addUnit(4, 's', 26));
        for (int player = 0; player < 4; player++) {
            check.same("the player " + player + " sees", game.seen(player) > 0, true);
        }
        game.turn();
        check.same("the first sights others", State.index(game, 0), "1/18/1 1/19/2");
        check.same("so does the last", State.index(game, 3), "1/18/1 1/19/2");
    }

    private void twentyFour() {
        check.sentence("Units", "At most 24 units are numbered from 0, each of a player");
        SeedBattle game = new SeedBattle();
        check.same("units that were taken", Maps.fill(game, 30), 24);
        check.same("the last one is there", game.unitOn(game.cellOf(23)), 23);
        check.noIndex("the unit 24", game, () -> game.cellOf(24));
        check.same("the last one gets an order", game.order(23, 0), 1);
        check.same("turn", game.turn(), 0);
        check.same("all are living", game.livingShare(), 1.0f);
    }

    private void notOnWater() {
        check.sentence("Units", "on a cell that is not water");
        SeedBattle game = Maps.game("0=x 1=p 2=w 3=h 63=x");
        check.unsupported("on the first cell, of water", game, () -> game.addUnit(0, 's', 0));
        check.unsupported("on the last cell, of water", game, () -> game.addUnit(0, 't', 63));
        check.same("plain", game.addUnit(0, 's', 1), 0);
        check.same("wood", game.addUnit(0, 's', 2), 1);
        check.same("a hill", game.addUnit(0, 's', 3), 2);
    }

    private void oneOnEach() {
        check.sentence("Units", "one at most on each");
        SeedBattle game = with("0s18 1a20");
        check.unsupported("on one's own first unit", game, () -> game.addUnit(0, 's', 18));
        check.unsupported("on another's first unit", game, () -> game.addUnit(1, 's', 18));
        check.unsupported("on the last unit", game, () -> game.addUnit(0, 't', 20));
        check.same("beside them", game.addUnit(0, 's', 19), 2);
    }

    /** Sees the given number of cells on open ground to its right, and no more. */
    private void reach(char kind, String ground, int far) {
        SeedBattle game = Maps.game("24=" + ground + " 25=o 26=o 27=o 28=o 29=o");
        game.addUnit(0, kind, 24);
        check.same(kind + " sees as far as " + far, game.sees(0, 24 + far), true);
        check.same(kind + " does not see farther than " + far, game.sees(0, 25 + far), false);
    }

    private void scouts() {
        check.sentence("Units", "'s' a scout, with the sight 3, 2 steps and the power 1");
        reach('s', "p", 3);
        check.play("two steps", with("0s27"), "0>2 0>0", 0, 20);
        check.play("as strong as a scout", with("0s27 1s28"), "0>2 1>6", 0, 27, 28);
        check.play("two are as strong as a tower", with("0s27 0s19 1t28"), "0>2 1>3", 0, 27, 19, 28);
        check.play("two are stronger than one", with("0s27 0s19 1s28"), "0>2 1>3", 1, 28, 19, -1);
    }

    private void armies() {
        check.sentence("Units", "'a' an army, with the sight 2, 1 step and the power 3");
        reach('a', "p", 2);
        check.play("one step", with("0a27"), "0>2", 0, 28);
        check.play("stronger than a tower", with("0a27 1t28"), "0>2", 1, 28, -1);
        check.play("as strong as three scouts", with("1a29 0s27 0s19 0s20"),
            "0>6 1>2 2>3 3>4", 0, 29, 27, 19, 20);
        check.play("weaker than four scouts", with("1a28 0s27 0s19 0s20 0s35"),
            "1>2 2>3 3>4 4>1", 1, -1, 28, 19, 20, 35);
        check.play("as strong as a tower and a scout", with("0a27 1t28 1s36"), "0>2 2>0", 0, 27, 28, 36);
    }

    private void towers() {
        check.sentence("Units", "'t' a tower, with the sight 4, no steps and the power 2");
        reach('t', "p", 4);
        SeedBattle game = with("0t27");
        check.unsupported("no steps", game, () -> game.order(0, 2));
        check.play("it holds against a scout", with("0s27 1t28"), "0>2", 0, 27, 28);
        check.play("it is lost to three", with("0s27 0s19 0s20 1t28"), "0>2 1>3 2>4", 1, 28, 19, 20, -1);
    }

    private void hills() {
        check.sentence("Units", "On a hill, the sight is 1 more.");
        reach('s', "h", 4);
        reach('a', "h", 3);
        reach('t', "h", 5);
        reach('s', "w", 3);
        SeedBattle game = Maps.game("26=p 27=h 28=o 29=o 30=o 31=o");
        game.addUnit(0, 's', 26);
        check.same("ahead of the hill", game.sees(0, 29), false);
        game.order(0, 2);
        game.turn();
        check.same("on it", game.sees(0, 31), true);
    }

    private void asManyOrdersAsSteps() {
        check.sentence("Orders", "A unit gets at most as many orders for a turn as it has steps");
        SeedBattle game = with("0s27 1a29 2t20");
        check.same("a scout's first", game.order(0, 0), 1);
        check.same("a scout's last", game.order(0, 4), 2);
        check.unsupported("a scout's third", game, () -> game.order(0, 0));
        check.same("an army's last", game.order(1, 4), 1);
        check.unsupported("an army's second", game, () -> game.order(1, 4));
        check.unsupported("a tower's first", game, () -> game.order(2, 4));
        check.play("what was taken", game, "", 0, 27, 37, 20);
        check.play("in the next turn as many again", game, "0>4 0>4 1>0", 0, 43, 29, 20);
    }

    private void eightDirections() {
        check.sentence("Orders",
            "each is a direction, from 0 to 7: 0 is the row above, then on clockwise, 1 above and right, 2 right");
        int[] due = {19, 20, 28, 36, 35, 34, 26, 18};
        for (int direction = 0; direction < 8; direction++) {
            check.play("the direction " + direction, with("0a27"), "0>" + direction, 0, due[direction]);
        }
        SeedBattle game = with("0a27");
        check.noArgument("the direction -1", game, () -> game.order(0, -1));
        check.noArgument("the direction 8", game, () -> game.order(0, 8));
        check.same("neither counts", game.order(0, 0), 1);
    }

    private void ordersAreGone() {
        check.sentence("Orders", "All orders are gone behind the turn.");
        SeedBattle game = with("0s27 1a36");
        check.play("two steps", game, "0>0 0>2 1>4", 0, 20, 44);
        check.play("and no more", game, "", 0, 20, 44);
        check.play("one of two", game, "0>6", 0, 19, 44);
        check.play("the second is not kept for later", game, "", 0, 19, 44);
        SeedBattle held = with("0a27 1a28");
        check.play("one that could not be done", held, "0>2", 0, 27, 28);
        check.play("is gone, too", held, "1>2", 0, 27, 29);
        check.same("the count starts anew", held.order(0, 0), 1);
    }

    private void numbersOfUnits() {
        check.sentence("Promise 4", "Returns the number of the unit.");
        SeedBattle game = Maps.dryGame();
        check.same("the first", game.addUnit(3, 't', 18), 0);
        check.unsupported("one that is refused", game, () -> game.addUnit(3, 't', 18));
        check.same("the refused one took no number", game.addUnit(0, 's', 19), 1);
        SeedBattle full = new SeedBattle();
        Maps.fill(full, 23);
        int land = Maps.freeLand(full);
        check.same("the last", full.addUnit(2, 'a', land), 23);
        check.same("it is there", full.cellOf(23), land);
    }

    private void numbersOfOrders() {
        check.sentence("Promise 5", "Returns the number of its orders.");
        SeedBattle game = with("0s27 0s36");
        check.same("the first", game.order(0, 7), 1);
        check.same("the first of another", game.order(1, 7), 1);
        check.same("the second", game.order(0, 7), 2);
        check.unsupported("the third", game, () -> game.order(0, 7));
        check.same("the second of the other", game.order(1, 0), 2);
    }

    private void cellsOfUnits() {
        check.sentence("Promise 8", "Returns the cell, -1 if it is lost.");
        SeedBattle game = Maps.with(Maps.game("0=l 1=l 62=l 63=l"), "0a0 1s1 0s63 0s62");
        check.same("the first cell", game.cellOf(0), 0);
        check.same("the last cell", game.cellOf(2), 63);
        check.play("one is lost", game, "0>2", 1, 1, -1, 63, 62);
        game.turn();
        check.same("it stays lost", game.cellOf(1), -1);
    }

    private void unitsOnCells() {
        check.sentence("Promise 9", "Returns the unit, or -1.");
        SeedBattle game = Maps.with(Maps.game("0=l 1=l 62=x 63=l"), "0a0 1s1 0s63");
        check.same("on the first cell", game.unitOn(0), 0);
        check.same("on the last cell", game.unitOn(63), 2);
        check.same("on water", game.unitOn(62), -1);
        game.order(0, 2);
        game.turn();
        check.same("on the cell that was left", game.unitOn(0), -1);
        check.same("on the cell of the lost", game.unitOn(1), 0);
        for (int cell = 2; cell < 63; cell++) {
            check.same("on the empty cell " + cell, game.unitOn(cell), -1);
        }
    }
}
