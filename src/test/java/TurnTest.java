/** Promises 5 to 7 and the turns: order, turn, done. */
public final class TurnTest {
    private static final Check CHECK = new Check("TurnTest");

    public static void main(String[] args) {
        wrongOrders();
        ordersByKind();
        ninetyNineTurns();
        directions();
        edgesAndWater();
        twoSteps();
        ordersAreGone();
        pairsThatMeet();
        friendsChangePlaces();
        rings();
        emptyCells();
        friendsWantOneCell();
        heldCells();
        ownHolder();
        threePlayers();
        turnedBackIsAttacked();
        lowestCellFirst();
        lostInTheFirstStep();
        holderThatLeaves();
        beatenCellIsStillWanted();
        CHECK.end();
    }

    private static SeedBattle with(String units) {
        return Maps.with(Maps.dryGame(), units);
    }

    private static void play(String what, SeedBattle game, String orders, int lost, int... cells) {
        CHECK.play(what, game, orders, lost, cells);
    }

    private static void wrongOrders() {
        SeedBattle game = with("0s27 1t28");
        for (int unit : new int[] {-1, 2, 24, Integer.MIN_VALUE, Integer.MAX_VALUE}) {
            CHECK.noIndex("order to " + unit, game, () -> game.order(unit, 0));
        }
        for (int direction : new int[] {-1, 8, Integer.MIN_VALUE, Integer.MAX_VALUE}) {
            CHECK.noArgument("order to go " + direction, game, () -> game.order(0, direction));
        }
        CHECK.noIndex("unit before direction", game, () -> game.order(2, 8));
        CHECK.noArgument("direction before steps", game, () -> game.order(1, 8));
        CHECK.unsupported("order to a tower", game, () -> game.order(1, 0));
        play("refused orders do nothing", game, "", 0, 27, 28);
    }

    private static void ordersByKind() {
        SeedBattle game = with("0s27 1a28");
        CHECK.same("a scout's first", game.order(0, 0), 1);
        CHECK.same("a scout's second", game.order(0, 7), 2);
        CHECK.unsupported("a scout's third", game, () -> game.order(0, 0));
        CHECK.same("an army's first", game.order(1, 0), 1);
        CHECK.unsupported("an army's second", game, () -> game.order(1, 0));
        play("those that were taken", game, "", 0, 10, 20);
    }

    private static void ninetyNineTurns() {
        SeedBattle game = with("0s27");
        for (int turn = 1; turn <= 99; turn++) {
            CHECK.same("turn", game.turn(), 0);
            CHECK.same("done", game.done(), turn);
        }
        CHECK.noState("the turn 100", game, game::turn);
        CHECK.same("an order behind the last turn", game.order(0, 0), 1);
        CHECK.same("one more", game.order(0, 0), 2);
        CHECK.unsupported("too many", game, () -> game.order(0, 0));
        CHECK.noState("the turn 100 again", game, game::turn);
        CHECK.same("done", game.done(), 99);
        CHECK.same("isSound", game.isSound(), true);
    }

    private static void directions() {
        int[] due = {19, 20, 28, 36, 35, 34, 26, 18};
        for (int direction = 0; direction < 8; direction++) {
            play("the direction " + direction, with("0a27"), "0>" + direction, 0, due[direction]);
        }
    }

    private static void edgesAndWater() {
        for (int cell : new int[] {0, 7, 56, 63, 3, 24, 31, 60}) {
            String map = Maps.of(Maps.seedFor(cell + "=l"));
            for (int direction = 0; direction < 8; direction++) {
                SeedBattle game = Maps.game(cell + "=l");
                game.addUnit(0, 'a', cell);
                play("the edge " + cell, game, "0>" + direction, 0, beside(map, cell, direction));
            }
        }
        SeedBattle game = Maps.game("27=l 28=x 26=x 19=l");
        game.addUnit(0, 's', 27);
        play("water", game, "0>2 0>6", 0, 27);
        play("water in the first step alone", game, "0>2 0>0", 0, 19);
    }

    private static int beside(String map, int cell, int direction) {
        String columns = "-01";
        int[] order = {1, 2, 5, 8, 7, 6, 3, 0};
        int column = cell % 8 + columns.indexOf(columns.charAt(order[direction] % 3)) - 1;
        int row = cell / 8 + order[direction] / 3 - 1;
        boolean inside = column >= 0 && column < 8 && row >= 0 && row < 8;
        return inside && map.charAt(8 * row + column) != 'x' ? 8 * row + column : cell;
    }

    private static void twoSteps() {
        play("two steps", with("0s27"), "0>0 0>2", 0, 20);
        play("one of two steps", with("0s27"), "0>0", 0, 19);
        play("an army stands in the second step", with("0a27 1s29"), "0>2 1>4 1>6", 0, 28, 36);
        play("a scout comes back", with("0s27"), "0>0 0>4", 0, 27);
        play("a scout follows into the cell left", with("0s27 0s26"), "0>2 0>2 1>2 1>2", 0, 29, 28);
    }

    private static void ordersAreGone() {
        SeedBattle game = with("0s27 1a36");
        play("the first turn", game, "0>0", 0, 19, 36);
        play("no orders are left", game, "", 0, 19, 36);
        CHECK.same("the count starts anew", game.order(0, 4), 1);
        CHECK.same("its second", game.order(0, 4), 2);
        play("the third turn", game, "1>6", 0, 27, 35);
    }

    private static void pairsThatMeet() {
        play("the same power", with("0a27 1a28"), "0>2 1>6", 0, 27, 28);
        play("less power of the higher", with("0a27 1s28"), "0>2 1>6", 1, 28, -1);
        play("less power of the lower", with("0s27 1a28"), "0>2 1>6", 1, -1, 27);
        play("askew", with("0s27 1a36"), "0>3 1>7", 1, -1, 27);
        SeedBattle game = with("0a27 1s28");
        game.setTreaty(0, 1, true);
        play("a treaty does not help", game, "0>2 1>6", 1, 28, -1);
        game = with("0s27 1s28");
        game.setTreaty(0, 1, true);
        play("nor does it let them pass", game, "0>2 1>6", 0, 27, 28);
        play("two pairs", with("0a27 1s28 1a35 0s36"), "0>2 1>6 2>2 3>6", 2, 28, -1, 36, -1);
        play("the meeting has no help", with("0s27 1a28 0a36"), "0>2 1>6 2>0", 1, -1, 27, 28);
        play("nor has one of the same power", with("0s27 1s28 0s36"), "0>2 1>6 2>0", 0, 27, 28, 36);
        play("nor has the other one", with("0s27 1s28 1s35"), "0>2 1>6 2>0", 0, 27, 28, 35);
        play("a pair of the same power turned back is beaten", with("0s27 1s28 2a20"),
            "0>2 1>6 2>4", 1, 27, -1, 28);
    }

    private static void friendsChangePlaces() {
        play("friends change places", with("0a27 0s28"), "0>2 1>6", 0, 28, 27);
        play("friends of the same kind", with("2a27 2a36"), "0>3 1>7", 0, 36, 27);
    }

    private static void rings() {
        play("a ring of three", with("0a27 1a28 2a36"), "0>2 1>4 2>7", 0, 28, 36, 27);
        play("a ring of four", with("0a27 1s28 2s36 3a35"), "0>2 1>4 2>6 3>0", 0, 28, 36, 35, 27);
        play("a row", with("0a27 1s28 2s29"), "0>2 1>2 2>0", 0, 28, 29, 21);
    }

    private static void emptyCells() {
        play("the same power", with("0a27 1a29"), "0>2 1>6", 0, 27, 29);
        play("more power", with("0s27 1a29"), "0>2 1>6", 0, 27, 28);
        play("two are stronger than one", with("0s27 0s19 1s29"), "0>2 1>3 2>6", 0, 28, 19, 29);
        play("four scouts against an army", with("1a29 0s27 0s19 0s20 0s35"),
            "0>6 1>2 2>3 3>4 4>1", 0, 29, 28, 19, 20, 35);
        play("three scouts against an army", with("1a29 0s27 0s19 0s20"),
            "0>6 1>2 2>3 3>4", 0, 29, 27, 19, 20);
        SeedBattle game = with("0s27 0s19 1a29 2s20");
        game.setTreaty(0, 2, true);
        play("a treaty adds no power", game, "0>2 1>3 2>6 3>4", 0, 27, 19, 28, 20);
    }

    private static void friendsWantOneCell() {
        play("the lowest goes", with("0s27 0a29"), "0>2 1>6", 0, 28, 29);
        play("the lowest goes, though weaker", with("1s36 0s27 0a29"), "0>0 1>2 2>6", 0, 36, 28, 29);
    }

    private static void heldCells() {
        play("the same power", with("0a27 1a28"), "0>2", 0, 27, 28);
        play("less power", with("0s27 1a28"), "0>2", 0, 27, 28);
        play("more power", with("0a27 1t28"), "0>2", 1, 28, -1);
        play("a tower holds against a scout", with("0s27 1t28"), "0>2", 0, 27, 28);
        play("a tower holds against two scouts", with("0s27 1t28 0s19"), "0>2 2>3", 0, 27, 28, 19);
        play("two armies against one", with("0a27 1a28 0a19"), "0>2 2>3", 1, 28, -1, 19);
        play("help for the holder", with("0a27 1t28 1s19"), "0>2 2>3", 0, 27, 28, 19);
        play("too little help", with("0a27 0s35 1t28 1s19"), "0>2 1>1 3>3", 1, 28, 35, -1, 19);
    }

    private static void ownHolder() {
        play("a friend holds", with("0s27 0s28"), "0>2", 0, 27, 28);
        play("a stronger friend", with("0a27 0s28"), "0>2", 0, 27, 28);
        play("friends of the holder alone", with("0a27 0s28 0a36"), "0>2 2>0", 0, 27, 28, 36);
        play("a friend held back by water or edge", with("0a27 0s28"), "0>2 1>2 1>6", 0, 28, 29);
    }

    private static void threePlayers() {
        play("none is strongest", with("0s28 1a27 2a29"), "1>2 2>6", 0, 28, 27, 29);
        play("one is strongest", with("0s28 1a27 2s29"), "1>2 2>6", 1, -1, 28, 29);
        play("two together", with("0s28 1s27 1s36 2s29"), "1>2 2>0 3>6", 1, -1, 28, 36, 29);
        play("an empty cell, none is strongest", with("1a27 2a29 0s36"), "0>2 1>6 2>0", 0, 27, 29, 36);
        play("an empty cell, one is strongest", with("1s27 2s29 0a36"), "0>2 1>6 2>0", 0, 27, 29, 28);
        play("the holder's power counts", with("0a28 1a27 2a29"), "1>2 2>6", 0, 28, 27, 29);
    }

    private static void turnedBackIsAttacked() {
        play("the one turned back is lost", with("0s27 1a28 2a26"), "0>2 2>2", 1, -1, 28, 27);
        play("the one turned back holds", with("0a27 1a28 2a26"), "0>2 2>2", 0, 27, 28, 26);
        play("a whole row is turned back", with("0s28 0s27 0s26 1a29"), "0>2 1>2 2>2", 0, 28, 27, 26, 29);
        play("a ring with a friend outside", with("0a27 0a28 0a36 0a26"), "0>2 1>4 2>7 3>2", 0, 28, 36, 27, 26);
    }

    /** Each of these would end otherwise, if the higher cell were looked at first. */
    private static void lowestCellFirst() {
        play("turned back to a higher cell", with("0s36 1a27 2s35 2s44"), "0>0 1>2 2>2 3>0", 1, -1, 28, 36, 44);
        play("turned back to a lower cell", with("0s28 1a37 2s27 2s20"), "0>4 1>6 2>2 3>4", 0, 28, 36, 27, 20);
        play("a lower cell than the one just looked at", with("0s36 1a44 2s43 3a28"),
            "0>4 2>2 3>4", 1, -1, 44, 43, 36);
    }

    private static void lostInTheFirstStep() {
        play("a lost one does no second step", with("0s27 1a28"), "0>2 0>0 1>6", 1, -1, 27);
        play("its cell is free in the second step", with("0a27 1s28 2s19"), "0>2 1>6 2>6 2>3", 1, 28, -1, 27);
    }

    private static void holderThatLeaves() {
        play("into a cell that is left", with("0s27 1a28"), "0>2 1>2", 0, 28, 29);
        play("a weak one into a strong one's cell", with("0s27 1a28 2s36"), "0>2 1>2 2>0", 0, 27, 29, 36);
        play("one that leaves gives no power", with("0s27 0a28 1s36"), "0>2 1>2 2>0", 0, 27, 29, 36);
    }

    private static void beatenCellIsStillWanted() {
        play("the winner's lowest mover goes in", with("0s28 1a27 1a29"), "1>2 2>6", 1, -1, 28, 29);
        play("the loser's friend is turned back", with("0s28 0s36 1a27 2s29"), "1>0 2>2 3>6", 1, -1, 36, 28, 29);
        play("behind the loss none is strongest", with("0s28 1a27 2s29 2s37"), "1>2 2>6 3>7", 1, -1, 28, 29, 37);
    }
}
