/** Edges of turns: promises 6 and 7, and how moves are solved. */
final class TurnEdges {
    private final Check check;

    TurnEdges(Check check) {
        this.check = check;
    }

    void run() {
        numberedFromOne();
        twoSteps();
        onTheMap();
        notWater();
        allOthersWantTheirOwn();
        pairs();
        noFurtherPair();
        lowestCell();
        movers();
        powers();
        heldCells();
        nothingElseIsDone();
        emptyCells();
        eachOnTheCellItWants();
        fullGames();
        lossesOfATurn();
        turnsThatWereDone();
    }

    private static SeedBattle with(String units) {
        return Maps.with(Maps.dryGame(), units);
    }

    private void numberedFromOne() {
        check.sentence("Turns", "Turns are numbered from 1.");
        SeedBattle game = Maps.with(Maps.plainGame(), "0s17 1s18");
        game.turn();
        check.same("the first", State.index(game, 0), "1/18/1");
        game.turn();
        check.same("the second", State.index(game, 0), "1/18/1 2/18/1");
    }

    private void twoSteps() {
        check.sentence("Turns", "A turn has two steps.");
        check.play("one order in each", with("0s27"), "0>2 0>0", 0, 20);
        check.play("a cell that is left in the first is free in the second",
            with("0s27 1a29"), "0>2 0>2 1>4", 0, 29, 37);
        check.play("who stands in the second holds its cell",
            with("0s27 1a36"), "0>2 0>2 1>1", 0, 28, 29);
        check.play("a pair may meet in the second", with("0s25 1s28"), "0>2 0>2 1>6 1>6", 0, 26, 27);
        for (int direction = 0; direction < 8; direction++) {
            SeedBattle game = Maps.with(Maps.game("0=l 8=l 27=l 28=l"), "0s27 1a28");
            check.play("one that is lost in the first does no second", game, "0>2 0>" + direction + " 1>6", 1, -1, 27);
        }
    }

    /** What lies beside a cell, by the eight directions; the cell itself where the map ends. */
    private void border(int cell, int... beside) {
        StringBuilder wishes = new StringBuilder(cell + "=l");
        for (int other : beside) {
            wishes.append(' ').append(other).append("=l");
        }
        SeedBattle game = null;
        for (int direction = 0; direction < 8; direction++) {
            game = Maps.with(Maps.game(wishes.toString()), "0a" + cell);
            check.play(cell + " in the direction " + direction, game, "0>" + direction, 0, beside[direction]);
        }
    }

    private void onTheMap() {
        check.sentence("Turns", "wants the cell in this direction, if it is on the map");
        border(0, 0, 0, 1, 9, 8, 0, 0, 0);
        border(7, 7, 7, 7, 7, 15, 14, 6, 7);
        border(56, 48, 49, 57, 56, 56, 56, 56, 56);
        border(63, 55, 63, 63, 63, 63, 63, 62, 54);
        border(3, 3, 3, 4, 12, 11, 10, 2, 3);
        border(60, 52, 53, 61, 60, 60, 60, 59, 51);
        border(24, 16, 17, 25, 33, 32, 24, 24, 24);
        border(31, 23, 31, 31, 31, 39, 38, 30, 22);
        border(9, 1, 2, 10, 18, 17, 16, 8, 0);
    }

    private void notWater() {
        check.sentence("Turns", "and not water");
        int[] beside = {19, 20, 28, 36, 35, 34, 26, 18};
        for (int direction = 0; direction < 8; direction++) {
            SeedBattle game = Maps.with(Maps.game("27=l " + beside[direction] + "=x"), "0a27");
            check.play("water in the direction " + direction, game, "0>" + direction, 0, 27);
        }
        check.play("water in the first step alone",
            Maps.with(Maps.game("27=l 28=x 19=l"), "0s27"), "0>2 0>0", 0, 19);
        check.play("water in the second step alone",
            Maps.with(Maps.game("27=l 19=l 20=x"), "0s27"), "0>0 0>2", 0, 19);
    }

    private void allOthersWantTheirOwn() {
        check.sentence("Turns", "all others want their own.");
        check.play("one without an order holds its cell", with("0a27 1a28"), "0>2", 0, 27, 28);
        check.play("one without an order for the second step", with("0s26 1s28"), "0>2 0>2 1>0", 0, 28, 20);
        String corner = "0=l 1=l 8=l";
        check.play("one at the border holds its cell",
            Maps.with(Maps.game(corner), "0a0 1a1"), "0>0 1>6", 0, 0, 1);
        check.play("and is lost there", Maps.with(Maps.game(corner), "0s0 1a1"), "0>7 1>6", 1, -1, 0);
        check.play("one beside water holds its cell",
            Maps.with(Maps.game("27=l 26=l 28=x"), "0a27 1a26"), "0>2 1>2", 0, 27, 26);
    }

    private void pairs() {
        String part = "Turns";
        check.sentence(part, "two units of different players, with a treaty or without one, that want each other's cells");
        SeedBattle game = with("0a27 1s28");
        game.setTreaty(0, 1, true);
        check.play("with a treaty", game, "0>2 1>6", 1, 28, -1);
        check.play("without one", with("0a27 1s28"), "0>2 1>6", 1, 28, -1);
        check.play("of the same player", with("1a27 1s28"), "0>2 1>6", 0, 28, 27);
        check.play("wanting the cell of one that goes elsewhere", with("0s27 1a28"), "0>2 1>4", 0, 28, 36);
        check.play("three players in a ring are no pair", with("0a27 1s28 2s36"), "0>2 1>4 2>7", 0, 28, 36, 27);
        check.sentence(part, "the one with less power is lost");
        check.play("the higher one", with("3a27 2s28"), "0>2 1>6", 1, 28, -1);
        check.play("the lower one", with("3s27 2a28"), "0>2 1>6", 1, -1, 27);
        check.play("with strong friends of its own", with("0s27 1a28 0a20 0a36"), "0>2 1>6 2>4 3>0", 1, -1, 27, 28, 36);
        check.sentence(part, "with the same power, both want their own cells");
        check.play("scouts", with("0s27 1s28"), "0>2 1>6", 0, 27, 28);
        check.play("armies", with("0a36 1a27"), "0>7 1>3", 0, 36, 27);
        check.play("with a friend of the one", with("0s27 1s28 0s36"), "0>2 1>6 2>0", 0, 27, 28, 36);
        check.play("with a friend of the other", with("0s27 1s28 1s35"), "0>2 1>6 2>0", 0, 27, 28, 35);
    }

    private void noFurtherPair() {
        check.sentence("Turns", "Pairs are looked at by the lower number of both, and one that was lost, "
            + "or wants its own cell by that, is in no further pair.");
        check.play("the winner meets the next one on the cell of the lost",
            with("0s27 1a28 2s26"), "0>2 1>6 2>2", 1, -1, 27, 26);
        check.play("the winner is held up there", with("0s27 1a28 2a26"), "0>2 1>6 2>2", 1, -1, 28, 26);
        check.play("who wants its own cell by that holds it", with("0s27 1s28 2s26"), "0>2 1>6 2>2", 0, 27, 28, 26);
        check.play("or is lost there", with("0s27 1s28 2a26"), "0>2 1>6 2>2", 1, -1, 28, 27);
        check.play("two pairs of the same power", with("0a27 0s35 1a28 1s36"), "0>2 1>2 2>6 3>6", 0, 27, 35, 28, 36);
        check.play("two pairs, two lost", with("0a27 1a35 1s28 0s36"), "0>2 1>2 2>6 3>6", 2, 28, 36, -1, -1);
    }

    /** Each of the first three would end otherwise, if the higher cell were looked at first. */
    private void lowestCell() {
        check.sentence("Turns", "Then, again and again: of the cells that more than one unit want, the lowest one is looked at.");
        check.play("then the higher one, to which one was turned back",
            with("0s36 1a27 2s35 2s44"), "0>0 1>2 2>2 3>0", 1, -1, 28, 36, 44);
        check.play("then the higher one, from which none came",
            with("0s28 1a37 2s27 2s20"), "0>4 1>6 2>2 3>4", 0, 28, 36, 27, 20);
        check.play("then one that is lower than the one looked at",
            with("0s36 1a44 2s43 3a28"), "0>4 2>2 3>4", 1, -1, 44, 43, 36);
        check.play("a whole row is turned back, one by one",
            with("1a29 0s28 0s27 0s26 0s25"), "1>2 2>2 3>2 4>2", 0, 29, 28, 27, 26, 25);
        String ends = "0=l 1=l 8=l 55=l 62=l 63=l";
        check.play("the first cell and the last one",
            Maps.with(Maps.game(ends), "0s1 1s8 0s55 1a62"), "0>6 1>0 2>4 3>2", 0, 1, 8, 55, 63);
    }

    private void movers() {
        check.sentence("Turns", "The units that want it and do not stand on it are the movers.");
        check.play("one that stands on it is no mover", with("0s28 0a27 1s29"), "1>2 2>6", 0, 28, 27, 29);
        check.play("one that stands on it and leaves is none",
            with("0s28 0s27 0s29"), "0>0 1>2 2>6", 0, 20, 28, 29);
    }

    private void powers() {
        check.sentence("Turns", "The power of a player there is the sum of its movers' power, "
            + "and of the one that stands on it and wants it.");
        check.play("the sum of two movers", with("0s27 0s19 1s29"), "0>2 1>3 2>6", 0, 28, 19, 29);
        check.play("the one that stands there is added", with("1t28 1s36 0a27"), "1>0 2>2", 0, 28, 36, 27);
        check.play("the one that leaves is not", with("0a28 0s27 1s36"), "0>2 1>2 2>0", 0, 29, 27, 36);
        SeedBattle game = with("0s27 0s19 1a29 2s20");
        game.setTreaty(0, 2, true);
        check.play("one of an ally is not", game, "0>2 1>3 2>6 3>4", 0, 27, 19, 28, 20);
        check.play("one that goes elsewhere is not", with("0s27 0a19 1s36"), "0>2 1>2 2>0", 0, 27, 20, 36);
    }

    private void heldCells() {
        check.sentence("Turns", "a player other than its own has more power than each other one, this one is lost");
        check.play("just more", with("0a27 1t28"), "0>2", 1, 28, -1);
        check.play("more than two others", with("0s28 1a27 2s29"), "1>2 2>6", 1, -1, 28, 29);
        check.sentence("Turns", "if no such player has, all movers want their own cells");
        check.play("just as much", with("0a27 1a28"), "0>2", 0, 27, 28);
        check.play("just less", with("0s27 1t28"), "0>2", 0, 27, 28);
        check.play("two players with as much", with("0s28 1a27 2a29"), "1>2 2>6", 0, 28, 27, 29);
        check.play("two players with as much as the owner", with("0s28 1s27 2s29"), "1>2 2>6", 0, 28, 27, 29);
        check.play("its own player alone", with("0s28 0a27 0a29"), "1>2 2>6", 0, 28, 27, 29);
        check.play("its own player most of all", with("0s28 0a27 1a29"), "1>2 2>6", 0, 28, 27, 29);
    }

    private void nothingElseIsDone() {
        check.sentence("Turns", "and nothing else is done by this look");
        check.play("the next look lets the strongest in", with("0s28 1a27 2s29"), "1>2 2>6", 1, -1, 28, 29);
        check.play("its mover with the lowest number", with("1s28 0s27 0a29"), "1>2 2>6", 1, -1, 28, 29);
        check.play("the lost one's friend is turned back", with("0s28 0s36 1a27"), "1>0 2>2", 1, -1, 36, 28);
    }

    private void emptyCells() {
        String part = "Turns";
        check.sentence(part, "If none that stands on it wants it: if one player has more power than each other one");
        check.play("just more", with("0s27 0s19 1s29"), "0>2 1>3 2>6", 0, 28, 19, 29);
        check.play("more than two others", with("1s27 2s29 0a36"), "0>2 1>6 2>0", 0, 27, 29, 28);
        check.play("one alone", with("0s27 0a29"), "0>2 1>6", 0, 28, 29);
        check.sentence(part, "its mover with the lowest number goes on wanting it, and all other movers want their own cells");
        check.play("the lowest of three", with("1s36 0s29 0a27 0a19"), "0>0 1>6 2>2 3>3", 0, 36, 28, 27, 19);
        check.play("the lowest of its player, not of all", with("1s29 0a27 0s36"), "0>6 1>2 2>0", 0, 29, 28, 36);
        check.sentence(part, "otherwise all do");
        check.play("two players with as much", with("0a27 1a29"), "0>2 1>6", 0, 27, 29);
        check.play("and a third with less", with("0s36 1a27 2a29"), "0>0 1>2 2>6", 0, 36, 27, 29);
        check.play("three movers as strong as one", with("0s27 0s19 0s20 1a29"), "0>2 1>3 2>4 3>6", 0, 27, 19, 20, 29);
    }

    private void eachOnTheCellItWants() {
        check.sentence("Turns", "When no cell is wanted by more than one, each unit is on the cell that it wants.");
        check.play("nobody moves", with("0s27 1a28 2t36"), "", 0, 27, 28, 36);
        check.play("a ring of four players", with("0a27 1s28 2s36 3a35"), "0>2 1>4 2>6 3>0", 0, 28, 36, 35, 27);
        check.play("two friends", with("0a27 0s28"), "0>2 1>6", 0, 28, 27);
        check.play("a row", with("0a26 1s27 2a28"), "0>2 1>2 2>2", 0, 27, 28, 29);
        SeedBattle full = new SeedBattle();
        Maps.fill(full, 24);
        long before = full.checksum();
        check.same("nobody of 24 is lost", full.turn(), 0);
        check.same("nor goes anywhere", full.checksum(), before);
        check.same("a game without units", new SeedBattle().turn(), 0);
    }

    /** 24 units of which the last two, of two players, and as strong, want the same empty cell. */
    private void fullGames() {
        check.sentence("Turns", "if one player has more power than each other one");
        SeedBattle game = Maps.game("60=l 61=l 62=l");
        Maps.fill(game, 22);
        Maps.with(game, "0s60 1s62");
        game.order(22, 2);
        game.order(23, 6);
        check.same("two of 24", game.turn(), 0);
        check.same("the one", game.cellOf(22), 60);
        check.same("the other", game.cellOf(23), 62);
        game.order(22, 2);
        check.same("none is lost", game.turn(), 0);
        check.same("one of 24", game.cellOf(22), 61);
        game.order(23, 6);
        game.turn();
        check.same("the last of 24 is held up", game.cellOf(23), 62);
        check.same("isSound", game.isSound(), true);
        check.sentence("Turns", "of the cells that more than one unit want, the lowest one is looked at");
        SeedBattle crowd = new SeedBattle();
        Maps.fill(crowd, 24);
        Model model = new Model();
        for (int unit = 0; unit < 24; unit++) {
            model.addUnit(unit % 4, 's', crowd.cellOf(unit));
        }
        for (int turn = 0; turn < 9; turn++) {
            for (int unit = 0; unit < 48; unit++) {
                int direction = (unit * (turn + 3) + unit / 5) % 8;
                int ordered = unit % 24;
                Check.answer(() -> crowd.order(ordered, direction));
                if (crowd.cellOf(ordered) >= 0) {
                    model.order(ordered, direction);
                }
            }
            check.same("the lost of a crowd", crowd.turn(), model.turn());
            check.same("the crowd", crowd.checksum(), model.checksum());
        }
    }

    private void lossesOfATurn() {
        check.sentence("Promise 6", "Returns how many units were lost in it.");
        check.play("none", with("0s27"), "0>2", 0, 28);
        check.play("one in each step", with("0a20 1s21 0s26 0s34 1s28"),
            "0>2 2>2 2>2 3>2 3>1", 2, 21, -1, 28, 35, -1);
        SeedBattle game = with("0a27 1s28");
        check.play("one", game, "0>2", 1, 28, -1);
        check.play("the turn behind that", game, "", 0, 28, -1);
    }

    private void turnsThatWereDone() {
        check.sentence("Promise 7", "Returns the number of turns.");
        SeedBattle game = with("0s27");
        check.same("at first", game.done(), 0);
        for (int turn = 1; turn <= 99; turn++) {
            game.turn();
            check.same("behind a turn", game.done(), turn);
        }
        check.noState("the turn 100", game, game::turn);
        check.same("at the end", game.done(), 99);
    }
}
