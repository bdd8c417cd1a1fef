/** Each exception of each promise, at its boundaries, and the order in which they are listed. */
final class RefusalEdges {
    private static final int[] NO_PLAYERS = {-1, 4, 5, Integer.MIN_VALUE, Integer.MAX_VALUE};
    private static final int[] NO_CELLS = {-1, 64, 65, -64, Integer.MIN_VALUE, Integer.MAX_VALUE};
    private static final int[] NO_UNITS = {-1, 3, 23, 24, Integer.MIN_VALUE, Integer.MAX_VALUE};
    private static final char[] NO_LETTERS = {0, 1, 'S', 'A', 'T', 'U', 'C', 'b', 'r', 'q', ' ', 127, 255, 256, 65535};

    private final Check check;
    /** The exception of the sentence that was quoted last. */
    private String due = "";

    RefusalEdges(Check check) {
        this.check = check;
    }

    void run() {
        setSeed();
        cells();
        addUnit();
        order();
        turn();
        units();
        players();
        setTreaty();
        sighting();
        ages();
        saves();
        blocks();
        brokenBlocks();
        numbers();
        firstListedOfUnits();
        firstListedOfSaves();
        nothingChanges();
    }

    private void throwing(int promise, String exception, String when) {
        check.sentence("Promise " + promise, "Throws `" + exception + "` if " + when);
        due = exception;
    }

    private void refuse(String call, SeedBattle game, Check.Call run) {
        check.refuses(call, due, game, run);
    }

    private static SeedBattle fresh() {
        return Maps.with(Maps.plainGame(), "0s17 1a18 2t20");
    }

    /** The unit 1 is lost, one turn was done, nothing was saved. */
    private static SeedBattle played() {
        SeedBattle game = Maps.with(Maps.plainGame(), "0a17 1s18 2t20");
        game.order(0, 2);
        game.turn();
        return game;
    }

    private static SeedBattle saved() {
        SeedBattle game = Maps.with(Maps.plainGame(), "0s17 1t18 1t19 1t20 1t25 2t26");
        game.turn();
        game.save();
        return game;
    }

    private void setSeed() {
        throwing(2, "IllegalStateException", "there is a unit");
        for (int seed : new int[] {0, 1, -1, Integer.MIN_VALUE, Integer.MAX_VALUE}) {
            SeedBattle one = Maps.with(Maps.plainGame(), "0s17");
            refuse("setSeed(" + seed + ") with one", one, () -> one.setSeed(seed));
            SeedBattle late = played();
            refuse("setSeed(" + seed + ") behind a turn", late, () -> late.setSeed(seed));
        }
        SeedBattle full = new SeedBattle();
        Maps.fill(full, 24);
        refuse("setSeed(0) with 24", full, () -> full.setSeed(0));
    }

    private void cells() {
        String no = "IndexOutOfBoundsException";
        SeedBattle game = played();
        throwing(3, no, "there is no such cell");
        for (int cell : NO_CELLS) {
            refuse("ground(" + cell + ")", game, () -> game.ground(cell));
        }
        throwing(9, no, "there is no such cell");
        for (int cell : NO_CELLS) {
            refuse("unitOn(" + cell + ")", game, () -> game.unitOn(cell));
        }
        throwing(10, no, "there is no such unit or cell");
        for (int cell : NO_CELLS) {
            refuse("sees(0, " + cell + ")", game, () -> game.sees(0, cell));
            refuse("sees(1, " + cell + ") of a lost one", game, () -> game.sees(1, cell));
        }
        for (int unit : NO_UNITS) {
            refuse("sees(" + unit + ", 0)", game, () -> game.sees(unit, 0));
        }
    }

    private void addUnit() {
        SeedBattle game = fresh();
        throwing(4, "IndexOutOfBoundsException", "there is no such player or cell");
        for (int player : NO_PLAYERS) {
            refuse("addUnit(" + player + ", s, 19)", game, () -> game.addUnit(player, 's', 19));
        }
        for (int cell : NO_CELLS) {
            refuse("addUnit(0, s, " + cell + ")", game, () -> game.addUnit(0, 's', cell));
        }
        throwing(4, "IllegalArgumentException", "there is no such kind");
        for (char kind : NO_LETTERS) {
            refuse("addUnit(0, " + (int) kind + ", 19)", game, () -> game.addUnit(0, kind, 19));
        }
        throwing(4, "UnsupportedOperationException", "the cell is water, or a unit is on it");
        SeedBattle wet = Maps.with(Maps.game("0=x 63=x 17=l"), "0s17");
        for (int cell : new int[] {0, 63, 17}) {
            refuse("addUnit(1, t, " + cell + ")", wet, () -> wet.addUnit(1, 't', cell));
        }
        throwing(4, "IllegalStateException", "there are 24, or a turn was done");
        SeedBattle full = new SeedBattle();
        check.same("24", Maps.fill(full, 24), 24);
        refuse("the 25th", full, () -> full.addUnit(3, 's', Maps.freeLand(full)));
        SeedBattle late = Maps.plainGame();
        late.turn();
        refuse("behind one turn", late, () -> late.addUnit(0, 's', 17));
        while (late.done() < 99) {
            late.turn();
        }
        refuse("behind 99 turns", late, () -> late.addUnit(0, 's', 17));
    }

    private void order() {
        SeedBattle game = fresh();
        throwing(5, "IndexOutOfBoundsException", "there is no such unit");
        for (int unit : NO_UNITS) {
            refuse("order(" + unit + ", 0)", game, () -> game.order(unit, 0));
        }
        SeedBattle none = new SeedBattle();
        refuse("order(0, 0) without units", none, () -> none.order(0, 0));
        throwing(5, "IllegalArgumentException", "there is no such direction");
        for (int direction : new int[] {-1, 8, 9, -8, Integer.MIN_VALUE, Integer.MAX_VALUE}) {
            refuse("order(0, " + direction + ")", game, () -> game.order(0, direction));
        }
        throwing(5, "UnsupportedOperationException", "it is lost, or has as many orders as steps");
        refuse("a tower", game, () -> game.order(2, 0));
        check.same("an army's", game.order(1, 0), 1);
        refuse("an army with one", game, () -> game.order(1, 0));
        check.same("a scout's", game.order(0, 7), 1);
        check.same("its last", game.order(0, 0), 2);
        refuse("a scout with two", game, () -> game.order(0, 7));
        SeedBattle late = played();
        for (int direction = 0; direction < 8; direction++) {
            int way = direction;
            refuse("a lost one", late, () -> late.order(1, way));
        }
    }

    private void turn() {
        throwing(6, "IllegalStateException", "99 turns were done");
        SeedBattle game = fresh();
        for (int turn = 1; turn <= 99; turn++) {
            check.same("the turn " + turn, game.turn(), 0);
        }
        refuse("the turn 100", game, game::turn);
        check.same("an order", game.order(0, 3), 1);
        refuse("the turn 100 again", game, game::turn);
        check.same("the order was kept", game.order(0, 3), 2);
        check.same("the unit stays", game.cellOf(0), 17);
        check.same("no sighting of it", game.sighting(0, game.sightings(0) - 1, 't'), 99);
    }

    private void units() {
        SeedBattle game = played();
        throwing(8, "IndexOutOfBoundsException", "there is no such unit");
        for (int unit : NO_UNITS) {
            refuse("cellOf(" + unit + ")", game, () -> game.cellOf(unit));
        }
        SeedBattle full = new SeedBattle();
        Maps.fill(full, 24);
        refuse("cellOf(24)", full, () -> full.cellOf(24));
        throwing(16, "IndexOutOfBoundsException", "there is no such player or unit");
        for (int unit : NO_UNITS) {
            refuse("lastSeen(0, " + unit + ")", game, () -> game.lastSeen(0, unit));
        }
        for (int player : NO_PLAYERS) {
            refuse("lastSeen(" + player + ", 0)", game, () -> game.lastSeen(player, 0));
        }
        throwing(16, "NoSuchElementException", "there is none");
        refuse("one that was lost ahead of the first sighting", game, () -> game.lastSeen(0, 1));
        refuse("one's own", game, () -> game.lastSeen(0, 0));
        refuse("of a player without sightings", game, () -> game.lastSeen(3, 0));
        SeedBattle early = fresh();
        refuse("ahead of the first turn", early, () -> early.lastSeen(0, 1));
        throwing(25, "ArithmeticException", "there are none");
        SeedBattle none = new SeedBattle();
        refuse("livingShare()", none, none::livingShare);
        none.turn();
        refuse("livingShare() behind a turn", none, none::livingShare);
    }

    private void players() {
        SeedBattle game = played();
        throwing(11, "IndexOutOfBoundsException", "there is no such player");
        for (int player : NO_PLAYERS) {
            refuse("seen(" + player + ")", game, () -> game.seen(player));
        }
        throwing(13, "IndexOutOfBoundsException", "there is no such player");
        for (int player : NO_PLAYERS) {
            refuse("sightings(" + player + ")", game, () -> game.sightings(player));
        }
    }

    private void setTreaty() {
        SeedBattle game = fresh();
        throwing(12, "IndexOutOfBoundsException", "there is no such player");
        for (int player : NO_PLAYERS) {
            for (boolean is : new boolean[] {true, false}) {
                refuse("the first is " + player, game, () -> game.setTreaty(player, 0, is));
                refuse("the other one is " + player, game, () -> game.setTreaty(3, player, is));
                refuse("both are " + player, game, () -> game.setTreaty(player, player, is));
            }
        }
        throwing(12, "IllegalArgumentException", "both are the same");
        for (int at = 0; at < 4; at++) {
            int player = at;
            refuse("a treaty of " + player, game, () -> game.setTreaty(player, player, true));
            refuse("the end of one of " + player, game, () -> game.setTreaty(player, player, false));
        }
        for (int player = 0; player < 4; player++) {
            check.same("no treaty has come", game.setTreaty(player, (player + 1) % 4, false), false);
        }
    }

    private void sighting() {
        SeedBattle game = played();
        throwing(14, "IndexOutOfBoundsException", "there is no such player or index");
        for (int player : NO_PLAYERS) {
            refuse("sighting(" + player + ", 0, t)", game, () -> game.sighting(player, 0, 't'));
        }
        for (int index : new int[] {-1, 1, 59, 60, 61, Integer.MIN_VALUE, Integer.MAX_VALUE}) {
            refuse("sighting(0, " + index + ", t)", game, () -> game.sighting(0, index, 't'));
        }
        refuse("the first of an empty index", game, () -> game.sighting(3, 0, 'u'));
        SeedBattle early = fresh();
        refuse("the first ahead of the first turn", early, () -> early.sighting(0, 0, 'c'));
        throwing(14, "IllegalArgumentException", "there is no such thing");
        for (char what : NO_LETTERS) {
            refuse("sighting(0, 0, " + (int) what + ")", game, () -> game.sighting(0, 0, what));
        }
    }

    private void ages() {
        SeedBattle game = played();
        throwing(15, "IndexOutOfBoundsException", "there is no such player or cell");
        for (int player : NO_PLAYERS) {
            refuse("age(" + player + ", 20)", game, () -> game.age(player, 20));
        }
        for (int cell : NO_CELLS) {
            refuse("age(0, " + cell + ")", game, () -> game.age(0, cell));
        }
        throwing(15, "NoSuchElementException", "there is none");
        for (int cell = 0; cell < 64; cell++) {
            int at = cell;
            if (cell != 20) {
                refuse("age(0, " + cell + ")", game, () -> game.age(0, at));
            }
            refuse("of a player without sightings", game, () -> game.age(3, at));
        }
        throwing(26, "ArithmeticException", "there are none");
        SeedBattle early = fresh();
        refuse("ahead of the first turn", early, early::meanAge);
        early.save();
        early.turn();
        check.same("sightings of this turn", early.meanAge(), 0.0);
        for (int player = 0; player < 4; player++) {
            early.load(player);
        }
        refuse("of indexes that are empty again", early, early::meanAge);
        SeedBattle none = new SeedBattle();
        none.turn();
        refuse("without units", none, none::meanAge);
    }

    private void saves() {
        SeedBattle game = saved();
        String player = "there is no such player";
        for (int no : NO_PLAYERS) {
            throwing(18, "IndexOutOfBoundsException", player);
            refuse("blocks(" + no + ")", game, () -> game.blocks(no));
            throwing(19, "IndexOutOfBoundsException", player);
            refuse("breakBlock(" + no + ", 0)", game, () -> game.breakBlock(no, 0));
            throwing(20, "IndexOutOfBoundsException", player);
            refuse("savedAt(" + no + ", 0)", game, () -> game.savedAt(no, 0));
            throwing(21, "IndexOutOfBoundsException", player);
            refuse("repair(" + no + ")", game, () -> game.repair(no));
            throwing(22, "IndexOutOfBoundsException", player);
            refuse("load(" + no + ")", game, () -> game.load(no));
            throwing(23, "IndexOutOfBoundsException", player);
            refuse("allies(" + no + ")", game, () -> game.allies(no));
        }
    }

    private void blocks() {
        for (SeedBattle game : new SeedBattle[] {new SeedBattle(), played()}) {
            for (int at = 0; at < 4; at++) {
                int player = at;
                String no = "NoSuchElementException";
                throwing(18, no, "there is no save");
                refuse("blocks(" + player + ")", game, () -> game.blocks(player));
                throwing(19, no, "there is no save, or no such block");
                refuse("breakBlock(" + player + ", 0)", game, () -> game.breakBlock(player, 0));
                throwing(20, no, "there is no save, or no such number");
                refuse("savedAt(" + player + ", 0)", game, () -> game.savedAt(player, 0));
                throwing(21, no, "there is no save");
                refuse("repair(" + player + ")", game, () -> game.repair(player));
                throwing(22, no, "there is no save");
                refuse("load(" + player + ")", game, () -> game.load(player));
                throwing(23, no, "there is no save");
                refuse("allies(" + player + ")", game, () -> game.allies(player));
            }
        }
    }

    private void brokenBlocks() {
        SeedBattle game = saved();
        throwing(20, "UnsupportedOperationException", "its block is broken");
        game.breakBlock(0, 0);
        for (int index = 0; index < 4; index++) {
            int at = index;
            refuse("savedAt(0, " + at + ")", game, () -> game.savedAt(0, at));
        }
        check.same("of the next block", game.savedAt(0, 4), 126005);
        game.breakBlock(0, 1);
        refuse("savedAt(0, 4)", game, () -> game.savedAt(0, 4));
        throwing(22, "UnsupportedOperationException", "a block is broken");
        refuse("load(0) with both broken", game, () -> game.load(0));
        for (int block = 0; block < 2; block++) {
            game.save();
            game.breakBlock(0, block);
            refuse("load(0) with the broken one " + block, game, () -> game.load(0));
        }
        SeedBattle full = Maps.with(Maps.plainGame(), "0s17 1s18");
        while (full.done() < 60) {
            full.turn();
        }
        for (int block : new int[] {0, 7, 14}) {
            full.save();
            full.breakBlock(1, block);
            refuse("load(1) with one of 15 broken", full, () -> full.load(1));
        }
    }

    private void numbers() {
        SeedBattle game = saved();
        throwing(19, "NoSuchElementException", "there is no save, or no such block");
        for (int block : new int[] {-1, 2, 3, 14, 15, 31, 32, 33, Integer.MIN_VALUE, Integer.MAX_VALUE}) {
            refuse("breakBlock(0, " + block + ")", game, () -> game.breakBlock(0, block));
        }
        refuse("the first of an empty save", game, () -> game.breakBlock(3, 0));
        throwing(20, "NoSuchElementException", "there is no save, or no such number");
        for (int index : new int[] {-1, 5, 6, 7, 8, 59, 60, 61, Integer.MIN_VALUE, Integer.MAX_VALUE}) {
            refuse("savedAt(0, " + index + ")", game, () -> game.savedAt(0, index));
        }
        refuse("the first of an empty save", game, () -> game.savedAt(3, 0));
    }

    private void firstListedOfUnits() {
        check.sentence("Exceptions",
            "If several conditions of a method apply, the exception that is listed first is thrown.");
        SeedBattle late = played();
        SeedBattle full = new SeedBattle();
        Maps.fill(full, 24);
        SeedBattle wet = Maps.game("0=x 1=l");
        wet.turn();
        check.noIndex("player and kind", late, () -> late.addUnit(4, 'q', 19));
        check.noIndex("player, and a unit is there", late, () -> late.addUnit(-1, 's', 20));
        check.noIndex("player, and water", wet, () -> wet.addUnit(4, 's', 0));
        check.noIndex("player, and a turn was done", late, () -> late.addUnit(4, 's', 19));
        check.noIndex("cell and kind", late, () -> late.addUnit(0, 'q', 64));
        check.noIndex("cell, and a turn was done", late, () -> late.addUnit(0, 's', -1));
        check.noIndex("cell, and there are 24", full, () -> full.addUnit(0, 's', 64));
        check.noArgument("kind, and a unit is there", late, () -> late.addUnit(0, 'q', 20));
        check.noArgument("kind, and water", wet, () -> wet.addUnit(0, 'q', 0));
        check.noArgument("kind, and a turn was done", late, () -> late.addUnit(0, 'q', 19));
        check.noArgument("kind, and there are 24", full, () -> full.addUnit(0, 'q', Maps.freeLand(full)));
        check.unsupported("water, and a turn was done", wet, () -> wet.addUnit(0, 's', 0));
        check.unsupported("a unit is there, and a turn was done", late, () -> late.addUnit(0, 's', 20));
        check.unsupported("a unit is there, and there are 24", full, () -> full.addUnit(0, 's', full.cellOf(0)));
        full.turn();
        check.noState("24, and a turn was done", full, () -> full.addUnit(0, 's', Maps.freeLand(full)));
        check.noIndex("unit and direction", late, () -> late.order(3, 8));
        check.noArgument("direction, and it is lost", late, () -> late.order(1, 8));
        check.noArgument("direction, and it has no steps", late, () -> late.order(2, -1));
        late.order(0, 0);
        check.noArgument("direction, and it has as many as steps", late, () -> late.order(0, 8));
        check.noIndex("no such player, twice the same", late, () -> late.setTreaty(4, 4, true));
    }

    private void firstListedOfSaves() {
        SeedBattle late = played();
        check.sentence("Exceptions", "the exception that is listed first is thrown");
        check.noIndex("player and thing", late, () -> late.sighting(4, 0, 'q'));
        check.noIndex("index and thing", late, () -> late.sighting(0, 1, 'q'));
        check.noIndex("index and thing, without sightings", late, () -> late.sighting(3, 0, 'q'));
        check.noIndex("player, and no sighting on the cell", late, () -> late.age(4, 0));
        check.noIndex("cell, and no sightings", late, () -> late.age(3, 64));
        check.noIndex("player, and no sighting of the unit", late, () -> late.lastSeen(4, 1));
        check.noIndex("unit, and no sightings", late, () -> late.lastSeen(3, 3));
        check.noIndex("blocks: player and save", late, () -> late.blocks(4));
        check.noIndex("breakBlock: player and save", late, () -> late.breakBlock(-1, -1));
        check.noIndex("savedAt: player and save", late, () -> late.savedAt(4, -1));
        check.noIndex("repair: player and save", late, () -> late.repair(4));
        check.noIndex("load: player and save", late, () -> late.load(4));
        check.noIndex("allies: player and save", late, () -> late.allies(-1));
        SeedBattle game = saved();
        game.breakBlock(0, 1);
        check.noIndex("player and block", game, () -> game.breakBlock(4, 2));
        check.noIndex("player and number", game, () -> game.savedAt(4, 60));
        check.noElement("no such number in a broken block", game, () -> game.savedAt(0, 5));
    }

    /** Two games with the same calls, one with refused ones among them: what is to come is the same. */
    private void nothingChanges() {
        check.sentence("Exceptions", "A method that throws an exception changes nothing.");
        SeedBattle plain = Maps.plainGame();
        SeedBattle tried = Maps.plainGame();
        refuseAll(tried);
        for (SeedBattle game : new SeedBattle[] {plain, tried}) {
            Maps.with(game, "0s17 1s18 2a20 3t28 0a27");
            game.setTreaty(0, 1, true);
            game.order(0, 3);
        }
        for (int turn = 0; turn < 6; turn++) {
            refuseAll(tried);
            check.same("the lost", go(tried, turn), go(plain, turn));
            refuseAll(tried);
            check.same("the game behind the turn " + plain.done(), State.of(tried), State.of(plain));
            check.same("a treaty", tried.setTreaty(0, 1, true), plain.setTreaty(0, 1, true));
            check.same("no treaty", tried.setTreaty(2, 3, false), plain.setTreaty(2, 3, false));
            check.same("repair", tried.repair(0), plain.repair(0));
        }
    }

    private static int go(SeedBattle game, int direction) {
        game.order(4, direction);
        game.save();
        Check.answer(() -> game.breakBlock(0, 0));
        return game.turn();
    }

    private void refuseAll(SeedBattle game) {
        Check.Call[] calls = {
            () -> game.addUnit(4, 's', 19), () -> game.addUnit(0, 's', 64), () -> game.addUnit(0, 'q', 19),
            () -> game.order(24, 0), () -> game.order(0, 8), () -> game.order(3, 0),
            () -> game.setTreaty(0, 4, false), () -> game.setTreaty(-1, 1, false), () -> game.setTreaty(2, 2, true),
            () -> game.breakBlock(4, 0), () -> game.breakBlock(1, 15), () -> game.breakBlock(1, -1),
            () -> game.repair(4), () -> game.load(4), () -> game.load(-1), () -> game.ground(64),
        };
        for (Check.Call call : calls) {
            check.same("a refused call", String.valueOf(Check.answer(call)).startsWith("throws."), true);
        }
    }
}
