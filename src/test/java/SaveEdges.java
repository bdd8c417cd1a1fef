/** Edges of saves: promises 17 to 23. */
final class SaveEdges {
    private static final String BROKEN = "throws.UnsupportedOperationException";
    /** The player 0 sights seven units in each turn, each of the others sees all, too. */
    private static final String CROWD = "0s17 1s18 1s19 1s20 2s25 2s26 3s27 3s28";

    private final Check check;

    SaveEdges(Check check) {
        this.check = check;
    }

    void run() {
        allIndexesAtOnce();
        rowsOfNumbers();
        blocksOfFour();
        alliesOfThen();
        parities();
        shortAndLong();
        breaking();
        ifThereIsAnAlly();
        endedTreaties();
        treatiesThatDoNotEnd();
        brokenBlocksOfAllies();
        noMoreThanTheIndex();
        inPlaceOfTheSaveBefore();
        numbersInAllSaves();
        numbersAt();
        repairs();
        loads();
        loadedInPlace();
    }

    private static SeedBattle with(String units) {
        return Maps.with(Maps.plainGame(), units);
    }

    private static void turns(SeedBattle game, int many) {
        for (int turn = 0; turn < many; turn++) {
            game.turn();
        }
    }

    /** The crowd behind one turn, saved with treaties written as two players, apart by spaces. */
    private static SeedBattle saved(String treaties) {
        SeedBattle game = with(CROWD);
        for (String pair : treaties.split(" ")) {
            if (!pair.isEmpty()) {
                game.setTreaty(pair.charAt(0) - '0', pair.charAt(1) - '0', true);
            }
        }
        game.turn();
        game.save();
        return game;
    }

    private void numbers(String what, SeedBattle game, int player, int size, String due) {
        check.same(what, State.numbers(game, player, size), due);
    }

    private void allIndexesAtOnce() {
        check.sentence("Saves", "Saving saves all indexes at once, each as a row of numbers, in the order of turns, then of units");
        SeedBattle game = with("2s17 1s20 0a28");
        turns(game, 2);
        game.save();
        numbers("the player 0", game, 0, 2, "120001 220001");
        numbers("the player 1", game, 1, 4, "117000 128002 217000 228002");
        numbers("the player 2", game, 2, 4, "120001 128002 220001 228002");
        check.same("the player 3", game.blocks(3), 0);
        game.turn();
        check.same("not what came behind it", Check.answer(() -> game.savedAt(1, 4)), "throws.NoSuchElementException");
    }

    private void rowsOfNumbers() {
        check.sentence("Saves", "100000 times the turn, plus 1000 times the cell, plus the unit.");
        SeedBattle game = Corners.game();
        game.turn();
        game.save();
        numbers("the least ones, and the first turn", game, 0, 2, "100000 163023");
        turns(game, 98);
        game.save();
        check.same("the greatest one", game.savedAt(0, 59), 9963023);
        check.same("the least one of the last turn", game.savedAt(0, 58), 9900000);
        game.load(0);
        check.same("loaded", State.index(game, 0).endsWith(" 99/0/0 99/63/23"), true);
    }

    private void blocksOfFour() {
        check.sentence("Saves", "A save has blocks of 4 numbers, the last one perhaps with fewer.");
        SeedBattle game = with("0s17 1s18");
        for (int turn = 0; turn <= 62; turn++) {
            game.save();
            int size = Math.min(turn, 60);
            check.same("blocks of " + size, game.blocks(0), (size + 3) / 4);
            if (turn == 4 || turn == 5 || turn == 60) {
                int last = (size + 3) / 4 - 1;
                check.noElement("the block behind", game, () -> game.breakBlock(0, last + 1));
                check.same("the last block", game.breakBlock(0, last), true);
                check.same("its first number", Check.answer(() -> game.savedAt(0, 4 * last)), BROKEN);
                check.same("its last number", Check.answer(() -> game.savedAt(0, size - 1)), BROKEN);
                check.noElement("the number behind", game, () -> game.savedAt(0, size));
                check.same("the block ahead of it is whole", last == 0 || game.savedAt(0, 4 * last - 1) > 0, true);
            }
            game.turn();
        }
    }

    private void alliesOfThen() {
        check.sentence("Saves", "The allies of a player in a save are those with whom it had a treaty then.");
        SeedBattle game = with(CROWD);
        game.setTreaty(0, 1, true);
        game.setTreaty(0, 3, true);
        game.setTreaty(0, 3, false);
        game.save();
        game.setTreaty(0, 2, true);
        check.same("one", game.allies(0), 1);
        check.same("for the other one", game.allies(1), 1);
        check.same("not those since then", game.allies(2), 0);
        check.same("not those that had ended", game.allies(3), 0);
        game.setTreaty(0, 3, true);
        game.save();
        check.same("three, at most", game.allies(0), 3);
        check.sentence("Promise 23", "Returns the number of allies.");
        check.same("none", saved("").allies(0), 0);
        check.same("all", saved("01 02 03").allies(0), 3);
        check.sentence("Promise 23", "Returns how many allies a player has in the save, ended treaties included.");
        game.setTreaty(0, 1, false);
        game.setTreaty(0, 3, false);
        check.same("ended ones included", game.allies(0), 3);
        check.same("on the other side, too", game.allies(1), 1);
        game.save();
        check.same("not in a new save", game.allies(0), 1);
    }

    private void parities() {
        check.sentence("Saves", "of this block of the player's own save and of those of all its allies, "
            + "exclusively or, place by place");
        everyBlockComesBack();
        check.sentence("Saves", "For each block of each save there is a parity, kept by the allies");
        SeedBattle game = saved("01");
        game.breakBlock(0, 1);
        check.same("the parity outlives the block", game.repair(0), 1);
        game.breakBlock(1, 1);
        check.same("each save has its own", game.repair(1), 1);
        game.breakBlock(0, 0);
        check.same("and each block", game.repair(0), 1);
    }

    /** Every block of every save comes back from its parity, with one, two and three allies. */
    private void everyBlockComesBack() {
        for (String treaties : new String[] {"01", "01 02", "01 02 03", "01 12 23 30", "01 02 03 12 13 23"}) {
            SeedBattle game = saved(treaties);
            for (int player = 0; player < 4; player++) {
                if (game.allies(player) == 0) {
                    continue;
                }
                String before = State.numbers(game, player, 8);
                for (int block = 0; block < 2; block++) {
                    check.same("a whole block", game.breakBlock(player, block), true);
                    check.same("repair", game.repair(player), 1);
                    numbers("the numbers with " + treaties, game, player, 8, before);
                }
            }
        }
    }

    private void shortAndLong() {
        check.sentence("Saves", "0 for those that are missing");
        SeedBattle game = with("0s17 1t18 1t19 1t20 1t25 1t26 1t27 1t28");
        game.setTreaty(0, 1, true);
        game.turn();
        game.save();
        game.breakBlock(1, 0);
        check.same("one number by an ally's block of four", game.repair(1), 1);
        numbers("it, and no more", game, 1, 2, "117000 throws.NoSuchElementException");
        game.breakBlock(0, 0);
        check.same("four numbers by an ally's one", game.repair(0), 1);
        numbers("the four", game, 0, 4, "118001 119002 120003 125004");
        check.sentence("Saves", "blocks that they do not have count as zeros");
        game.breakBlock(0, 1);
        check.same("a block that the ally does not have", game.repair(0), 1);
        numbers("its numbers", game, 0, 7, "118001 119002 120003 125004 126005 127006 128007");
        SeedBattle alone = Maps.with(Maps.plainGame(), "0s17 1s20");
        alone.turn();
        alone.setTreaty(0, 3, true);
        alone.save();
        check.same("an ally without blocks", alone.blocks(3), 0);
        alone.breakBlock(0, 0);
        check.same("all by the parity", alone.repair(0), 1);
        numbers("the number", alone, 0, 1, "120001");
    }

    private void breaking() {
        check.sentence("Saves", "A block can break.");
        SeedBattle game = saved("");
        game.breakBlock(0, 1);
        numbers("the last one alone", game, 0, 8, "118001 119002 120003 125004 " + BROKEN + " " + BROKEN + " "
            + BROKEN + " throws.NoSuchElementException");
        numbers("the same one of another is whole", game, 1, 5, "117000 125004 126005 127006 128007");
        check.same("the index is as it was", game.sightings(0), 7);
        check.sentence("Promise 19", "Returns whether it was whole.");
        check.same("the first", game.breakBlock(0, 0), true);
        check.same("the first again", game.breakBlock(0, 0), false);
        check.same("the last again", game.breakBlock(0, 1), false);
        check.same("another's", game.breakBlock(3, 1), true);
        SeedBattle allied = saved("01");
        allied.breakBlock(0, 1);
        allied.repair(0);
        check.same("one that was rebuilt", allied.breakBlock(0, 1), true);
        check.same("and was not", allied.breakBlock(0, 1), false);
    }

    private void ifThereIsAnAlly() {
        check.sentence("Saves", "It can be rebuilt from the parity and the blocks of the allies, if there is an ally");
        SeedBattle game = saved("12");
        for (int player = 0; player < 4; player++) {
            game.breakBlock(player, 1);
            boolean has = player == 1 || player == 2;
            check.same("repair of " + player, game.repair(player), has ? 1 : 0);
        }
        check.same("one without an ally stays broken", Check.answer(() -> game.savedAt(0, 4)), BROKEN);
        check.same("one with an ally is whole", game.savedAt(1, 4), 128007);
        SeedBattle late = saved("");
        late.breakBlock(0, 0);
        late.setTreaty(0, 1, true);
        check.same("an ally since the save", late.repair(0), 0);
    }

    private void endedTreaties() {
        check.sentence("Saves", "no treaty with one of them has ended since the save, made again or not");
        SeedBattle game = saved("01 02");
        game.breakBlock(0, 0);
        game.breakBlock(0, 1);
        game.setTreaty(0, 1, false);
        check.same("one of two ended", game.repair(0), 0);
        game.setTreaty(0, 1, true);
        check.same("made again", game.repair(0), 0);
        game.breakBlock(1, 1);
        check.same("ended for the other one, too", game.repair(1), 0);
        game.breakBlock(2, 1);
        check.same("the block of an ally that can't be rebuilt", game.repair(2), 0);
        game.save();
        game.breakBlock(0, 1);
        check.same("made again ahead of a new save", game.repair(0), 1);
        for (int one = 1; one < 4; one++) {
            for (boolean own : new boolean[] {true, false}) {
                SeedBattle three = saved("01 02 03");
                three.breakBlock(0, 0);
                three.setTreaty(own ? 0 : one, own ? one : 0, false);
                check.same("any one of three, ended by either", three.repair(0), 0);
            }
        }
    }

    private void treatiesThatDoNotEnd() {
        check.sentence("Saves", "no treaty with one of them has ended since the save");
        SeedBattle game = with(CROWD);
        game.setTreaty(0, 1, true);
        game.setTreaty(0, 1, false);
        game.setTreaty(0, 1, true);
        game.turn();
        game.save();
        game.breakBlock(0, 0);
        check.same("ended ahead of the save", game.repair(0), 1);
        game.setTreaty(0, 1, true);
        game.breakBlock(0, 0);
        check.same("made though it was there", game.repair(0), 1);
        game.setTreaty(0, 2, false);
        game.breakBlock(0, 0);
        check.same("the end of none", game.repair(0), 1);
        game.setTreaty(0, 2, true);
        game.setTreaty(0, 2, false);
        game.breakBlock(0, 0);
        check.same("the end of one with no ally", game.repair(0), 1);
        game.setTreaty(2, 3, true);
        game.setTreaty(2, 3, false);
        game.breakBlock(0, 0);
        check.same("one between others", game.repair(0), 1);
        game.turn();
        game.breakBlock(0, 0);
        check.same("behind a turn", game.repair(0), 1);
        SeedBattle three = saved("01 02 12");
        three.setTreaty(1, 2, false);
        three.breakBlock(0, 0);
        check.same("one between two allies", three.repair(0), 1);
    }

    private void brokenBlocksOfAllies() {
        check.sentence("Saves", "and this block of none of them is broken");
        for (int ally = 1; ally < 4; ally++) {
            SeedBattle game = saved("01 02 03");
            game.breakBlock(0, 0);
            game.breakBlock(0, 1);
            game.breakBlock(ally, 0);
            check.same("the same block of the ally " + ally, game.repair(0), 1);
            check.same("the other one", game.savedAt(0, 4), 126005);
            check.same("the ally", game.repair(ally), 0);
        }
        SeedBattle game = saved("01 12");
        game.breakBlock(0, 0);
        game.breakBlock(1, 0);
        game.breakBlock(3, 0);
        check.same("while it is broken", game.repair(0), 0);
        check.same("nor the ally's", game.repair(1), 0);
        game.save();
        game.breakBlock(1, 0);
        game.breakBlock(3, 0);
        check.same("one that is no ally does not count", game.repair(1), 1);
        game.breakBlock(0, 0);
        check.same("behind the rebuilding of the ally's", game.repair(0), 1);
    }

    private void noMoreThanTheIndex() {
        check.sentence("Terms", "no repaired save tells its owner what its index could not");
        SeedBattle game = saved("02");
        String before = State.numbers(game, 0, 7);
        turns(game, 3);
        game.breakBlock(0, 0);
        game.breakBlock(0, 1);
        check.same("repair", game.repair(0), 2);
        numbers("what it was", game, 0, 7, before);
        check.same("and no more", Check.answer(() -> game.savedAt(0, 7)), "throws.NoSuchElementException");
        game.load(0);
        game.turn();
        check.same("isSound", game.isSound(), true);
    }

    private void inPlaceOfTheSaveBefore() {
        check.sentence("Promise 17", "Saves all indexes, in place of the save before.");
        SeedBattle game = saved("01");
        game.breakBlock(0, 1);
        game.setTreaty(0, 1, false);
        turns(game, 1);
        game.setTreaty(0, 2, true);
        game.save();
        check.same("more blocks", game.blocks(0), 4);
        check.same("all are whole", game.breakBlock(0, 1), true);
        check.same("other allies", game.repair(0), 1);
        check.same("the number behind the old ones", game.savedAt(0, 7), 218001);
        game.save();
        check.same("saved twice", game.savedAt(0, 13), 228007);
        SeedBattle empty = with(CROWD);
        empty.save();
        empty.turn();
        check.same("an empty one", empty.blocks(0), 0);
        empty.save();
        check.same("and another one", empty.blocks(0), 2);
    }

    private void numbersInAllSaves() {
        check.sentence("Promise 17", "Returns the number of numbers in all saves.");
        SeedBattle game = with(CROWD);
        check.same("none", game.save(), 0);
        game.turn();
        check.same("of one turn", game.save(), 7 + 5 + 6 + 6);
        turns(game, 98);
        check.same("at most 240", game.save(), 240);
        check.same("without units", new SeedBattle().save(), 0);
        check.sentence("Promise 18", "Returns the number of blocks.");
        check.same("at most 15", game.blocks(0), 15);
        check.same("of each", game.blocks(3), 15);
        game.breakBlock(0, 14);
        check.same("broken ones, too", game.blocks(0), 15);
        SeedBattle none = new SeedBattle();
        none.save();
        check.same("none", none.blocks(0), 0);
    }

    private void numbersAt() {
        check.sentence("Promise 20", "Returns the number.");
        SeedBattle game = saved("");
        check.same("the first", game.savedAt(0, 0), 118001);
        check.same("the last of the first block", game.savedAt(0, 3), 125004);
        check.same("the first of the last block", game.savedAt(0, 4), 126005);
        check.same("the last", game.savedAt(0, 6), 128007);
        game.breakBlock(0, 0);
        check.same("beside a broken block", game.savedAt(0, 4), 126005);
        check.same("of another", game.savedAt(1, 0), 117000);
    }

    private void repairs() {
        check.sentence("Promise 21", "Returns how many were rebuilt.");
        SeedBattle game = with(CROWD);
        game.setTreaty(0, 1, true);
        turns(game, 99);
        game.save();
        check.same("none is broken", game.repair(0), 0);
        for (int block = 0; block < 15; block++) {
            game.breakBlock(0, block);
        }
        check.same("all 15", game.repair(0), 15);
        check.same("none is left", game.repair(0), 0);
        check.same("the last number", game.savedAt(0, 59), 9928007);
        game.breakBlock(0, 0);
        game.breakBlock(0, 14);
        game.breakBlock(1, 14);
        check.same("one that can be, one that can't", game.repair(0), 1);
        SeedBattle empty = new SeedBattle();
        empty.save();
        check.same("an empty save", empty.repair(3), 0);
    }

    private void loads() {
        check.sentence("Promise 22", "Returns the number of sightings.");
        SeedBattle game = saved("01");
        check.same("seven", game.load(0), 7);
        game.breakBlock(0, 1);
        check.unsupported("a broken one", game, () -> game.load(0));
        check.same("a broken block of another does not count", game.load(1), 5);
        game.repair(0);
        check.same("one that was rebuilt", game.load(0), 7);
        SeedBattle full = with(CROWD);
        turns(full, 99);
        full.save();
        check.same("sixty", full.load(0), 60);
        SeedBattle empty = with(CROWD);
        empty.save();
        turns(empty, 2);
        check.same("none", empty.load(0), 0);
        check.same("none is left", empty.sightings(0), 0);
        check.noElement("nor a last place", empty, () -> empty.lastSeen(0, 1));
    }

    private void loadedInPlace() {
        check.sentence("Promise 22", "Makes the save of a player its index, in place of what it has.");
        SeedBattle game = saved("01");
        String before = State.index(game, 0);
        turns(game, 10);
        check.same("sixty ahead of it", game.sightings(0), 60);
        game.load(0);
        check.same("what was saved", State.index(game, 0), before);
        check.same("the other's index stays", game.sightings(1), 55);
        check.same("turns stay", game.done(), 11);
        check.same("ages go on", game.age(0, 18), 10);
        check.same("treaties stay", game.setTreaty(0, 1, true), true);
        numbers("the save stays", game, 0, 2, "118001 119002");
        game.turn();
        check.same("the next turn is added", State.index(game, 0).substring(before.length(), before.length() + 8), " 12/18/1");
    }
}
