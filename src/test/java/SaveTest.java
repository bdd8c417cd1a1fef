/** Promises 17 to 23: save, blocks, breakBlock, savedAt, repair, load, allies. */
public final class SaveTest {
    private static final Check CHECK = new Check("SaveTest");
    /** The player 0 sights seven units in each turn, each of the others sees all, too. */
    private static final String CROWD = "0s17 1s18 1s19 1s20 2s25 2s26 3s27 3s28";

    public static void main(String[] args) {
        numbersOfSaves();
        blocksOfSaves();
        noSave();
        noPlayer();
        emptySave();
        breaking();
        brokenBlocksWithoutAllies();
        rebuilding();
        blocksThatAlliesDoNotHave();
        brokenBlocksOfAllies();
        treatiesThatEnded();
        treatiesOfOthers();
        treatiesSinceTheSave();
        savesStay();
        loading();
        loadingWithBrokenBlocks();
        sixtyNumbers();
        CHECK.end();
    }

    private static SeedBattle with(String units) {
        return Maps.with(Maps.plainGame(), units);
    }

    private static void numbersOfSaves() {
        SeedBattle game = with("0s17 1s20 1a28");
        game.turn();
        game.order(1, 6);
        game.turn();
        CHECK.same("save", game.save(), game.sightings(0) + game.sightings(1));
        CHECK.same("sightings", game.sightings(0), 4);
        CHECK.same("by turns, then units", State.numbers(game, 0, 4), "120001 128002 219001 228002");
        CHECK.same("blocks of four", game.blocks(0), 1);
        CHECK.same("blocks of none", game.blocks(3), 0);
        CHECK.noElement("the number behind the last", game, () -> game.savedAt(0, 4));
    }

    private static void blocksOfSaves() {
        SeedBattle game = with(CROWD);
        game.turn();
        CHECK.same("save of the crowd", game.save(), 7 + 5 + 6 + 6);
        CHECK.same("blocks of seven", game.blocks(0), 2);
        CHECK.same("blocks of five", game.blocks(1), 2);
        CHECK.same("the seven", State.numbers(game, 0, 7), "118001 119002 120003 125004 126005 127006 128007");
        CHECK.same("the five", State.numbers(game, 1, 5), "117000 125004 126005 127006 128007");
    }

    private static void noSave() {
        SeedBattle game = with(CROWD);
        game.turn();
        CHECK.noElement("blocks", game, () -> game.blocks(0));
        CHECK.noElement("breakBlock", game, () -> game.breakBlock(0, 0));
        CHECK.noElement("savedAt", game, () -> game.savedAt(0, 0));
        CHECK.noElement("repair", game, () -> game.repair(0));
        CHECK.noElement("load", game, () -> game.load(0));
        CHECK.noElement("allies", game, () -> game.allies(0));
        refusedPlayers(game);
    }

    private static void noPlayer() {
        SeedBattle game = with(CROWD);
        game.turn();
        game.save();
        refusedPlayers(game);
        for (int block : new int[] {-1, 2, 15, 32, Integer.MIN_VALUE, Integer.MAX_VALUE}) {
            CHECK.noElement("breakBlock " + block, game, () -> game.breakBlock(0, block));
        }
        for (int place : new int[] {-1, 7, 8, 60, Integer.MIN_VALUE, Integer.MAX_VALUE}) {
            CHECK.noElement("savedAt " + place, game, () -> game.savedAt(0, place));
        }
        game.breakBlock(0, 1);
        CHECK.noElement("no such number before broken", game, () -> game.savedAt(0, 7));
    }

    private static void refusedPlayers(SeedBattle game) {
        for (int player : new int[] {-1, 4, Integer.MIN_VALUE, Integer.MAX_VALUE}) {
            CHECK.noIndex("blocks", game, () -> game.blocks(player));
            CHECK.noIndex("breakBlock", game, () -> game.breakBlock(player, 0));
            CHECK.noIndex("savedAt", game, () -> game.savedAt(player, 0));
            CHECK.noIndex("repair", game, () -> game.repair(player));
            CHECK.noIndex("load", game, () -> game.load(player));
            CHECK.noIndex("allies", game, () -> game.allies(player));
        }
    }

    private static void emptySave() {
        SeedBattle game = new SeedBattle();
        CHECK.same("save", game.save(), 0);
        CHECK.same("blocks", game.blocks(0), 0);
        CHECK.same("allies", game.allies(0), 0);
        CHECK.same("repair", game.repair(0), 0);
        CHECK.same("load", game.load(0), 0);
        CHECK.noElement("breakBlock", game, () -> game.breakBlock(0, 0));
        CHECK.noElement("savedAt", game, () -> game.savedAt(0, 0));
    }

    private static void breaking() {
        SeedBattle game = with(CROWD);
        game.turn();
        game.save();
        CHECK.same("it was whole", game.breakBlock(0, 1), true);
        CHECK.same("it was not", game.breakBlock(0, 1), false);
        String out = "throws.UnsupportedOperationException";
        CHECK.same("the first block is whole", State.numbers(game, 0, 7),
            "118001 119002 120003 125004 " + out + " " + out + " " + out);
        CHECK.unsupported("savedAt", game, () -> game.savedAt(0, 4));
        CHECK.same("others are whole", State.numbers(game, 1, 5), "117000 125004 126005 127006 128007");
        CHECK.same("the number of blocks", game.blocks(0), 2);
        CHECK.same("the index", game.sightings(0), 7);
        CHECK.same("isSound", game.isSound(), true);
        CHECK.same("the other one was whole", game.breakBlock(0, 0), true);
        game.save();
        CHECK.same("a new save is whole", game.breakBlock(0, 1), true);
    }

    private static void brokenBlocksWithoutAllies() {
        SeedBattle game = with(CROWD);
        game.turn();
        game.save();
        game.breakBlock(0, 0);
        CHECK.same("allies", game.allies(0), 0);
        CHECK.same("repair", game.repair(0), 0);
        CHECK.unsupported("savedAt", game, () -> game.savedAt(0, 0));
        CHECK.unsupported("load", game, () -> game.load(0));
    }

    private static void rebuilding() {
        SeedBattle game = with(CROWD);
        game.setTreaty(0, 1, true);
        game.setTreaty(0, 3, true);
        game.turn();
        game.turn();
        game.save();
        int[] allies = {2, 1, 0, 1};
        for (int player = 0; player < 4; player++) {
            int size = game.sightings(player);
            String before = State.numbers(game, player, size);
            CHECK.same("allies", game.allies(player), allies[player]);
            CHECK.same("nothing to repair", game.repair(player), 0);
            for (int block = 0; block < game.blocks(player); block++) {
                game.breakBlock(player, block);
            }
            int due = allies[player] > 0 ? game.blocks(player) : 0;
            CHECK.same("repair of " + player, game.repair(player), due);
            if (due > 0) {
                CHECK.same("what was rebuilt", State.numbers(game, player, size), before);
                CHECK.same("it is whole", game.breakBlock(player, 0), true);
                CHECK.same("repair of one", game.repair(player), 1);
            }
            CHECK.same("isSound", game.isSound(), true);
        }
    }

    private static void blocksThatAlliesDoNotHave() {
        SeedBattle game = with("0s17 1t18 1t19 1t20 1t25 1t26 1t27 1t28");
        game.setTreaty(0, 1, true);
        game.turn();
        CHECK.same("save", game.save(), 8);
        CHECK.same("blocks of the ally", game.blocks(1), 1);
        game.breakBlock(0, 0);
        game.breakBlock(0, 1);
        CHECK.same("repair", game.repair(0), 2);
        CHECK.same("the numbers", State.numbers(game, 0, 7), "118001 119002 120003 125004 126005 127006 128007");
        game.breakBlock(1, 0);
        CHECK.same("the short one", game.repair(1), 1);
        CHECK.same("its number", State.numbers(game, 1, 1), "117000");
    }

    private static void brokenBlocksOfAllies() {
        SeedBattle game = with(CROWD);
        game.setTreaty(0, 1, true);
        game.setTreaty(0, 2, true);
        game.turn();
        game.save();
        game.breakBlock(0, 0);
        game.breakBlock(0, 1);
        game.breakBlock(1, 0);
        game.breakBlock(3, 1);
        CHECK.same("the block that the ally has whole", game.repair(0), 1);
        CHECK.unsupported("the other one", game, () -> game.savedAt(0, 3));
        CHECK.same("it is whole", game.savedAt(0, 4), 126005);
        CHECK.unsupported("load", game, () -> game.load(0));
        CHECK.same("the ally of the broken one", game.repair(1), 0);
        game.save();
        game.breakBlock(2, 0);
        game.breakBlock(1, 0);
        CHECK.same("allies of one are not allies", game.repair(1), 1);
        CHECK.same("then the other one", game.repair(2), 1);
        game.breakBlock(0, 0);
        CHECK.same("then the first", game.repair(0), 1);
        CHECK.same("load", game.load(0), 7);
    }

    private static void treatiesThatEnded() {
        SeedBattle game = with(CROWD);
        game.setTreaty(0, 1, true);
        game.setTreaty(0, 2, true);
        game.turn();
        game.save();
        game.breakBlock(0, 0);
        game.breakBlock(1, 0);
        game.setTreaty(2, 0, false);
        CHECK.same("allies, ended ones included", game.allies(0), 2);
        CHECK.same("a treaty with one ended", game.repair(0), 0);
        game.setTreaty(0, 2, true);
        CHECK.same("made again", game.repair(0), 0);
        CHECK.same("the broken block of an ally", game.repair(1), 0);
        game.save();
        game.breakBlock(0, 0);
        CHECK.same("behind a new save", game.repair(0), 1);
        game.setTreaty(0, 2, false);
        game.breakBlock(1, 1);
        CHECK.same("the other ally has no ended one", game.repair(1), 1);
        game.breakBlock(2, 1);
        CHECK.same("the one of the ended treaty", game.repair(2), 0);
        game.save();
        game.setTreaty(1, 0, false);
        game.breakBlock(0, 0);
        CHECK.same("ended by the other one", game.repair(0), 0);
        game.breakBlock(1, 0);
        CHECK.same("for the one that ended it", game.repair(1), 0);
        game.setTreaty(1, 2, true);
        game.save();
        game.setTreaty(1, 2, false);
        game.breakBlock(2, 0);
        CHECK.same("for the one with whom it ended", game.repair(2), 0);
        CHECK.same("its allies", game.allies(2), 1);
    }

    private static void treatiesOfOthers() {
        SeedBattle game = with(CROWD);
        game.setTreaty(0, 1, true);
        game.setTreaty(0, 2, true);
        game.setTreaty(1, 2, true);
        game.setTreaty(2, 3, true);
        game.turn();
        game.save();
        game.breakBlock(0, 0);
        game.setTreaty(1, 2, false);
        game.setTreaty(2, 3, false);
        CHECK.same("treaties between others may end", game.repair(0), 1);
        game.breakBlock(3, 0);
        CHECK.same("not those of one's own", game.repair(3), 0);
    }

    private static void treatiesSinceTheSave() {
        SeedBattle game = with(CROWD);
        game.turn();
        game.setTreaty(0, 1, true);
        game.save();
        game.breakBlock(0, 0);
        game.breakBlock(2, 0);
        game.setTreaty(0, 2, true);
        CHECK.same("an ally since then is none", game.repair(2), 0);
        CHECK.same("allies", game.allies(2), 0);
        game.setTreaty(0, 2, false);
        game.setTreaty(0, 3, false);
        game.setTreaty(0, 1, true);
        CHECK.same("its end does not count", game.repair(0), 1);
    }

    private static void savesStay() {
        SeedBattle game = with(CROWD);
        game.turn();
        game.save();
        game.turn();
        game.setTreaty(0, 1, true);
        CHECK.same("the save of then", game.blocks(0), 2);
        CHECK.same("its numbers", State.numbers(game, 0, 7), "118001 119002 120003 125004 126005 127006 128007");
        CHECK.same("its allies", game.allies(0), 0);
        CHECK.same("save anew", game.save(), 2 * 24);
        CHECK.same("the save of now", game.blocks(0), 4);
        CHECK.same("its allies", game.allies(0), 1);
        CHECK.same("its last number", game.savedAt(0, 13), 228007);
    }

    private static void loading() {
        SeedBattle game = with("0s17 1s20 1a28");
        game.turn();
        game.save();
        game.order(1, 6);
        game.turn();
        game.turn();
        CHECK.same("ahead of it", game.sightings(0), 6);
        CHECK.same("load", game.load(0), 2);
        CHECK.same("sightings", game.sightings(0), 2);
        CHECK.same("age", game.age(0, 20), 2);
        CHECK.same("lastSeen", game.lastSeen(0, 1), 20);
        CHECK.noElement("what is forgotten", game, () -> game.age(0, 19));
        CHECK.same("the other keeps its index", game.sightings(1), 3);
        CHECK.same("where units are", game.cellOf(1), 19);
        CHECK.same("done", game.done(), 3);
        game.turn();
        CHECK.same("goes on", game.sightings(0), 4);
        CHECK.same("behind the old ones", game.sighting(0, 2, 't'), 4);
        CHECK.same("the save stays", State.numbers(game, 0, 2), "120001 128002");
        CHECK.same("load again", game.load(0), 2);
        CHECK.same("load of the empty", game.load(3), 0);
        CHECK.same("isSound", game.isSound(), true);
    }

    private static void loadingWithBrokenBlocks() {
        SeedBattle game = with(CROWD);
        game.setTreaty(0, 1, true);
        game.turn();
        game.save();
        game.turn();
        game.breakBlock(0, 1);
        CHECK.unsupported("load", game, () -> game.load(0));
        CHECK.same("the index stays", game.sightings(0), 14);
        CHECK.same("another's load", game.load(1), 5);
        CHECK.same("repair", game.repair(0), 1);
        CHECK.same("load what was rebuilt", game.load(0), 7);
        CHECK.same("its last", game.sighting(0, 6, 'c'), 28);
        CHECK.same("isSound", game.isSound(), true);
    }

    private static void sixtyNumbers() {
        SeedBattle game = with(CROWD);
        game.setTreaty(0, 2, true);
        for (int turn = 1; turn <= 99; turn++) {
            game.turn();
        }
        CHECK.same("save", game.save(), 240);
        CHECK.same("blocks", game.blocks(0), 15);
        CHECK.same("the last number", game.savedAt(0, 59), 9928007);
        for (int block = 0; block < 15; block++) {
            CHECK.same("breakBlock", game.breakBlock(0, block), true);
        }
        CHECK.noElement("no such block", game, () -> game.breakBlock(0, 15));
        CHECK.same("repair", game.repair(0), 15);
        CHECK.same("load", game.load(0), 60);
        CHECK.same("the last again", game.savedAt(0, 59), 9928007);
        CHECK.same("isSound", game.isSound(), true);
    }
}
