import java.io.IOException;
import java.lang.reflect.Array;
import java.lang.reflect.Field;

/**
 * Promise 27: isSound. No call of the face makes a game unsound, so this test spoils its fields.
 * It follows their names: where they change, it has to change.
 */
public final class SoundTest {
    private static final Check CHECK = new Check("SoundTest");

    public static void main(String[] args) throws ReflectiveOperationException, IOException {
        soundAtAnyTime();
        CHECK.sentence("Promise 27",
            "units are where a new game with this seed, units and orders of all turns has them");
        unitElsewhere();
        anyUnit();
        lostUnitLives();
        otherSeed();
        otherOrder();
        ordersToComeDoNotCount();
        CHECK.sentence("Promise 27",
            "each number of a save whose block is whole was in the index of its player as it was saved");
        savedNumber();
        anySave();
        CHECK.sentence("Promise 27", "no index has a sighting of a unit of its own player");
        ownUnitInIndex();
        CHECK.sentence("Saves", "It can be rebuilt from the parity and the blocks of the allies");
        rebuildingIsReal();
        allOfABlockIsWiped();
        CHECK.sentence("Saves", "of this block of the player's own save and of those of all its allies, "
            + "exclusively or, place by place");
        parityOfAllAllies();
        CHECK.leaveSentence();
        new Document(Document.FILE).holds(CHECK.quotes(), CHECK);
        CHECK.end();
    }

    private static SeedBattle played() {
        SeedBattle game = Maps.with(Maps.plainGame(), "0a17 1s18 2s20 0s27 2a28");
        game.setTreaty(0, 2, true);
        game.order(0, 2);
        game.turn();
        game.order(3, 6);
        game.order(3, 6);
        game.turn();
        game.save();
        return game;
    }

    private static void soundAtAnyTime() {
        SeedBattle game = new SeedBattle();
        CHECK.same("a new game", game.isSound(), true);
        game.turn();
        game.setSeed(77);
        CHECK.same("another seed", game.isSound(), true);
        game = played();
        CHECK.same("a played game", game.isSound(), true);
        CHECK.same("asked again", game.isSound(), true);
        game.order(0, 2);
        CHECK.same("with an order", game.isSound(), true);
        game.breakBlock(0, 0);
        CHECK.same("with a broken block", game.isSound(), true);
        game.repair(0);
        game.load(0);
        CHECK.same("repaired and loaded", game.isSound(), true);
        game.turn();
        CHECK.same("a turn on", game.isSound(), true);
    }

    private static void unitElsewhere() throws ReflectiveOperationException {
        SeedBattle game = played();
        int[] places = (int[]) inside(game, "field", "units", "places");
        int was = places[4];
        places[4] = 17;
        CHECK.same("a unit elsewhere", game.isSound(), false);
        places[4] = -1;
        CHECK.same("a unit lost for nothing", game.isSound(), false);
        places[4] = was;
        CHECK.same("a unit put back", game.isSound(), true);
    }

    private static void lostUnitLives() throws ReflectiveOperationException {
        SeedBattle game = played();
        CHECK.same("the lost", game.cellOf(1), -1);
        ((int[]) inside(game, "field", "units", "places"))[1] = 19;
        CHECK.same("a lost unit lives", game.isSound(), false);
    }

    private static void otherSeed() throws ReflectiveOperationException {
        SeedBattle game = played();
        Field seed = SeedBattle.class.getDeclaredField("seedNow");
        seed.setAccessible(true);
        seed.setInt(game, Maps.seedFor("17=p 18=x 19=p 20=p 27=p 28=p"));
        CHECK.same("a seed with water on the way", game.isSound(), false);
    }

    private static void otherOrder() throws ReflectiveOperationException {
        SeedBattle game = played();
        int[] directions = (int[]) inside(game, "orders", "directions");
        directions[0] = -1;
        CHECK.same("an order of a past turn is gone", game.isSound(), false);
    }

    private static void ordersToComeDoNotCount() {
        SeedBattle game = played();
        for (int unit : new int[] {0, 2, 3, 4}) {
            game.order(unit, 4);
        }
        CHECK.same("orders for the turn to come", game.isSound(), true);
    }

    private static void savedNumber() throws ReflectiveOperationException {
        SeedBattle game = played();
        int[] numbers = (int[]) inside(inside(game, "copies"), 2, "numbers");
        CHECK.same("the save", numbers[0], game.savedAt(2, 0));
        numbers[0]++;
        CHECK.same("a number that was not in the index", game.isSound(), false);
        game.breakBlock(2, 0);
        CHECK.same("in a broken block", game.isSound(), true);
        CHECK.same("rebuilt", game.repair(2), 1);
        CHECK.same("it is what it was", game.isSound(), true);
        game.load(2);
        game.turn();
        game.turn();
        CHECK.same("the index of then, not of now", game.isSound(), true);
    }

    private static SeedBattle five() {
        SeedBattle game = Maps.plainGame();
        for (int unit = 0; unit < 5; unit++) {
            game.addUnit(unit % 4, 's', unit < 4 ? 17 + unit : 25);
        }
        game.turn();
        game.save();
        return game;
    }

    private static void anyUnit() throws ReflectiveOperationException {
        SeedBattle game = five();
        int[] places = (int[]) inside(game, "field", "units", "places");
        for (int unit = 0; unit < 5; unit++) {
            places[unit] += 40;
            CHECK.same("the unit " + unit + " elsewhere", game.isSound(), false);
            places[unit] -= 40;
            CHECK.same("the unit " + unit + " put back", game.isSound(), true);
        }
    }

    private static void anySave() throws ReflectiveOperationException {
        SeedBattle game = five();
        for (int player = 0; player < 4; player++) {
            int[] numbers = (int[]) inside(inside(game, "copies"), player, "numbers");
            int last = game.sightings(player) - 1;
            CHECK.same("there is a save", last >= 0, true);
            for (int place = 0; place <= last; place++) {
                numbers[place] ^= 4;
                CHECK.same("the number " + place + " of " + player, game.isSound(), false);
                numbers[place] ^= 4;
                CHECK.same("as it was", game.isSound(), true);
            }
        }
        while (game.done() < 99) {
            game.turn();
        }
        game.save();
        int[] numbers = (int[]) inside(inside(game, "copies"), 3, "numbers");
        CHECK.same("sixty", game.sightings(3), 60);
        numbers[59] ^= 4;
        CHECK.same("the last of sixty", game.isSound(), false);
    }

    /** What is broken is wiped, and comes back from the parity and the blocks of the allies alone. */
    private static void rebuildingIsReal() throws ReflectiveOperationException {
        SeedBattle game = played();
        int[] mine = (int[]) inside(inside(game, "copies"), 0, "numbers");
        int[] allied = (int[]) inside(inside(game, "copies"), 2, "numbers");
        int[] parity = (int[]) inside(inside(game, "copies"), 0, "parity");
        int was = mine[0];
        for (int place = 0; place < 60; place++) {
            CHECK.same("the parity at " + place, parity[place], mine[place] ^ allied[place]);
        }
        game.breakBlock(0, 0);
        CHECK.same("the broken number", mine[0], 0);
        allied[0] ^= 1;
        CHECK.same("repair", game.repair(0), 1);
        CHECK.same("the ally's number tells", mine[0], was ^ 1);
    }

    /** A parity is made of the saves of all allies, where they have numbers, exclusively or. */
    private static void parityOfAllAllies() throws ReflectiveOperationException {
        SeedBattle game = Maps.with(Maps.plainGame(), "0s17 1s18 1s19 1s20 2s25 2s26 3s27 3s28");
        for (int ally = 0; ally < 4; ally++) {
            game.setTreaty(3, ally == 3 ? 0 : ally, true);
        }
        game.turn();
        game.save();
        for (int player = 0; player < 4; player++) {
            int[] parity = (int[]) inside(inside(game, "copies"), player, "parity");
            for (int place = 0; place < 60; place++) {
                int due = saved(game, player, place);
                for (int ally = 0; ally < 4; ally++) {
                    boolean allied = ally != player && (player == 3 || ally == 3);
                    due ^= allied ? saved(game, ally, place) : 0;
                }
                CHECK.same("the parity of " + player + " at " + place, parity[place], due);
            }
        }
    }

    private static int saved(SeedBattle game, int player, int place) {
        return place < game.sightings(player) ? game.savedAt(player, place) : 0;
    }

    private static void allOfABlockIsWiped() throws ReflectiveOperationException {
        SeedBattle game = Maps.with(Maps.plainGame(), "0s17 1s18 1s19 1s20 2s25 2s26 3s27 3s28");
        game.turn();
        game.save();
        int[] numbers = (int[]) inside(inside(game, "copies"), 0, "numbers");
        int last = numbers[3];
        game.breakBlock(0, 1);
        CHECK.same("the block ahead of it stays", numbers[3], last);
        for (int place = 4; place < 7; place++) {
            CHECK.same("the number at " + place, numbers[place], 0);
        }
        game.breakBlock(0, 0);
        for (int place = 0; place < 4; place++) {
            CHECK.same("the number at " + place, numbers[place], 0);
        }
    }

    private static void ownUnitInIndex() throws ReflectiveOperationException {
        SeedBattle game = played();
        int[] numbers = (int[]) inside(inside(game, "indexes"), 3, "numbers");
        CHECK.same("the player 3 has none", game.sightings(3), 0);
        numbers[0] = 101700;
        CHECK.same("a number behind the end", game.isSound(), true);
        int[] own = (int[]) inside(inside(game, "indexes"), 0, "numbers");
        own[0] = 118000;
        CHECK.same("a sighting of its own unit", game.isSound(), false);
        own[0] = 118001;
        CHECK.same("one of another", game.isSound(), true);
    }

    private static Object inside(Object from, String... names) throws ReflectiveOperationException {
        Object at = from;
        for (String name : names) {
            Field field = at.getClass().getDeclaredField(name);
            field.setAccessible(true);
            at = field.get(at);
        }
        return at;
    }

    private static Object inside(Object array, int row, String name) throws ReflectiveOperationException {
        return inside(Array.get(array, row), name);
    }
}
