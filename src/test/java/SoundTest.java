import java.lang.reflect.Array;
import java.lang.reflect.Field;

/**
 * Promise 27: isSound. No call of the face makes a game unsound, so this test spoils its fields.
 * It follows their names: where they change, it has to change.
 */
public final class SoundTest {
    private static final Check CHECK = new Check("SoundTest");

    public static void main(String[] args) throws ReflectiveOperationException {
        soundAtAnyTime();
        unitElsewhere();
        lostUnitLives();
        otherSeed();
        otherOrder();
        ordersToComeDoNotCount();
        savedNumber();
        anyUnitOrSave();
        ownUnitInIndex();
        rebuildingIsReal();
        CHECK.end();
    }

    private static SeedBattle played() {
        SeedBattle game = Maps.with(Maps.plainGame(), "0a17 1s18 2s20 0s27 2a28");
        game.setTreaty(0, 2, true);
        game.order(0, 2);
        game.turn();
        game.order(3, 6);
        game.order(3, 6);
        game.turn();
        game.save();
        return game;
    }

    private static void soundAtAnyTime() {
        SeedBattle game = new SeedBattle();
        CHECK.same("a new game", game.isSound(), true);
        game.turn();
        game.setSeed(77);
        CHECK.same("another seed", game.isSound(), true);
        game = played();
        CHECK.same("a played game", game.isSound(), true);
        CHECK.same("asked again", game.isSound(), true);
        game.order(0, 2);
        CHECK.same("with an order", game.isSound(), true);
        game.breakBlock(0, 0);
        CHECK.same("with a broken block", game.isSound(), true);
        game.repair(0);
        game.load(0);
        CHECK.same("repaired and loaded", game.isSound(), true);
        game.turn();
        CHECK.same("a turn on", game.isSound(), true);
    }

    private static void unitElsewhere() throws ReflectiveOperationException {
        SeedBattle game = played();
        int[] places = (int[]) inside(game, "field", "units", "places");
        int was = places[4];
        places[4] = 17;
        CHECK.same("a unit elsewhere", game.isSound(), false);
        places[4] = -1;
        CHECK.same("a unit lost for nothing", game.isSound(), false);
        places[4] = was;
        CHECK.same("a unit put back", game.isSound(), true);
    }

    private static void lostUnitLives() throws ReflectiveOperationException {
        SeedBattle game = played();
        CHECK.same("the lost", game.cellOf(1), -1);
        ((int[]) inside(game, "field", "units", "places"))[1] = 19;
        CHECK.same("a lost unit lives", game.isSound(), false);
    }

    private static void otherSeed() throws ReflectiveOperationException {
        SeedBattle game = played();
        Field seed = SeedBattle.class.getDeclaredField("seedNow");
        seed.setAccessible(true);
        seed.setInt(game, Maps.seedFor("17=p 18=x 19=p 20=p 27=p 28=p"));
        CHECK.same("a seed with water on the way", game.isSound(), false);
    }

    private static void otherOrder() throws ReflectiveOperationException {
        SeedBattle game = played();
        int[] directions = (int[]) inside(game, "orders", "directions");
        directions[0] = -1;
        CHECK.same("an order of a past turn is gone", game.isSound(), false);
    }

    private static void ordersToComeDoNotCount() {
        SeedBattle game = played();
        for (int unit : new int[] {0, 2, 3, 4}) {
            game.order(unit, 4);
        }
        CHECK.same("orders for the turn to come", game.isSound(), true);
    }

    private static void savedNumber() throws ReflectiveOperationException {
        SeedBattle game = played();
        int[] numbers = (int[]) inside(inside(game, "copies"), 2, "numbers");
        CHECK.same("the save", numbers[0], game.savedAt(2, 0));
        numbers[0]++;
        CHECK.same("a number that was not in the index", game.isSound(), false);
        game.breakBlock(2, 0);
        CHECK.same("in a broken block", game.isSound(), true);
        CHECK.same("rebuilt", game.repair(2), 1);
        CHECK.same("it is what it was", game.isSound(), true);
        game.load(2);
        game.turn();
        game.turn();
        CHECK.same("the index of then, not of now", game.isSound(), true);
    }

    private static void anyUnitOrSave() throws ReflectiveOperationException {
        SeedBattle game = Maps.plainGame();
        for (int unit = 0; unit < 5; unit++) {
            game.addUnit(unit % 4, 's', unit < 4 ? 17 + unit : 25);
        }
        game.turn();
        game.save();
        int[] places = (int[]) inside(game, "field", "units", "places");
        for (int unit = 0; unit < 5; unit++) {
            places[unit] += 40;
            CHECK.same("the unit " + unit + " elsewhere", game.isSound(), false);
            places[unit] -= 40;
        }
        for (int player = 0; player < 4; player++) {
            int[] numbers = (int[]) inside(inside(game, "copies"), player, "numbers");
            int last = game.sightings(player) - 1;
            CHECK.same("there is a save", last >= 0, true);
            numbers[last] ^= 4;
            CHECK.same("the save of " + player, game.isSound(), false);
            numbers[last] ^= 4;
            CHECK.same("as it was", game.isSound(), true);
        }
    }

    /** What is broken is wiped, and comes back from the parity and the blocks of the allies alone. */
    private static void rebuildingIsReal() throws ReflectiveOperationException {
        SeedBattle game = played();
        int[] mine = (int[]) inside(inside(game, "copies"), 0, "numbers");
        int[] allied = (int[]) inside(inside(game, "copies"), 2, "numbers");
        int[] parity = (int[]) inside(inside(game, "copies"), 0, "parity");
        int was = mine[0];
        for (int place = 0; place < 60; place++) {
            CHECK.same("the parity at " + place, parity[place], mine[place] ^ allied[place]);
        }
        game.breakBlock(0, 0);
        CHECK.same("the broken number", mine[0], 0);
        allied[0] ^= 1;
        CHECK.same("repair", game.repair(0), 1);
        CHECK.same("the ally's number tells", mine[0], was ^ 1);
    }

    private static void ownUnitInIndex() throws ReflectiveOperationException {
        SeedBattle game = played();
        int[] numbers = (int[]) inside(inside(game, "indexes"), 3, "numbers");
        CHECK.same("the player 3 has none", game.sightings(3), 0);
        numbers[0] = 101700;
        CHECK.same("a number behind the end", game.isSound(), true);
        int[] own = (int[]) inside(inside(game, "indexes"), 0, "numbers");
        own[0] = 118000;
        CHECK.same("a sighting of its own unit", game.isSound(), false);
        own[0] = 118001;
        CHECK.same("one of another", game.isSound(), true);
    }

    private static Object inside(Object from, String... names) throws ReflectiveOperationException {
        Object at = from;
        for (String name : names) {
            Field field = at.getClass().getDeclaredField(name);
            field.setAccessible(true);
            at = field.get(at);
        }
        return at;
    }

    private static Object inside(Object array, int row, String name) throws ReflectiveOperationException {
        return inside(Array.get(array, row), name);
    }
}
