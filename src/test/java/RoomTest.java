import java.lang.management.ManagementFactory;

/** All calls of a run live in one room: a game is small, and its calls make no objects. */
public final class RoomTest {
    public static void main(String[] args) {
        Check check = new Check("RoomTest");
        com.sun.management.ThreadMXBean bean =
            (com.sun.management.ThreadMXBean) ManagementFactory.getThreadMXBean();
        long thread = Thread.currentThread().getId();
        play(Maps.plainGame());
        SeedBattle game = Maps.plainGame();
        long before = bean.getThreadAllocatedBytes(thread);
        play(game);
        long calls = bean.getThreadAllocatedBytes(thread) - before;
        check.same("bytes made by some 500 calls: " + calls + ", few", calls < 4096, true);
        before = bean.getThreadAllocatedBytes(thread);
        game = new SeedBattle();
        long made = bean.getThreadAllocatedBytes(thread) - before;
        check.same("bytes made by the constructor: " + made + ", few", made < 40000, true);
        check.same("the new game", game.done(), 0);
        check.end();
    }

    private static void play(SeedBattle game) {
        for (int unit = 0; unit < 8; unit++) {
            game.addUnit(unit % 4, "sa".charAt(unit % 2), unit < 4 ? 17 + unit : 21 + unit);
        }
        for (int turn = 0; turn < 40; turn++) {
            game.setTreaty(turn % 4, (turn + 1) % 4, turn % 3 > 0);
            game.order(0, turn % 8);
            game.turn();
            game.seen(turn % 4);
            game.save();
            game.breakBlock(0, 0);
            game.repair(0);
            game.breakBlock(0, 0);
            game.repair(0);
            game.load(3);
            game.meanAge();
            game.checksum();
            game.isSound();
        }
    }
}
