import java.util.ArrayList;
import java.util.HashMap;
import java.util.HashSet;
import java.util.List;
import java.util.Map;
import java.util.Set;
import java.util.TreeMap;

/**
 * The document told once more, slowly and with the Java library, to compare the program with.
 * It shares no way of working with the program where there is another one: sets and maps in place
 * of rows, whole numbers compared in place of rounding, copies in place of parities.
 */
final class Model {
    /** What a call throws: the exception's simple name. */
    static final class Refused extends RuntimeException {
        private static final long serialVersionUID = 1L;

        Refused(String name) {
            super(name, null, false, false);
        }
    }

    private static final String INDEX = "IndexOutOfBoundsException";
    private static final String ARGUMENT = "IllegalArgumentException";
    private static final String UNSUPPORTED = "UnsupportedOperationException";
    private static final String STATE = "IllegalStateException";
    private static final String ELEMENT = "NoSuchElementException";
    private static final String NUMBER = "ArithmeticException";

    private static final class Unit {
        int number;
        int player;
        int sight;
        int steps;
        int power;
        int cell;
        int wants;
        List<Integer> orders = new ArrayList<>();
    }

    private static final class Save {
        List<Integer> numbers = new ArrayList<>();
        Set<Integer> broken = new HashSet<>();
        Set<Integer> allies = new HashSet<>();
        boolean ended;

        int blocks() {
            return numbers.size() / 4 + (numbers.size() % 4 == 0 ? 0 : 1);
        }
    }

    private int seed;
    private String map = Maps.of(0);
    private final List<Unit> units = new ArrayList<>();
    private int done;
    private final boolean[][] treaty = new boolean[4][4];
    /** By the key 100 times the turn plus the unit, the cell. */
    private final List<TreeMap<Integer, Integer>> indexes = new ArrayList<>();
    private List<Save> saves;

    Model() {
        for (int player = 0; player < 4; player++) {
            indexes.add(new TreeMap<>());
        }
    }

    private static void refuse(boolean is, String name) {
        if (is) {
            throw new Refused(name);
        }
    }

    private static void checkPlayer(int player) {
        refuse(player < 0 || player > 3, INDEX);
    }

    private static void checkCell(int cell) {
        refuse(cell < 0 || cell > 63, INDEX);
    }

    private void checkUnit(int unit) {
        refuse(unit < 0 || unit >= units.size(), INDEX);
    }

    private void checkSave() {
        refuse(saves == null, ELEMENT);
    }

    int setSeed(int to) {
        refuse(!units.isEmpty(), STATE);
        int before = seed;
        seed = to;
        map = Maps.of(to);
        return before;
    }

    char ground(int cell) {
        checkCell(cell);
        return map.charAt(cell);
    }

    int addUnit(int player, char kind, int cell) {
        checkPlayer(player);
        checkCell(cell);
        refuse(kind != 's' && kind != 'a' && kind != 't', ARGUMENT);
        refuse(map.charAt(cell) == 'x' || at(cell) != null, UNSUPPORTED);
        refuse(units.size() == 24 || done != 0, STATE);
        Unit unit = new Unit();
        unit.number = units.size();
        unit.player = player;
        unit.sight = kind == 's' ? 3 : kind == 'a' ? 2 : 4;
        unit.steps = kind == 's' ? 2 : kind == 'a' ? 1 : 0;
        unit.power = kind == 's' ? 1 : kind == 'a' ? 3 : 2;
        unit.cell = cell;
        units.add(unit);
        return unit.number;
    }

    int order(int number, int direction) {
        checkUnit(number);
        refuse(direction < 0 || direction > 7, ARGUMENT);
        Unit unit = units.get(number);
        refuse(unit.cell < 0 || unit.orders.size() == unit.steps, UNSUPPORTED);
        unit.orders.add(direction);
        return unit.orders.size();
    }

    int turn() {
        refuse(done == 99, STATE);
        int before = living().size();
        step(0);
        step(1);
        int lost = before - living().size();
        for (Unit unit : units) {
            unit.orders.clear();
        }
        done++;
        sight();
        return lost;
    }

    private List<Unit> living() {
        List<Unit> all = new ArrayList<>();
        for (Unit unit : units) {
            if (unit.cell >= 0) {
                all.add(unit);
            }
        }
        return all;
    }

    private Unit at(int cell) {
        for (Unit unit : living()) {
            if (unit.cell == cell) {
                return unit;
            }
        }
        return null;
    }

    private int beside(int cell, int direction) {
        int[][] ways = {{0, -1}, {1, -1}, {1, 0}, {1, 1}, {0, 1}, {-1, 1}, {-1, 0}, {-1, -1}};
        int x = cell % 8 + ways[direction][0];
        int y = cell / 8 + ways[direction][1];
        return x < 0 || x > 7 || y < 0 || y > 7 || map.charAt(8 * y + x) == 'x' ? cell : 8 * y + x;
    }

    private void step(int step) {
        for (Unit unit : living()) {
            unit.wants = step < unit.orders.size() ? beside(unit.cell, unit.orders.get(step)) : unit.cell;
        }
        Set<Unit> out = new HashSet<>();
        List<Unit> all = living();
        for (Unit one : all) {
            for (Unit other : all) {
                if (other.number > one.number && one.player != other.player && one.wants == other.cell
                        && other.wants == one.cell && !out.contains(one) && !out.contains(other)) {
                    meet(one, other, out);
                }
            }
        }
        while (lookOnce()) {
            continue;
        }
        for (Unit unit : living()) {
            unit.cell = unit.wants;
        }
    }

    private static void meet(Unit one, Unit other, Set<Unit> out) {
        if (one.power == other.power) {
            one.wants = one.cell;
            other.wants = other.cell;
            out.add(one);
            out.add(other);
            return;
        }
        Unit weaker = one.power < other.power ? one : other;
        weaker.cell = -1;
        weaker.wants = -1;
        out.add(weaker);
    }

    private boolean lookOnce() {
        TreeMap<Integer, List<Unit>> wanted = new TreeMap<>();
        for (Unit unit : living()) {
            wanted.computeIfAbsent(unit.wants, key -> new ArrayList<>()).add(unit);
        }
        for (Map.Entry<Integer, List<Unit>> entry : wanted.entrySet()) {
            if (entry.getValue().size() > 1) {
                look(entry.getKey(), entry.getValue());
                return true;
            }
        }
        return false;
    }

    private static void look(int cell, List<Unit> wanting) {
        List<Unit> movers = new ArrayList<>(wanting);
        movers.removeIf(unit -> unit.cell == cell);
        Unit standing = null;
        Map<Integer, Integer> power = new HashMap<>();
        for (Unit unit : wanting) {
            power.merge(unit.player, unit.power, Integer::sum);
            if (unit.cell == cell) {
                standing = unit;
            }
        }
        int strongest = -1;
        for (int player : power.keySet()) {
            boolean more = true;
            for (int other : power.keySet()) {
                more &= other == player || power.get(player) > power.get(other);
            }
            strongest = more ? player : strongest;
        }
        if (standing != null && strongest >= 0 && strongest != standing.player) {
            standing.cell = -1;
            standing.wants = -1;
            return;
        }
        boolean gone = standing != null;
        for (Unit mover : movers) {
            if (!gone && mover.player == strongest) {
                gone = true;
            } else {
                mover.wants = mover.cell;
            }
        }
    }

    private void sight() {
        List<List<Unit>> own = new ArrayList<>();
        for (int player = 0; player < 4; player++) {
            List<Unit> sighted = new ArrayList<>();
            for (Unit unit : living()) {
                if (unit.player != player && spots(player, unit.cell)) {
                    sighted.add(unit);
                    put(player, unit);
                }
            }
            own.add(sighted);
        }
        for (int teller = 0; teller < 4; teller++) {
            for (Unit unit : own.get(teller)) {
                for (int told = 0; told < 4; told++) {
                    if (treaty[teller][told] && unit.player != told
                            && !indexes.get(told).containsKey(100 * done + unit.number)) {
                        put(told, unit);
                    }
                }
            }
        }
    }

    private void put(int player, Unit unit) {
        indexes.get(player).put(100 * done + unit.number, unit.cell);
        if (indexes.get(player).size() > 60) {
            indexes.get(player).pollFirstEntry();
        }
    }

    private boolean spots(int player, int cell) {
        for (Unit unit : units) {
            if (unit.player == player && sees(unit.number, cell)) {
                return true;
            }
        }
        return false;
    }

    int done() {
        return done;
    }

    int cellOf(int unit) {
        checkUnit(unit);
        return units.get(unit).cell;
    }

    int unitOn(int cell) {
        checkCell(cell);
        return at(cell) == null ? -1 : at(cell).number;
    }

    boolean sees(int number, int cell) {
        checkUnit(number);
        checkCell(cell);
        Unit unit = units.get(number);
        if (unit.cell < 0) {
            return false;
        }
        boolean high = map.charAt(unit.cell) == 'h';
        int x = cell % 8 - unit.cell % 8;
        int y = cell / 8 - unit.cell / 8;
        int n = Math.max(Math.abs(x), Math.abs(y));
        if (n > unit.sight + (high ? 1 : 0)) {
            return false;
        }
        for (int k = 1; k < n; k++) {
            char between = map.charAt(unit.cell + nearest(k * x, n) + 8 * nearest(k * y, n));
            if (between == 'h' || between == 'w' && !high) {
                return false;
            }
        }
        return true;
    }

    /** The whole number whose n-fold is nearest to the product; of two, the one nearer to 0. */
    private static int nearest(int product, int n) {
        int best = 0;
        for (int whole = -8; whole <= 8; whole++) {
            int far = Math.abs(product - whole * n);
            int least = Math.abs(product - best * n);
            if (far < least || far == least && Math.abs(whole) < Math.abs(best)) {
                best = whole;
            }
        }
        return best;
    }

    int seen(int player) {
        checkPlayer(player);
        int number = 0;
        for (int cell = 0; cell < 64; cell++) {
            number += spots(player, cell) ? 1 : 0;
        }
        return number;
    }

    boolean setTreaty(int player, int other, boolean is) {
        checkPlayer(player);
        checkPlayer(other);
        refuse(player == other, ARGUMENT);
        boolean was = treaty[player][other];
        treaty[player][other] = is;
        treaty[other][player] = is;
        if (was && !is && saves != null) {
            saves.get(player).ended |= saves.get(player).allies.contains(other);
            saves.get(other).ended |= saves.get(other).allies.contains(player);
        }
        return was;
    }

    int sightings(int player) {
        checkPlayer(player);
        return indexes.get(player).size();
    }

    int sighting(int player, int index, char what) {
        checkPlayer(player);
        refuse(index < 0 || index >= indexes.get(player).size(), INDEX);
        refuse(what != 't' && what != 'c' && what != 'u', ARGUMENT);
        List<Integer> keys = new ArrayList<>(indexes.get(player).keySet());
        int key = keys.get(index);
        return what == 't' ? key / 100 : what == 'u' ? key % 100 : indexes.get(player).get(key);
    }

    int age(int player, int cell) {
        checkPlayer(player);
        checkCell(cell);
        int latest = -1;
        for (Map.Entry<Integer, Integer> entry : indexes.get(player).entrySet()) {
            if (entry.getValue() == cell) {
                latest = Math.max(latest, entry.getKey() / 100);
            }
        }
        refuse(latest < 0, ELEMENT);
        return done - latest;
    }

    int lastSeen(int player, int unit) {
        checkPlayer(player);
        checkUnit(unit);
        int cell = -1;
        for (Map.Entry<Integer, Integer> entry : indexes.get(player).entrySet()) {
            if (entry.getKey() % 100 == unit) {
                cell = entry.getValue();
            }
        }
        refuse(cell < 0, ELEMENT);
        return cell;
    }

    int save() {
        saves = new ArrayList<>();
        int all = 0;
        for (int player = 0; player < 4; player++) {
            Save save = new Save();
            for (Map.Entry<Integer, Integer> entry : indexes.get(player).entrySet()) {
                int key = entry.getKey();
                save.numbers.add(100000 * (key / 100) + 1000 * entry.getValue() + key % 100);
                all++;
            }
            for (int other = 0; other < 4; other++) {
                if (treaty[player][other]) {
                    save.allies.add(other);
                }
            }
            saves.add(save);
        }
        return all;
    }

    int blocks(int player) {
        checkPlayer(player);
        checkSave();
        return saves.get(player).blocks();
    }

    boolean breakBlock(int player, int block) {
        checkPlayer(player);
        checkSave();
        refuse(block < 0 || block >= saves.get(player).blocks(), ELEMENT);
        return saves.get(player).broken.add(block);
    }

    int savedAt(int player, int index) {
        checkPlayer(player);
        checkSave();
        refuse(index < 0 || index >= saves.get(player).numbers.size(), ELEMENT);
        refuse(saves.get(player).broken.contains(index / 4), UNSUPPORTED);
        return saves.get(player).numbers.get(index);
    }

    int repair(int player) {
        checkPlayer(player);
        checkSave();
        Save save = saves.get(player);
        if (save.allies.isEmpty() || save.ended) {
            return 0;
        }
        int before = save.broken.size();
        save.broken.removeIf(block -> {
            for (int ally : save.allies) {
                if (saves.get(ally).broken.contains(block)) {
                    return false;
                }
            }
            return true;
        });
        return before - save.broken.size();
    }

    int load(int player) {
        checkPlayer(player);
        checkSave();
        Save save = saves.get(player);
        refuse(!save.broken.isEmpty(), UNSUPPORTED);
        TreeMap<Integer, Integer> index = new TreeMap<>();
        for (int number : save.numbers) {
            index.put(number / 100000 * 100 + number % 1000, number / 1000 % 100);
        }
        indexes.set(player, index);
        return index.size();
    }

    int allies(int player) {
        checkPlayer(player);
        checkSave();
        return saves.get(player).allies.size();
    }

    long checksum() {
        long sum = 0;
        for (Unit unit : units) {
            sum = sum * 31 + unit.cell;
        }
        return sum;
    }

    float livingShare() {
        refuse(units.isEmpty(), NUMBER);
        return (float) living().size() / (float) units.size();
    }

    double meanAge() {
        double sum = 0;
        double number = 0;
        for (TreeMap<Integer, Integer> index : indexes) {
            for (int key : index.keySet()) {
                sum += done - key / 100;
                number++;
            }
        }
        refuse(number == 0, NUMBER);
        return sum / number;
    }

    boolean isSound() {
        return true;
    }
}
