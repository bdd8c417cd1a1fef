import java.util.Arrays;
import java.util.NoSuchElementException;

/** A strategy game by turns with fog, whose whole course follows from its seed and its orders. */
public final class SeedBattle {
    private static final int NONE = -1;
    private static final int PLAYERS = 4;
    private static final int SIDE = 8;
    private static final int CELLS = 64;
    private static final int DIRECTIONS = 8;
    private static final int MAX_UNITS = 24;
    private static final int MAX_TURNS = 99;
    private static final int STEPS = 2;
    private static final int MAX_SIGHTINGS = 60;
    private static final int BLOCK_SIZE = 4;

    /** A sighting is held as one number, the very number that a save writes. */
    private static final int TURN_WEIGHT = 100000;
    private static final int CELL_WEIGHT = 1000;

    /** The ground of each of the eight values that the seed can give a cell. */
    private static final String GROUNDS = "ppppwwhx";
    private static final char WOOD = 'w';
    private static final char HILL = 'h';
    private static final char WATER = 'x';

    /** A kind is held as its place in this text; the rows below have the same places. */
    private static final String KINDS = "sat";
    private static final int[] KIND_SIGHTS = {3, 2, 4};
    private static final int[] KIND_STEPS = {2, 1, 0};
    private static final int[] KIND_POWERS = {1, 3, 2};

    private static final int[] COLUMN_MOVES = {0, 1, 1, 1, 0, -1, -1, -1};
    private static final int[] ROW_MOVES = {-1, -1, 0, 1, 1, 1, 0, -1};

    private final Field field = new Field();
    /** Where isSound plays the game anew; made once, so that no call makes objects. */
    private final Field rehearsal = new Field();
    private final Orders orders = new Orders();
    private final Index[] indexes = new Index[PLAYERS];
    private final Copy[] copies = new Copy[PLAYERS];
    /** For each player, a bit for each player with whom it has a treaty. */
    private final int[] treaties = new int[PLAYERS];
    /** For each player, a bit for each unit that it sighted by itself in the turn just done. */
    private final int[] ownSights = new int[PLAYERS];
    private int seedNow;
    private int turnsDone;
    private boolean saved;

    public SeedBattle() {
        for (int player = 0; player < PLAYERS; player++) {
            indexes[player] = new Index();
            copies[player] = new Copy();
        }
        field.land.grow(0);
    }

    public int setSeed(int seed) throws IllegalStateException {
        if (field.units.count > 0) {
            throw new IllegalStateException("there is a unit");
        }
        int before = seedNow;
        seedNow = seed;
        field.land.grow(seed);
        return before;
    }

    public char ground(int cell) throws IndexOutOfBoundsException {
        requireCell(cell);
        return field.land.at(cell);
    }

    public int addUnit(int player, char kind, int cell)
            throws IndexOutOfBoundsException, IllegalArgumentException,
            UnsupportedOperationException, IllegalStateException {
        requirePlayer(player);
        requireCell(cell);
        int kindNumber = KINDS.indexOf(kind);
        if (kindNumber < 0) {
            throw new IllegalArgumentException("no such kind");
        }
        if (field.land.at(cell) == WATER || field.units.on(cell) != NONE) {
            throw new UnsupportedOperationException("the cell is water or taken");
        }
        if (field.units.count >= MAX_UNITS || turnsDone > 0) {
            throw new IllegalStateException("no more units, or a turn was done");
        }
        return field.units.put(player, kindNumber, cell);
    }

    public int order(int unit, int direction)
            throws IndexOutOfBoundsException, IllegalArgumentException, UnsupportedOperationException {
        requireUnit(unit);
        if (direction < 0 || direction >= DIRECTIONS) {
            throw new IllegalArgumentException("no such direction");
        }
        if (!field.units.lives(unit) || orders.givenTo(unit) >= field.units.steps(unit)) {
            throw new UnsupportedOperationException("the unit is lost or has all its orders");
        }
        return orders.give(turnsDone, unit, direction);
    }

    public int turn() throws IllegalStateException {
        if (turnsDone >= MAX_TURNS) {
            throw new IllegalStateException("99 turns were done");
        }
        int lost = field.playTurn(orders, turnsDone);
        turnsDone++;
        orders.startTurn();
        for (int player = 0; player < PLAYERS; player++) {
            watch(player);
        }
        for (int told = 0; told < PLAYERS; told++) {
            hearAll(told);
        }
        return lost;
    }

    public int done() {
        return turnsDone;
    }

    public int cellOf(int unit) throws IndexOutOfBoundsException {
        requireUnit(unit);
        return field.units.place(unit);
    }

    public int unitOn(int cell) throws IndexOutOfBoundsException {
        requireCell(cell);
        return field.units.on(cell);
    }

    public boolean sees(int unit, int cell) throws IndexOutOfBoundsException {
        requireUnit(unit);
        requireCell(cell);
        return field.unitSpots(unit, cell);
    }

    public int seen(int player) throws IndexOutOfBoundsException {
        requirePlayer(player);
        int number = 0;
        for (int cell = 0; cell < CELLS; cell++) {
            if (field.playerSpots(player, cell)) {
                number++;
            }
        }
        return number;
    }

    public boolean setTreaty(int player, int other, boolean is)
            throws IndexOutOfBoundsException, IllegalArgumentException {
        requirePlayer(player);
        requirePlayer(other);
        if (player == other) {
            throw new IllegalArgumentException("both players are the same");
        }
        boolean was = hasTreaty(player, other);
        if (is) {
            treaties[player] |= 1 << other;
            treaties[other] |= 1 << player;
        } else if (was) {
            treaties[player] &= ~(1 << other);
            treaties[other] &= ~(1 << player);
            copies[player].endTreaty(other);
            copies[other].endTreaty(player);
        }
        return was;
    }

    public int sightings(int player) throws IndexOutOfBoundsException {
        requirePlayer(player);
        return indexes[player].count;
    }

    public int sighting(int player, int index, char what)
            throws IndexOutOfBoundsException, IllegalArgumentException {
        requirePlayer(player);
        if (index < 0 || index >= indexes[player].count) {
            throw new IndexOutOfBoundsException("no such index");
        }
        int number = indexes[player].at(index);
        switch (what) {
            case 't':
                return turnOf(number);
            case 'c':
                return placeOf(number);
            case 'u':
                return unitOf(number);
            default:
                throw new IllegalArgumentException("no such thing");
        }
    }

    public int age(int player, int cell) throws IndexOutOfBoundsException, NoSuchElementException {
        requirePlayer(player);
        requireCell(cell);
        int number = indexes[player].latestOnCell(cell);
        if (number == NONE) {
            throw new NoSuchElementException("no sighting on this cell");
        }
        return turnsDone - turnOf(number);
    }

    public int lastSeen(int player, int unit) throws IndexOutOfBoundsException, NoSuchElementException {
        requirePlayer(player);
        requireUnit(unit);
        int number = indexes[player].latestOfUnit(unit);
        if (number == NONE) {
            throw new NoSuchElementException("no sighting of this unit");
        }
        return placeOf(number);
    }

    public int save() {
        int numbers = 0;
        for (int player = 0; player < PLAYERS; player++) {
            copies[player].take(indexes[player], treaties[player]);
            numbers += copies[player].size;
        }
        for (int player = 0; player < PLAYERS; player++) {
            copies[player].keepParity(copies);
        }
        saved = true;
        return numbers;
    }

    public int blocks(int player) throws IndexOutOfBoundsException, NoSuchElementException {
        requirePlayer(player);
        requireSave();
        return copies[player].blockCount();
    }

    public boolean breakBlock(int player, int block) throws IndexOutOfBoundsException, NoSuchElementException {
        requirePlayer(player);
        requireSave();
        if (block < 0 || block >= copies[player].blockCount()) {
            throw new NoSuchElementException("no such block");
        }
        boolean whole = !copies[player].isBroken(block);
        copies[player].breakOne(block);
        return whole;
    }

    public int savedAt(int player, int index)
            throws IndexOutOfBoundsException, NoSuchElementException, UnsupportedOperationException {
        requirePlayer(player);
        requireSave();
        if (index < 0 || index >= copies[player].size) {
            throw new NoSuchElementException("no such number");
        }
        if (copies[player].isBroken(index / BLOCK_SIZE)) {
            throw new UnsupportedOperationException("its block is broken");
        }
        return copies[player].numberAt(index);
    }

    public int repair(int player) throws IndexOutOfBoundsException, NoSuchElementException {
        requirePlayer(player);
        requireSave();
        int rebuilt = 0;
        for (int block = 0; block < copies[player].blockCount(); block++) {
            if (copies[player].isBroken(block) && copies[player].canRebuild(block, copies)) {
                copies[player].rebuild(block, copies);
                rebuilt++;
            }
        }
        return rebuilt;
    }

    public int load(int player)
            throws IndexOutOfBoundsException, NoSuchElementException, UnsupportedOperationException {
        requirePlayer(player);
        requireSave();
        if (copies[player].anyBroken()) {
            throw new UnsupportedOperationException("a block is broken");
        }
        copies[player].writeTo(indexes[player]);
        return indexes[player].count;
    }

    public int allies(int player) throws IndexOutOfBoundsException, NoSuchElementException {
        requirePlayer(player);
        requireSave();
        return Integer.bitCount(copies[player].allyBits);
    }

    public long checksum() {
        long sum = 0;
        for (int unit = 0; unit < field.units.count; unit++) {
            sum = 31 * sum + field.units.place(unit);
        }
        return sum;
    }

    public float livingShare() throws ArithmeticException {
        int all = field.units.count;
        if (all == 0) {
            throw new ArithmeticException("there are no units");
        }
        int living = 0;
        for (int unit = 0; unit < all; unit++) {
            if (field.units.lives(unit)) {
                living++;
            }
        }
        return (float) living / (float) all;
    }

    public double meanAge() throws ArithmeticException {
        long ages = 0;
        int number = 0;
        for (int player = 0; player < PLAYERS; player++) {
            Index index = indexes[player];
            for (int row = 0; row < index.count; row++) {
                ages += turnsDone - turnOf(index.at(row));
            }
            number += index.count;
        }
        if (number == 0) {
            throw new ArithmeticException("there are no sightings");
        }
        return (double) ages / (double) number;
    }

    public boolean isSound() {
        return unitsAreWhereReplayed() && savesAreAsTaken() && noIndexHasOwnUnits();
    }

    private static void requirePlayer(int player) {
        if (player < 0 || player >= PLAYERS) {
            throw new IndexOutOfBoundsException("no such player");
        }
    }

    private static void requireCell(int cell) {
        if (!isCell(cell)) {
            throw new IndexOutOfBoundsException("no such cell");
        }
    }

    private void requireUnit(int unit) {
        if (!field.units.has(unit)) {
            throw new IndexOutOfBoundsException("no such unit");
        }
    }

    private void requireSave() {
        if (!saved) {
            throw new NoSuchElementException("there is no save");
        }
    }

    private static boolean isCell(int cell) {
        return cell >= 0 && cell < CELLS;
    }

    private static int numberFor(int turn, int cell, int unit) {
        return TURN_WEIGHT * turn + CELL_WEIGHT * cell + unit;
    }

    private static int turnOf(int number) {
        return number / TURN_WEIGHT;
    }

    private static int placeOf(int number) {
        return number % TURN_WEIGHT / CELL_WEIGHT;
    }

    private static int unitOf(int number) {
        return number % CELL_WEIGHT;
    }

    private boolean hasTreaty(int player, int other) {
        return (treaties[player] >> other & 1) != 0;
    }

    /** Puts into the index of a player what its own units see of others. */
    private void watch(int player) {
        Units units = field.units;
        int sights = 0;
        for (int unit = 0; unit < units.count; unit++) {
            int place = units.place(unit);
            if (place != NONE && units.owner(unit) != player && field.playerSpots(player, place)) {
                sights |= 1 << unit;
                indexes[player].add(turnsDone, place, unit);
            }
        }
        ownSights[player] = sights;
    }

    private void hearAll(int told) {
        for (int teller = 0; teller < PLAYERS; teller++) {
            if (hasTreaty(told, teller)) {
                hear(told, teller);
            }
        }
    }

    /** Tells from the sights, not from the index of the teller: what was dropped there is told too. */
    private void hear(int told, int teller) {
        Units units = field.units;
        for (int unit = 0; unit < units.count; unit++) {
            boolean sighted = (ownSights[teller] >> unit & 1) != 0;
            if (sighted && units.owner(unit) != told && !indexes[told].has(turnsDone, unit)) {
                indexes[told].add(turnsDone, units.place(unit), unit);
            }
        }
    }

    private boolean unitsAreWhereReplayed() {
        rehearsal.land.grow(seedNow);
        rehearsal.units.startLike(field.units);
        for (int turn = 0; turn < turnsDone; turn++) {
            rehearsal.playTurn(orders, turn);
        }
        for (int unit = 0; unit < field.units.count; unit++) {
            if (rehearsal.units.place(unit) != field.units.place(unit)) {
                return false;
            }
        }
        return true;
    }

    private boolean savesAreAsTaken() {
        for (int player = 0; player < PLAYERS; player++) {
            if (!copies[player].isAsTaken()) {
                return false;
            }
        }
        return true;
    }

    private boolean noIndexHasOwnUnits() {
        for (int player = 0; player < PLAYERS; player++) {
            Index index = indexes[player];
            for (int row = 0; row < index.count; row++) {
                if (field.units.owner(unitOf(index.at(row))) == player) {
                    return false;
                }
            }
        }
        return true;
    }

    /** The map: what is on its cells, where a step leads, and what stands in a line of sight. */
    private static final class Land {
        private final char[] grounds = new char[CELLS];

        void grow(int seed) {
            int state = seed;
            for (int cell = 0; cell < CELLS; cell++) {
                state = state * 1103515245 + 12345;
                grounds[cell] = GROUNDS.charAt((state >>> 16) % 8);
            }
        }

        /** Off the map there is water, where nobody can be. */
        char at(int cell) {
            return isCell(cell) ? grounds[cell] : WATER;
        }

        /** The cell in a direction; the cell itself, if none is there to step on. */
        int beside(int cell, int direction) {
            if (direction < 0 || direction >= DIRECTIONS) {
                return cell;
            }
            int column = cell % SIDE + COLUMN_MOVES[direction];
            int row = cell / SIDE + ROW_MOVES[direction];
            if (column < 0 || column >= SIDE || row < 0 || row >= SIDE) {
                return cell;
            }
            int target = SIDE * row + column;
            return at(target) == WATER ? cell : target;
        }

        boolean isClear(int from, int to) {
            int columns = to % SIDE - from % SIDE;
            int rows = to / SIDE - from / SIDE;
            int length = distance(from, to);
            boolean high = at(from) == HILL;
            for (int k = 1; k < length; k++) {
                int column = from % SIDE + share(k * columns, length);
                int row = from / SIDE + share(k * rows, length);
                char between = at(SIDE * row + column);
                if (between == HILL || between == WOOD && !high) {
                    return false;
                }
            }
            return true;
        }

        static int distance(int from, int to) {
            int columns = Math.abs(to % SIDE - from % SIDE);
            int rows = Math.abs(to / SIDE - from / SIDE);
            return Math.max(columns, rows);
        }

        /** The amount divided by the parts, rounded to the nearest, halves toward 0. */
        private static int share(int amount, int parts) {
            if (parts <= 0) {
                return 0;
            }
            int size = (2 * Math.abs(amount) + parts - 1) / (2 * parts);
            return amount < 0 ? -size : size;
        }
    }

    /** All units by their numbers; a lost one keeps its number and has no place. */
    private static final class Units {
        private final int[] owners = new int[MAX_UNITS];
        private final int[] kinds = new int[MAX_UNITS];
        private final int[] starts = new int[MAX_UNITS];
        private final int[] places = new int[MAX_UNITS];
        private int count;

        int put(int player, int kind, int cell) {
            if (count >= MAX_UNITS) {
                return NONE;
            }
            owners[count] = player;
            kinds[count] = kind;
            starts[count] = cell;
            places[count] = cell;
            count++;
            return count - 1;
        }

        /** Puts the units of another game where they were ahead of the turn 1. */
        void startLike(Units other) {
            count = 0;
            for (int unit = 0; unit < other.count; unit++) {
                put(other.owners[unit], other.kinds[unit], other.starts[unit]);
            }
        }

        boolean has(int unit) {
            return unit >= 0 && unit < count;
        }

        boolean lives(int unit) {
            return place(unit) != NONE;
        }

        int place(int unit) {
            return unit >= 0 && unit < count ? places[unit] : NONE;
        }

        int owner(int unit) {
            return unit >= 0 && unit < count ? owners[unit] : NONE;
        }

        int sight(int unit) {
            return unit >= 0 && unit < count ? KIND_SIGHTS[kinds[unit]] : 0;
        }

        int steps(int unit) {
            return unit >= 0 && unit < count ? KIND_STEPS[kinds[unit]] : 0;
        }

        int power(int unit) {
            return unit >= 0 && unit < count ? KIND_POWERS[kinds[unit]] : 0;
        }

        int on(int cell) {
            for (int unit = 0; unit < count; unit++) {
                if (places[unit] == cell && cell != NONE) {
                    return unit;
                }
            }
            return NONE;
        }

        void move(int unit, int cell) {
            if (unit >= 0 && unit < count) {
                places[unit] = cell;
            }
        }
    }

    /** The orders of all turns: those of past turns are kept, as isSound plays them anew. */
    private static final class Orders {
        /** One turn more than can be done: its orders can be given, but it can't be played. */
        private final int[] directions = new int[(MAX_TURNS + 1) * MAX_UNITS * STEPS];
        private final int[] given = new int[MAX_UNITS];

        Orders() {
            Arrays.fill(directions, NONE);
        }

        int give(int turn, int unit, int direction) {
            int spot = spotOf(turn, unit, givenTo(unit));
            if (spot == NONE) {
                return givenTo(unit);
            }
            directions[spot] = direction;
            given[unit]++;
            return given[unit];
        }

        int givenTo(int unit) {
            return unit >= 0 && unit < MAX_UNITS ? given[unit] : 0;
        }

        void startTurn() {
            Arrays.fill(given, 0);
        }

        int direction(int turn, int unit, int step) {
            int spot = spotOf(turn, unit, step);
            return spot == NONE ? NONE : directions[spot];
        }

        private static int spotOf(int turn, int unit, int step) {
            boolean fits = turn >= 0 && turn <= MAX_TURNS && unit >= 0 && unit < MAX_UNITS
                    && step >= 0 && step < STEPS;
            return fits ? (turn * MAX_UNITS + unit) * STEPS + step : NONE;
        }
    }

    /** A map with units on it: solves their moves and tells what they see. */
    private static final class Field {
        /** Each look turns a unit back or loses one, and neither happens twice to the same unit. */
        private static final int MAX_LOOKS = 2 * MAX_UNITS;

        private final Land land = new Land();
        private final Units units = new Units();
        /** The cell that each unit wants in this step; none, if it is lost. */
        private final int[] wants = new int[MAX_UNITS];
        private final int[] powers = new int[PLAYERS];

        /** Plays a turn, here counted from 0, and answers how many units were lost in it. */
        int playTurn(Orders orders, int turn) {
            int lost = 0;
            for (int step = 0; step < STEPS; step++) {
                if (readWants(orders, turn, step)) {
                    lost += meetPairs();
                    lost += settleCells();
                    moveAll();
                }
            }
            return lost;
        }

        /** Answers whether any unit wants a cell other than its own: else the step does nothing. */
        private boolean readWants(Orders orders, int turn, int step) {
            boolean any = false;
            for (int unit = 0; unit < units.count; unit++) {
                int place = units.place(unit);
                wants[unit] = place;
                if (place != NONE) {
                    wants[unit] = land.beside(place, orders.direction(turn, unit, step));
                    any |= isMover(unit);
                }
            }
            return any;
        }

        private boolean isMover(int unit) {
            return wants[unit] != units.place(unit);
        }

        private int meetPairs() {
            int lost = 0;
            for (int unit = 0; unit < units.count; unit++) {
                int other = facing(unit);
                if (other != NONE) {
                    lost += meet(unit, other);
                }
            }
            return lost;
        }

        /** The unit of another player that wants the cell of this one, which wants its cell. */
        private int facing(int unit) {
            if (!isMover(unit)) {
                return NONE;
            }
            int other = units.on(wants[unit]);
            if (other == NONE || wants[other] != units.place(unit)) {
                return NONE;
            }
            return units.owner(other) == units.owner(unit) ? NONE : other;
        }

        private int meet(int unit, int other) {
            int difference = units.power(unit) - units.power(other);
            if (difference == 0) {
                wants[unit] = units.place(unit);
                wants[other] = units.place(other);
                return 0;
            }
            lose(difference < 0 ? unit : other);
            return 1;
        }

        private void lose(int unit) {
            units.move(unit, NONE);
            wants[unit] = NONE;
        }

        private int settleCells() {
            int lost = 0;
            for (int look = 0; look < MAX_LOOKS; look++) {
                int cell = lowestContested();
                if (cell == NONE) {
                    return lost;
                }
                lost += lookAt(cell);
            }
            return lost;
        }

        private int lowestContested() {
            int lowest = CELLS;
            for (int unit = 0; unit < units.count; unit++) {
                // of several units that want one cell, at most one stands on it already
                if (isMover(unit) && wants[unit] < lowest && isContested(wants[unit])) {
                    lowest = wants[unit];
                }
            }
            return lowest == CELLS ? NONE : lowest;
        }

        private boolean isContested(int cell) {
            int number = 0;
            for (int unit = 0; unit < units.count; unit++) {
                if (wants[unit] == cell) {
                    number++;
                }
            }
            return number > 1;
        }

        private int lookAt(int cell) {
            int holder = units.on(cell);
            int strongest = strongestFor(cell);
            if (holder == NONE || wants[holder] != cell) {
                turnBack(cell, firstMover(cell, strongest));
                return 0;
            }
            if (strongest == NONE || strongest == units.owner(holder)) {
                turnBack(cell, NONE);
                return 0;
            }
            lose(holder);
            return 1;
        }

        /** The player that has more power there than each other one, if one has. */
        private int strongestFor(int cell) {
            Arrays.fill(powers, 0);
            for (int unit = 0; unit < units.count; unit++) {
                int owner = units.owner(unit);
                if (wants[unit] == cell && owner >= 0 && owner < PLAYERS) {
                    powers[owner] += units.power(unit);
                }
            }
            int strongest = NONE;
            int most = 0;
            for (int player = 0; player < PLAYERS; player++) {
                if (powers[player] > most) {
                    most = powers[player];
                    strongest = player;
                } else if (powers[player] == most) {
                    strongest = NONE;
                }
            }
            return strongest;
        }

        /** Asked where nobody holds the cell: so all that want it are movers. */
        private int firstMover(int cell, int player) {
            for (int unit = 0; unit < units.count; unit++) {
                if (wants[unit] == cell && units.owner(unit) == player) {
                    return unit;
                }
            }
            return NONE;
        }

        private void turnBack(int cell, int except) {
            for (int unit = 0; unit < units.count; unit++) {
                if (wants[unit] == cell && unit != except) {
                    wants[unit] = units.place(unit);
                }
            }
        }

        private void moveAll() {
            for (int unit = 0; unit < units.count; unit++) {
                units.move(unit, wants[unit]);
            }
        }

        boolean unitSpots(int unit, int cell) {
            int place = units.place(unit);
            if (place == NONE) {
                return false;
            }
            int reach = units.sight(unit) + (land.at(place) == HILL ? 1 : 0);
            return Land.distance(place, cell) <= reach && land.isClear(place, cell);
        }

        boolean playerSpots(int player, int cell) {
            for (int unit = 0; unit < units.count; unit++) {
                if (units.owner(unit) == player && unitSpots(unit, cell)) {
                    return true;
                }
            }
            return false;
        }
    }

    /** The sightings of a player as numbers, in the order of turns, then of units. */
    private static final class Index {
        /** One more than may stay: a new sighting is put in first, then the first of all is dropped. */
        private final int[] numbers = new int[MAX_SIGHTINGS + 1];
        private int count;

        int at(int row) {
            return row >= 0 && row < count ? numbers[row] : NONE;
        }

        void clear() {
            count = 0;
        }

        void add(int turn, int cell, int unit) {
            if (count > MAX_SIGHTINGS) {
                return;
            }
            int row = count;
            while (row > 0 && isBehind(numbers[row - 1], turn, unit)) {
                numbers[row] = numbers[row - 1];
                row--;
            }
            numbers[row] = numberFor(turn, cell, unit);
            count++;
            if (count > MAX_SIGHTINGS) {
                dropFirst();
            }
        }

        boolean has(int turn, int unit) {
            for (int row = 0; row < count; row++) {
                if (turnOf(numbers[row]) == turn && unitOf(numbers[row]) == unit) {
                    return true;
                }
            }
            return false;
        }

        int latestOnCell(int cell) {
            for (int row = count - 1; row >= 0; row--) {
                if (placeOf(numbers[row]) == cell) {
                    return numbers[row];
                }
            }
            return NONE;
        }

        int latestOfUnit(int unit) {
            for (int row = count - 1; row >= 0; row--) {
                if (unitOf(numbers[row]) == unit) {
                    return numbers[row];
                }
            }
            return NONE;
        }

        private void dropFirst() {
            for (int row = 1; row < count; row++) {
                numbers[row - 1] = numbers[row];
            }
            count--;
        }

        private static boolean isBehind(int number, int turn, int unit) {
            return turnOf(number) > turn || turnOf(number) == turn && unitOf(number) > unit;
        }
    }

    /** The save of a player, with the parity that its allies keep of it. */
    private static final class Copy {
        private final int[] numbers = new int[MAX_SIGHTINGS];
        private final int[] parity = new int[MAX_SIGHTINGS];
        /** The index as it was saved, which nothing breaks: isSound compares with it. */
        private final int[] original = new int[MAX_SIGHTINGS];
        private int size;
        /** A bit for each block that is broken; a save has at most 15 blocks. */
        private int brokenBits;
        /** A bit for each player with whom there was a treaty as it was saved. */
        private int allyBits;
        private boolean allyGone;

        void take(Index index, int treatyBits) {
            size = Math.min(index.count, MAX_SIGHTINGS);
            for (int place = 0; place < size; place++) {
                numbers[place] = index.at(place);
                original[place] = index.at(place);
            }
            brokenBits = 0;
            allyBits = treatyBits;
            allyGone = false;
        }

        void keepParity(Copy[] all) {
            for (int place = 0; place < MAX_SIGHTINGS; place++) {
                parity[place] = numberAt(place) ^ alliesAt(place, all);
            }
        }

        void writeTo(Index index) {
            index.clear();
            for (int place = 0; place < size; place++) {
                index.add(turnOf(numbers[place]), placeOf(numbers[place]), unitOf(numbers[place]));
            }
        }

        int blockCount() {
            return (size + BLOCK_SIZE - 1) / BLOCK_SIZE;
        }

        /** The number at a place; 0, if there is none. */
        int numberAt(int place) {
            return place >= 0 && place < size ? numbers[place] : 0;
        }

        boolean isBroken(int block) {
            return block >= 0 && block < blockCount() && (brokenBits >> block & 1) != 0;
        }

        boolean anyBroken() {
            return brokenBits != 0;
        }

        /** Wipes the numbers, so that only a true rebuilding can bring them back. */
        void breakOne(int block) {
            if (block < 0 || block >= blockCount()) {
                return;
            }
            brokenBits |= 1 << block;
            for (int place = BLOCK_SIZE * block; place < blockEnd(block); place++) {
                numbers[place] = 0;
            }
        }

        void endTreaty(int player) {
            if (isAlly(player)) {
                allyGone = true;
            }
        }

        boolean canRebuild(int block, Copy[] all) {
            if (allyBits == 0 || allyGone) {
                return false;
            }
            for (int player = 0; player < PLAYERS; player++) {
                if (isAlly(player) && all[player].isBroken(block)) {
                    return false;
                }
            }
            return true;
        }

        void rebuild(int block, Copy[] all) {
            if (block < 0 || block >= blockCount()) {
                return;
            }
            for (int place = BLOCK_SIZE * block; place < blockEnd(block); place++) {
                numbers[place] = parity[place] ^ alliesAt(place, all);
            }
            brokenBits &= ~(1 << block);
        }

        boolean isAsTaken() {
            for (int place = 0; place < size; place++) {
                if (!isBroken(place / BLOCK_SIZE) && !wasTaken(numbers[place])) {
                    return false;
                }
            }
            return true;
        }

        private boolean wasTaken(int number) {
            for (int place = 0; place < size; place++) {
                if (original[place] == number) {
                    return true;
                }
            }
            return false;
        }

        private boolean isAlly(int player) {
            return (allyBits >> player & 1) != 0;
        }

        private int blockEnd(int block) {
            return Math.min(BLOCK_SIZE * block + BLOCK_SIZE, size);
        }

        private int alliesAt(int place, Copy[] all) {
            int bits = 0;
            for (int player = 0; player < PLAYERS; player++) {
                if (isAlly(player)) {
                    bits ^= all[player].numberAt(place);
                }
            }
            return bits;
        }
    }
}
