/** Maps as texts of 64 grounds, and the search for a seed whose map has wanted cells. */
final class Maps {
    private Maps() {
    }

    static String of(int seed) {
        StringBuilder map = new StringBuilder();
        long value = seed;
        for (int cell = 0; cell < 64; cell++) {
            value = (value * 1103515245L + 12345L) & 0xFFFFFFFFL;
            int kind = (int) (value / 65536 % 8);
            map.append(kind < 4 ? 'p' : kind < 6 ? 'w' : kind == 6 ? 'h' : 'x');
        }
        return map.toString();
    }

    /**
     * The first seed from 0 on whose map fits: wishes are written cell=ground, apart by spaces;
     * the ground o stands for open ground (plain or water), b for what blocks (wood or hill),
     * l for land (all but water).
     */
    static int seedFor(String wishes) {
        String[] parts = wishes.trim().split(" +");
        for (int seed = 0; seed < 1 << 19; seed++) {
            if (fits(of(seed), parts)) {
                return seed;
            }
        }
        throw new IllegalStateException("no seed has " + wishes);
    }

    private static boolean fits(String map, String[] parts) {
        for (String part : parts) {
            String[] wish = part.split("=");
            char is = map.charAt(Integer.parseInt(wish[0]));
            char due = wish[1].charAt(0);
            if (!suits(is, due)) {
                return false;
            }
        }
        return true;
    }

    private static boolean suits(char is, char due) {
        switch (due) {
            case 'o':
                return is == 'p' || is == 'x';
            case 'b':
                return is == 'w' || is == 'h';
            case 'l':
                return is != 'x';
            default:
                return is == due;
        }
    }

    static SeedBattle game(String wishes) {
        SeedBattle game = new SeedBattle();
        game.setSeed(seedFor(wishes));
        return game;
    }

    /** Adds units, each written as its player, kind and cell, such as 0a27, apart by spaces. */
    static SeedBattle with(SeedBattle game, String units) {
        for (String unit : units.split(" ")) {
            game.addUnit(unit.charAt(0) - '0', unit.charAt(1), Integer.parseInt(unit.substring(2)));
        }
        return game;
    }

    /** Adds scouts of all players in turn on the first free land, as long as they are taken; how many. */
    static int fill(SeedBattle game, int many) {
        for (int unit = 0; unit < many; unit++) {
            try {
                game.addUnit(unit % 4, 's', freeLand(game));
            } catch (IllegalStateException e) {
                return unit;
            }
        }
        return many;
    }

    static int freeLand(SeedBattle game) {
        int cell = 0;
        while (game.ground(cell) == 'x' || game.unitOn(cell) >= 0) {
            cell++;
        }
        return cell;
    }

    /** A game with dry ground in the columns 1 to 5 of the rows 2 to 5. */
    static SeedBattle dryGame() {
        StringBuilder wishes = new StringBuilder();
        for (int row = 2; row <= 5; row++) {
            for (int column = 1; column <= 5; column++) {
                wishes.append(8 * row + column).append("=l ");
            }
        }
        return game(wishes.toString());
    }

    /** A game whose cells in the columns 1 to 4 of the rows 2 and 3 are plain. */
    static SeedBattle plainGame() {
        StringBuilder wishes = new StringBuilder();
        for (int row = 2; row <= 3; row++) {
            for (int column = 1; column <= 4; column++) {
                wishes.append(8 * row + column).append("=p ");
            }
        }
        return game(wishes.toString());
    }
}
