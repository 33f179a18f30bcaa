import java.lang.reflect.InvocationTargetException;
import java.lang.reflect.Method;

/** Where promises 2 to 35 say BAD: each number of each call just inside, just outside and far outside its bounds. */
final class BadEdges extends Edges {
    private static final String SOME = "01+4,12?9;p4+,s3?@1,w5=@2,c0&@1";
    private static final int[] CELL = {0, 7};
    private static final int[] SORT = {0, 3};
    private static final int[] HARD = {1, 19};
    private static final int[] DOOR = {0, 1};
    private static final int[] MAN = {0, 3};
    private static final int[] EITHER = {0, 1};
    private static final int[] SHEET = {0, 3};
    private static final int[] LANE = {0, 3};
    private static final int[] ANY = {LEAST, MOST};

    BadEdges(Due due, Document document) {
        super(due, document);
    }

    @Override
    void all() {
        doorsAndMen();
        whatIsDone();
        foretold();
        sheets();
    }

    private void doorsAndMen() {
        promise(2, "BAD (between alike CELLS, too);");
        bounds("door", SOME, new int[] {3, 4, 1, 5}, CELL, CELL, SORT, HARD);
        for (int cell = 0; cell < 8; cell++) {
            refused("door", SOME, cell, cell, 0, 1);
        }
        promise(3, "BAD;");
        bounds("man", "01+4;p4+,s3?@1", new int[] {1, 2, 3, 4}, new int[] {0, 4}, new int[] {0, 9}, SORT, CELL);
        promise(4, "BAD.");
        bounds("of", SOME, new int[] {0, 0}, DOOR, new int[] {0, 5});
        refused("of", "", 0, 0);
        promise(5, "BAD.");
        bounds("at", SOME, new int[] {0, 0}, MAN, new int[] {0, 6});
        refused("at", "01+4", 0, 0);
        promise(6, "BAD;");
        bounds("power", SOME, new int[] {0, 0}, MAN, DOOR);
        refused("power", "01+4", 0, 0);
        promise(7, "BAD: not 32 .. 126;");
        bounds("type", SOME, new int[] {48}, new int[] {32, 126});
        promise(9, "BAD.");
        bounds("count", SOME, new int[] {0}, new int[] {0, 5});
    }

    private void whatIsDone() {
        promise(10, "BAD;");
        bounds("attempt", SOME, new int[] {0, 0}, MAN, DOOR);
        promise(11, "BAD;");
        bounds("whisper", SOME, new int[] {0, 0}, MAN, DOOR);
        promise(12, "BAD.");
        bounds("set", SOME, new int[] {0, 0, 1}, DOOR, SORT, HARD);
        promise(13, "BAD;");
        bounds("study", SOME, new int[] {0}, MAN);
        promise(14, "BAD.");
        bounds("drift", SOME, new int[] {1}, new int[] {1, 40});
        promise(16, "BAD: below 0.");
        bounds("seed", SOME, new int[] {0}, new int[] {0, MOST});
        for (String call : new String[] {"attempt", "whisper"}) {
            refused(call, "01+4", 0, 0);
        }
        refused("set", "", 0, 0, 1);
        refused("study", "01+4", 0);
    }

    private void foretold() {
        promise(17, "BAD: k below -1, too.");
        bounds("way", SOME, new int[] {0, 0, 0}, MAN, CELL, new int[] {-1, MOST});
        promise(18, "BAD.");
        bounds("ways", SOME, new int[] {0, 0}, MAN, CELL);
        promise(19, "BAD.");
        bounds("reach", SOME, new int[] {0}, MAN);
        promise(20, "BAD: cells not 0 .. 255, too.");
        bounds("round", SOME, new int[] {0, 0}, MAN, new int[] {0, 255});
        promise(21, "BAD.");
        bounds("cut", SOME, new int[] {0, 1, 0}, MAN, CELL, EITHER);
        promise(22, "BAD.");
        bounds("bridges", SOME, new int[] {0, 1}, MAN, CELL);
        promise(23, "BAD.");
        bounds("wit", SOME, new int[] {0, 1}, MAN, CELL);
        promise(24, "BAD.");
        bounds("lesson", SOME, new int[] {0, 0}, MAN, EITHER);
        promise(25, "BAD: alike numbers, too.");
        bounds("meet", SOME, new int[] {1, 2, 0}, MAN, MAN, EITHER);
        for (int man = 0; man < 4; man++) {
            refused("meet", SOME, man, man, 0);
            refused("meet", SOME, man, man, 1);
        }
        promise(26, "BAD.");
        bounds("hunt", SOME, new int[] {0, 1, 0}, MAN, CELL, new int[] {0, 3});
        promise(27, "BAD.");
        bounds("wander", SOME, new int[] {0, 1, 0, 0}, MAN, CELL, new int[] {0, 4}, EITHER);
        refused("wander", "01+4", 0, 0, 0, 0);
    }

    private void sheets() {
        promise(30, "BAD;");
        bounds("heard", SOME, new int[] {0, 0, 2, 0, 1, 0}, MAN, SHEET, LANE, ANY, new int[] {1, 8}, EITHER);
        promise(31, "BAD;");
        bounds("film", SOME, new int[] {0, 1, 0, 2, 0}, MAN, new int[] {1, 8}, SHEET, LANE, ANY);
        promise(32, "BAD: also n above 24;");
        bounds("sheet", SOME, new int[] {0, 2, 1}, SHEET, LANE, new int[] {LEAST, 24});
        promise(33, "BAD;");
        bounds("drop", SOME, new int[] {0}, SHEET);
        promise(34, "BAD;");
        bounds("item", SOME, new int[] {0, 2, 0, 0}, SHEET, LANE, ANY, ANY);
        promise(35, "BAD;");
        bounds("copy", SOME, new int[] {0, 0, 1, 0, 1}, SHEET, ANY, SHEET, ANY, ANY);
    }

    /** Each number by turns at its edges, the others as in the row of good ones. */
    private void bounds(String call, String text, int[] good, int[]... edges) {
        for (int k = 0; k < good.length; k++) {
            int[] row = good.clone();
            for (long v : probes(edges[k])) {
                if (v < LEAST || v > MOST) {
                    continue;
                }
                row[k] = (int) v;
                if (v < edges[k][0] || v > edges[k][1]) {
                    refused(call, text, row);
                } else {
                    taken(call, text, row);
                }
            }
        }
    }

    /** Also such as are inside again, if only their lowest bits were looked at. */
    private static long[] probes(int[] bound) {
        long least = bound[0];
        long most = bound[1];
        return new long[] {least - 1, least, most, most + 1, LEAST, LEAST + 1L, MOST, least - 256, least + 256,
            least - 65536, least + 65536, least + (1L << 31), most - (1L << 31), least - (1L << 31)};
    }

    private void taken(String call, String text, int... numbers) {
        RiddlePrison x = prepared(text);
        is(named(call, numbers) + " is not BAD", ask(x, call, numbers) == BAD ? 1 : 0, 0);
    }

    private void refused(String call, String text, int... numbers) {
        RiddlePrison x = prepared(text);
        String ahead = look(x);
        is(named(call, numbers), ask(x, call, numbers), BAD);
        same(named(call, numbers) + " leaves all as it", look(x), ahead);
    }

    private static RiddlePrison prepared(String text) {
        RiddlePrison x = text.isEmpty() ? new RiddlePrison() : Due.prison(text);
        for (int sheet = 0; sheet < 4; sheet++) {
            x.sheet(sheet, 2, 24);
        }
        x.seed(3);
        x.drift(2);
        return x;
    }

    private static String named(String call, int[] numbers) {
        StringBuilder made = new StringBuilder(call).append('(');
        for (int k = 0; k < numbers.length; k++) {
            made.append(k == 0 ? "" : ", ").append(numbers[k]);
        }
        return made.append(')').toString();
    }

    private static long ask(RiddlePrison x, String call, int[] numbers) {
        for (Method method : RiddlePrison.class.getMethods()) {
            if (!method.getName().equals(call) || method.getDeclaringClass() != RiddlePrison.class) {
                continue;
            }
            Object[] told = new Object[numbers.length];
            for (int k = 0; k < numbers.length; k++) {
                if (method.getParameterTypes()[k] == long.class) {
                    told[k] = (long) numbers[k];
                } else {
                    told[k] = numbers[k];
                }
            }
            try {
                return ((Number) method.invoke(x, told)).longValue();
            } catch (IllegalAccessException | InvocationTargetException e) {
                throw new IllegalStateException(named(call, numbers), e);
            }
        }
        throw new IllegalArgumentException(call);
    }
}
