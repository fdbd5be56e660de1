/** Edges that the document names of cuffs: which skies there can have been, how likely, how sure, and whom to ask. */
public final class CuffEdgesTest extends Kit {
    private static DrizzleVote told(DrizzleVote x, int... rows) {
        x.end(0);
        rows(x, rows);
        return x;
    }

    private static DrizzleVote one() {
        return council("member at 1");
    }

    /** Of the hours from first ago on, so many wet cuffs (or dry ones) of a member. */
    private static int[] cuffs(int first, int hours, int member, int wet) {
        int[] rows = new int[3 * hours];
        for (int i = 0; i < hours; i++) {
            rows[3 * i] = first + i;
            rows[3 * i + 1] = member;
            rows[3 * i + 2] = wet;
        }
        return rows;
    }

    private static int[] both(int[] a, int[] b) {
        int[] all = java.util.Arrays.copyOf(a, a.length + b.length);
        System.arraycopy(b, 0, all, a.length, b.length);
        return all;
    }

    private static void none() {
        sentence("CUFFS: none may be told; of nobody too; what the SKY is now is unknown");
        for (DrizzleVote x : new DrizzleVote[] {new DrizzleVote(), one(), council("now fog")}) {
            due(x.cuffs(false), 31);
            due(x.cuffs(true), 9999);
            due(x.likely(), 0);
            due(x.ago(0), NONE);
            due(x.ago(11), NONE);
        }
        sentence("ASK: none without MEMBERS");
        due(new DrizzleVote().ask(), NONE);
        due(one().ask(), 0);
    }

    private static void rowsTold() {
        sentence("CUFFS: whether its cuff was wet (1) or not (0)");
        due(told(one(), 0, 0, 1).cuffs(false), 4);
        due(told(one(), 0, 0, 0).cuffs(false), 27);
        sentence("CUFFS: of several rows of one HOUR each holds");
        DrizzleVote x = council("member at 1;member at 2;member at 3", "feel 1 if member>0 and sky>2;feel 1 if member>1 and sky<1");
        due(told(x, 0, 0, 1, 0, 1, 1).cuffs(false), 4);
        due(told(x, 0, 1, 1).cuffs(false), 4 + 8 + 16);
        due(told(x, 0, 1, 1, 0, 0, 0).cuffs(false), 8 + 16);
        due(told(x, 0, 2, 1, 0, 1, 0).cuffs(false), 1);
        due(told(x, 0, 0, 1, 0, 0, 1, 0, 0, 1).cuffs(false), 4);
        sentence("CUFFS: SKIES that there can be now: none, if rows gainsay each other, in whatever HOUR");
        for (int hour = 0; hour < 12; hour++) {
            int[] rows = {hour, 0, 1, hour, 0, 0};
            due(told(x, rows).cuffs(false), 0);
            due(told(x, rows).cuffs(true), 0);
            due(told(x, rows).likely(), NONE);
            due(told(x, rows).ask(), NONE);
            due(told(x, rows).ago(0), NONE);
            due(told(x, rows).ago(hour), NONE);
        }
        sentence("CUFFS: it FELT something: 1 is something");
        x = council("member at 0;place 0 exposed 1");
        due(told(x, 0, 0, 1).cuffs(false), 4);
        coast(x, "place 0 exposed 0");
        due(told(x, 0, 0, 1).cuffs(false), 0);
        due(told(x, 0, 0, 0).cuffs(false), 31);
        sentence("CUFFS: of one with a HAT, and of one who is in");
        x = council("member at 0 hat;member at 0 in");
        due(told(x, 0, 0, 1).cuffs(false), 0);
        due(told(x, 0, 1, 1).cuffs(false), 0);
        sentence("CUFFS: it FELT without a MOTION");
        x = council("member at 0;motion of 0 takes 1 worth 1", "feel 1 if mover;feel 1 if motion<8;feel 1 if worth>0");
        due(told(x, 0, 0, 1).cuffs(false), 4);
        law(x, "feel 1 if motion>7 and sky>3");
        due(told(x, 0, 0, 1).cuffs(false), 4 + 16);
        sentence("CUFFS: it FELT HOUR as now, in each HOUR ago");
        x = council("member at 0;hour 6", "feel 1 if hour>5 and hour<7 and sky<1");
        due(told(x, 0, 0, 1).cuffs(false), 1 + 4);
        due(told(x, both(cuffs(0, 4, 0, 1), cuffs(4, 8, 0, 0))).cuffs(true), 9999);
        due(told(x, both(cuffs(0, 8, 0, 1), cuffs(8, 4, 0, 0))).cuffs(true), 9999);
        due(told(x, cuffs(0, 12, 0, 1)).cuffs(true), 4096);
        sentence("CUFFS: each of 7 MEMBERS may be told");
        x = council(CROWD + "|place 7 exposed 0");
        due(told(x, 0, 5, 1).cuffs(false), 4);
        due(told(x, 0, 6, 1).cuffs(false), 0);
    }

    private static void ways() {
        sentence("CUFFS: one HOUR behind another, each following the one ahead of it with a WEIGHT above 0");
        DrizzleVote x = council(ROUND + ";member at 1");
        due(told(x).cuffs(true), 5);
        due(told(x).cuffs(false), 31);
        due(told(x, 11, 0, 1).cuffs(false), 2);
        due(told(x, 10, 0, 1).cuffs(false), 1);
        due(told(x, 1, 0, 1).cuffs(false), 8);
        due(told(x, 0, 0, 1).cuffs(false), 4);
        due(told(x, 0, 0, 1, 1, 0, 1).cuffs(false), 0);
        due(told(x, 0, 0, 1, 4, 0, 1, 8, 0, 1).cuffs(true), 1);
        due(told(x, 0, 0, 0, 1, 0, 0, 2, 0, 0, 3, 0, 0).cuffs(false), 16);
        sentence("CUFFS: WEIGHTS of 9 are no more ways than those of 1");
        x = council("sky sun 99999;sky dry 19191;member at 1");
        due(told(x, cuffs(0, 8, 0, 1)).cuffs(true), 625);
        due(told(x, cuffs(0, 7, 0, 1)).cuffs(true), 3125);
        sentence("CUFFS: from 11 HOURS ago on till now");
        x = one();
        due(told(x, cuffs(0, 11, 0, 1)).cuffs(true), 5);
        due(told(x, cuffs(1, 11, 0, 1)).cuffs(true), 5);
        due(told(x, cuffs(0, 12, 0, 1)).cuffs(true), 1);
        due(told(x, cuffs(1, 11, 0, 1)).cuffs(false), 31);
        sentence("WAYS: 9999 at most");
        due(told(x, cuffs(0, 6, 0, 1)).cuffs(true), 9999);
        due(told(x, both(cuffs(0, 6, 0, 1), new int[] {6, 0, 0})).cuffs(true), 9999);
        x = council("member at 1;member at 2", "feel 1 if member>0 and sky>3");
        due(told(x, both(cuffs(0, 4, 0, 1), cuffs(4, 4, 1, 1))).cuffs(true), 9999);
        due(told(x, both(cuffs(0, 5, 0, 1), cuffs(5, 3, 1, 1))).cuffs(true), 5000);
        due(told(x, both(cuffs(0, 6, 0, 1), new int[] {6, 1, 0})).cuffs(true), 3 * 3125);
        sentence("WAYS: 9998 are told as they are");
        x = council("sky sun 00111;sky dry 00100;sky drizzle 01001;sky fog 01100;sky downpour 11010");
        due(x.cuffs(true), 9998);
        due(x.cuffs(false), 31);
        due(x.likely(), 1);
    }

    private static void likely() {
        sentence("LIKELY: the SKY now that is in the most of them (counted on, above 9999)");
        due(council("sky dry 01111").likely(), 1);
        due(council("sky dry 00011;sky sun 00111").likely(), 3);
        due(council("sky dry 00001;sky sun 00001").likely(), 4);
        sentence("LIKELY: of several the least");
        due(council("sky sun 01001;sky dry 01001;sky drizzle 01001;sky fog 01001;sky downpour 01001").likely(), 1);
        due(council("sky sun 00101;sky dry 00101;sky drizzle 00101;sky fog 00101;sky downpour 00101").likely(), 2);
        due(told(one(), 0, 0, 0).likely(), 0);
        due(told(one(), 0, 0, 1).likely(), 2);
        sentence("LIKELY: a single way is the most");
        due(told(council(ROUND + ";member at 1"), 10, 0, 1).likely(), 0);
        due(told(council(ROUND + ";member at 1"), 9, 0, 1).likely(), 3);
        sentence("LIKELY: none");
        due(told(council(ROUND + ";member at 1"), 10, 0, 1, 11, 0, 1).likely(), NONE);
    }

    private static void ago() {
        DrizzleVote x = council(ROUND + ";member at 1");
        sentence("WET AGO: the SKY N HOURS ago (0 to 11): 1 by all, 0 by none");
        for (int n = 0; n < 12; n++) {
            due(told(x, 0, 0, 1).ago(n), n % 4 == 0 ? 1 : 0);
            due(told(x, 11, 0, 1).ago(n), n % 4 == 3 ? 1 : 0);
        }
        sentence("WET AGO: else none");
        for (int n = 0; n < 12; n++) {
            due(told(x).ago(n), NONE);
            due(told(one(), cuffs(0, n, 0, 1)).ago(n), NONE);
        }
        sentence("WET AGO: 2 alone, not what else is wet");
        x = council("member at 0", "feel 1 if sky>2");
        due(told(x, 3, 0, 1).ago(3), NONE);
        law(x, "feel 1 if sky>2;dull 5 if sky>1 and sky<3");
        due(told(x, 3, 0, 1).ago(3), 0);
        due(told(x, 3, 0, 0).ago(3), NONE);
        sentence("WET AGO: of more ways than 9999 too");
        due(told(one(), 11, 0, 1).ago(11), 1);
        due(told(one(), 11, 0, 0).ago(11), 0);
        due(told(one(), 11, 0, 1).ago(10), NONE);
        sentence("Promise 33: none also, if there are no such rows");
        x = council("member at 0;member at 0 hat");
        due(told(x, 0, 1, 1).ago(0), NONE);
        due(told(x, 0, 1, 1).ago(11), NONE);
    }

    private static void asks() {
        sentence("ASK: none with fewer than two SKIES");
        due(told(one(), 0, 0, 1).ask(), NONE);
        DrizzleVote x = council("member at 0;member at 0", "feel 1 if member<1 and sky>3;feel 1 if member>0");
        due(told(x, 0, 0, 1).ask(), 0);
        due(told(x, 0, 1, 0).ask(), NONE);
        sentence("ASK: two SKIES are enough");
        due(told(x, 0, 0, 1).cuffs(false), 4 + 16);
        sentence("ASK: those SKIES are parted so that the greater part is the least");
        x = council("member at 0;member at 0;member at 0;member at 0",
            "dull 20 if sky>1 and sky<3;feel 1 if member>0 and member<2 and sky>3;feel 1 if member>1 and member<3 and sky>2;feel 1 if member>2 and sky>1");
        // drizzle is dulled; member 0 feels nothing, 1 by downpour, 2 and 3 by fog and downpour
        due(told(x).ask(), 2);
        due(told(x, 0, 2, 1).ask(), 1);
        due(told(x, 0, 2, 0).ask(), 0);
        sentence("ASK: the greater part, be it wet or dry");
        x = council("member at 0;member at 0;member at 0", "feel 1 if member<1;feel 1 if member>0 and member<2 and sky<4;feel 1 if member>1 and sky<3");
        due(told(x).ask(), 2);
        sentence("ASK: of several the least");
        x = council("member at 0 hat;member at 0;member at 0");
        due(told(x).ask(), 1);
        due(told(council(CROWD)).ask(), 0);
        x = council(CROWD, "feel 1 if member>5 and sky>2");
        due(told(x).ask(), 6);
        sentence("ASK: also one who parts them not at all, if none does");
        due(told(council("member at 0 hat;member at 0 hat")).ask(), 0);
    }

    private static DrizzleVote asked(int[] rows, int which) {
        DrizzleVote x = told(world(), rows);
        answer(x, which);
        return x;
    }

    private static Object answer(DrizzleVote x, int which) {
        switch (which) {
            case 0:
                return x.cuffs(false);
            case 1:
                return x.cuffs(true);
            case 2:
                return x.likely();
            case 3:
                return x.ago(0);
            case 4:
                return x.ago(11);
            default:
                return x.ask();
        }
    }

    private static void tapes() {
        int[][] right = {{}, {0, 0, 1}, {11, 2, 0}, {11, 0, 1, 0, 2, 0}, new int[45]};
        int[][] wrong = {{12, 0, 1}, {255, 0, 1}, {0, 3, 1}, {0, 255, 1}, {0, 0, 2}, {0, 0, 255}, {0}, {0, 0}, {0, 0, 1, 0},
            {0, 0, 1, 0, 0}, {0, 0, 1, 12, 0, 1}, {0, 0, 1, 0, 3, 1}, {0, 0, 1, 0, 0, 2}, new int[44], new int[46],
            new int[47], new int[48], new int[60], new int[135], new int[400]};
        for (int which = 0; which < 6; which++) {
            int call = which;
            int promise = which < 2 ? 31 : which == 2 ? 32 : which < 5 ? 33 : 34;
            sentence("Promise " + promise + ": uses the TAPE up, and changes nothing else");
            for (int[] rows : right) {
                DrizzleVote twin = world();
                twin.end(0);
                sameAs(asked(rows, call), twin);
            }
            sentence("Promise " + promise + ": IllegalArgumentException: the TAPE is not that (45 bytes at most; 0 to 11, a MEMBER, 1 or 0)");
            for (int[] rows : wrong) {
                refusedTape(ARGUMENT, rows, x -> answer(x, call));
            }
            sentence("Promise " + promise + ": IllegalArgumentException: there are no such MEMBERS");
            DrizzleVote nobody = new DrizzleVote();
            rows(nobody, 0, 0, 1);
            dueThrow(ARGUMENT, nobody, x -> answer(x, call));
            due(nobody.end(1), false);
            DrizzleVote crowd = council(CROWD);
            rows(crowd, 0, 7, 1);
            dueThrow(ARGUMENT, crowd, x -> answer(x, call));
            rows(crowd, 0, 6, 1);
            dueThrow(null, crowd, x -> answer(x, call));
        }
        sentence("Promise 33: IllegalArgumentException: N is none (0 to 11), and the TAPE is used up");
        for (int n : new int[] {-1, 12, MIN, MAX}) {
            refusedTape(ARGUMENT, new int[] {0, 0, 1}, x -> x.ago(n));
            refusedTape(ARGUMENT, new int[] {}, x -> x.ago(n));
            refusedTape(ARGUMENT, new int[] {12, 0, 1}, x -> x.ago(n));
        }
    }

    private static void fifteenRows() {
        sentence("Promise 31: 45 bytes at most: all fifteen rows count");
        for (int row = 0; row < 15; row++) {
            int[] most = new int[45];
            for (int i = 0; i < 15; i++) {
                most[3 * i] = i % 12;
                most[3 * i + 2] = i == row ? 0 : 1;
            }
            // a dry cuff in an HOUR in which another row tells a wet one gainsays it
            boolean gainsaid = row % 12 < 3;
            due(told(one(), most).cuffs(true), gainsaid ? 0 : 4);
            due(told(one(), most).ago(row % 12), gainsaid ? NONE : 0);
            due(told(one(), most).ago((row + 1) % 12), gainsaid ? NONE : 1);
        }
    }

    public static void main(String[] args) {
        none();
        rowsTold();
        ways();
        likely();
        ago();
        asks();
        tapes();
        fifteenRows();
        ends("CuffEdgesTest");
    }
}
