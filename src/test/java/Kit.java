import java.util.ArrayList;
import java.util.List;
import java.util.NoSuchElementException;
import java.util.Objects;

/** What the tests share: texts for the tape, what is due, and what a refused call must leave as it was. */
abstract class Kit {
    static final Class<?> INDEX = IndexOutOfBoundsException.class;
    static final Class<?> ARGUMENT = IllegalArgumentException.class;
    static final Class<?> STATE = IllegalStateException.class;
    static final Class<?> NO_SUCH = NoSuchElementException.class;
    static final Class<?> FULL = UnsupportedOperationException.class;
    static final int NONE = -1;
    static final int MIN = Integer.MIN_VALUE;
    static final int MAX = Integer.MAX_VALUE;

    /** Skies that go round: dry, drizzle, fog, sun; a downpour never ends. */
    static final String ROUND =
        "sky dry 00100;sky drizzle 00010;sky fog 10000;sky sun 01000;sky downpour 00001";
    /** Seven members and eight motions, as many as there can be. */
    static final String CROWD = "member at 0;member at 1;member at 2;member at 3;member at 4;member at 5;member at 7|"
        + "motion of 0 takes 1 worth 1;motion of 1 takes 2 worth 2;motion of 2 takes 3 worth 3;"
        + "motion of 3 takes 4 worth 4;motion of 4 takes 5 worth 5;motion of 5 takes 6 worth 6;"
        + "motion of 6 takes 7 worth 7;motion of 6 takes 8 worth 8";

    private static int wrong;
    private static String sentence = "";

    interface Call {
        Object of(DrizzleVote x);
    }

    interface Making {
        DrizzleVote make();
    }

    /** What follows tests this sentence of the document. */
    static void sentence(String told) {
        sentence = told;
    }

    static void fails(String what) {
        wrong++;
        int line = 0;
        for (StackTraceElement at : new Throwable().getStackTrace()) {
            if (!at.getClassName().startsWith("Kit")) {
                line = at.getLineNumber();
                break;
            }
        }
        System.out.println(sentence + " (line " + line + "): " + what);
    }

    static void due(Object got, Object want) {
        if (!Objects.equals(got, want)) {
            fails("answered " + got + ", due is " + want);
        }
    }

    private static Class<?> thrown(DrizzleVote x, Call call) {
        try {
            call.of(x);
        } catch (RuntimeException e) {
            return e.getClass();
        }
        return null;
    }

    static void dueThrow(Class<?> want, DrizzleVote x, Call call) {
        Class<?> got = thrown(x, call);
        if (got != want) {
            fails("threw " + got + ", due is " + want);
        }
    }

    static void ends(String name) {
        if (wrong > 0) {
            System.out.println(name + ": " + wrong + " answers are not as due");
            System.exit(1);
        }
        System.out.println(name + ": all is as due");
    }

    // ---- the tape

    static byte[] bytesOf(String text) {
        byte[] bytes = new byte[text.length()];
        for (int i = 0; i < bytes.length; i++) {
            bytes[i] = (byte) text.charAt(i);
        }
        return bytes;
    }

    static void tape(DrizzleVote x, String text) {
        bytes(x, bytesOf(text));
    }

    /** The tape must be empty ahead of it. */
    static void bytes(DrizzleVote x, byte[] bytes) {
        for (int at = 0; at < bytes.length; at += 20) {
            int[] n = new int[5];
            for (int k = 0; k < 20; k++) {
                int one = at + k < bytes.length ? bytes[at + k] & 255 : 0;
                n[k / 4] = n[k / 4] << 8 | one;
            }
            x.feed(n[0], n[1], n[2], n[3], n[4]);
        }
        x.end(bytes.length);
    }

    static void rows(DrizzleVote x, int... told) {
        byte[] bytes = new byte[told.length];
        for (int i = 0; i < told.length; i++) {
            bytes[i] = (byte) told[i];
        }
        bytes(x, bytes);
    }

    /** How many bytes the tape has; it has as many behind it. */
    static int taped(DrizzleVote x) {
        int n = x.feed(0, 0, 0, 0, 0) - 20;
        if (n < 0) {
            for (n = 400; !x.end(n); n--) {
            }
        }
        x.end(n);
        return n;
    }

    static int coast(DrizzleVote x, String text) {
        tape(x, text);
        return x.coast();
    }

    static int law(DrizzleVote x, String text) {
        tape(x, text);
        return x.law();
    }

    /** More lines than one text may have are told in several, parted by a stroke. */
    static DrizzleVote council(String text) {
        DrizzleVote x = new DrizzleVote();
        for (String one : text.split("\\|", -1)) {
            coast(x, one);
        }
        return x;
    }

    static DrizzleVote council(String text, String law) {
        DrizzleVote x = council(text);
        law(x, law);
        return x;
    }

    static String times(int n, String line) {
        StringBuilder b = new StringBuilder();
        for (int i = 0; i < n; i++) {
            b.append(i > 0 ? ";" : "").append(line);
        }
        return b.toString();
    }

    // ---- texts that are right, and texts that are wrong at a byte

    static void rightCoast(DrizzleVote x, String text) {
        fault(x, true, text, NONE);
    }

    static void wrongCoast(String text, int at) {
        fault(new DrizzleVote(), true, text, at);
    }

    static void rightLaw(String text) {
        fault(new DrizzleVote(), false, text, NONE);
    }

    static void wrongLaw(String text, int at) {
        fault(new DrizzleVote(), false, text, at);
    }

    /** The text must be wrong at a byte (or right, at NONE), and the tape is used up by it. */
    static void fault(DrizzleVote x, boolean coast, String text, int at) {
        tape(x, text);
        Class<?> got = thrown(x, y -> coast ? y.coast() : y.law());
        Class<?> want = at == NONE ? null : ARGUMENT;
        if (got != want || x.fault() != at) {
            fails("of '" + text + "' threw " + got + " at " + x.fault() + ", due is " + want + " at " + at);
        }
        if (x.end(1)) {
            fails("the tape is not used up by '" + text + "'");
        }
    }

    /** Where each word of a text begins and ends. */
    static List<int[]> wordsOf(String text) {
        List<int[]> all = new ArrayList<>();
        int begin = 0;
        for (int i = 0; i <= text.length(); i++) {
            boolean letter = i < text.length() && text.charAt(i) >= 'a' && text.charAt(i) <= 'z';
            if (!letter) {
                if (i > begin) {
                    all.add(new int[] {begin, i});
                }
                begin = i + 1;
            }
        }
        return all;
    }

    // ---- the state behind a call

    /** All that can be asked of a council, but for acts, the image, fault() and the tape. */
    static String state(DrizzleVote x) {
        StringBuilder b = new StringBuilder();
        for (int what = 0; what < 15; what++) {
            b.append(x.count(what)).append(' ');
        }
        for (int member = 0; member < x.count(0); member++) {
            for (int what = 0; what < 6; what++) {
                b.append(what == 0 ? "\nmember" : "").append(' ').append(x.member(member, what));
            }
        }
        for (int motion = 0; motion < x.count(1); motion++) {
            for (int what = 0; what < 6; what++) {
                b.append(what == 0 ? "\nmotion" : "").append(' ').append(x.motion(motion, what));
            }
        }
        b.append("\nweights");
        for (int i = 0; i < 25; i++) {
            b.append(' ').append(x.follows(i / 5, i % 5));
        }
        b.append("\nexposed and paper");
        for (int i = 0; i < 8; i++) {
            b.append(' ').append(x.exposed(i));
        }
        for (int i = 0; i < 12; i++) {
            b.append(' ').append(x.paper(i));
        }
        for (int i = 0; i < x.count(13); i++) {
            for (int what = 0; what < 5; what++) {
                b.append(what == 0 ? "\nlog" : "").append(' ').append(x.log(i, what));
            }
        }
        return b.append("\nseed ").append(seedOf(x)).toString();
    }

    static int seedOf(DrizzleVote x) {
        int seed = x.seed(0);
        x.seed(seed);
        return seed;
    }

    /** The little of a state by which one act is told from another one. */
    private static String brief(DrizzleVote x) {
        StringBuilder b = new StringBuilder("\nbrief");
        for (int what : new int[] {0, 1, 2, 3, 4, 5, 6, 10, 11, 12, 13, 14}) {
            b.append(' ').append(x.count(what));
        }
        for (int member = 0; member < x.count(0); member++) {
            for (int what : new int[] {0, 1, 2, 5}) {
                b.append(' ').append(x.member(member, what));
            }
        }
        for (int hour = 0; hour < 12; hour++) {
            b.append(' ').append(x.paper(hour));
        }
        return b.append(' ').append(seedOf(x)).toString();
    }

    /** All that there is, the image and the acts too; the object is of no more use behind it. */
    static String everything(DrizzleVote x) {
        StringBuilder b = new StringBuilder("fault ").append(x.fault());
        b.append(", tape of ").append(taped(x)).append('\n').append(state(x));
        for (int i = 0; i < 13 && x.undo(); i++) {
            b.append(brief(x));
        }
        b.append("\nimage ").append(x.back()).append(brief(x));
        b.append("\nthe tape as a text: ").append(thrown(x, y -> y.coast())).append(brief(x));
        return b.toString();
    }

    /**
     * Three members (1 with a hat, 2 in), motions 0 carried, 1 lost, 2 lapsed, and 3 that waits and stands in hour 7;
     * it is hour 3, an image is kept, four acts are remembered, fault() is 4, the tape is "day 8".
     */
    static DrizzleVote world() {
        DrizzleVote x = council(ROUND + ";member at 1 seats 3;member at 2 seats 2 hat;member at 5 in;"
            + "motion of 0 takes 2 worth 10;motion of 1 takes 3 worth 12 for 011;"
            + "motion of 0 takes 1 worth 4 for 110;motion of 2 takes 9 worth 99;paper 0 0;paper 1 1|"
            + "paper 2 2;paper 5 3;place 1 exposed 4", "feel 1 if hat");
        x.hours(3);
        x.image();
        x.mind(0, 3);
        x.seat(1, 4);
        x.table(3, 7);
        tape(x, "now rain");
        thrown(x, y -> y.coast());
        tape(x, "day 8");
        return x;
    }

    /** The call throws, and all is behind it as it was ahead of it. */
    static void refused(Class<?> want, Call call) {
        refusedIn(Kit::world, want, call);
    }

    static void refusedIn(Making making, Class<?> want, Call call) {
        DrizzleVote x = making.make();
        dueThrow(want, x, call);
        sameAs(x, making.make());
    }

    /** The call answers so, and all is behind it as it was ahead of it. */
    static void asks(Object want, Call call) {
        DrizzleVote x = world();
        due(call.of(x), want);
        sameAs(x, world());
    }

    /** The call throws, and all is behind it as it was ahead of it, but that the tape is used up. */
    static void refusedTape(Class<?> want, int[] told, Call call) {
        DrizzleVote x = world();
        x.end(0);
        rows(x, told);
        dueThrow(want, x, call);
        DrizzleVote twin = world();
        twin.end(0);
        sameAs(x, twin);
    }

    static void sameAs(DrizzleVote x, DrizzleVote twin) {
        String got = everything(x);
        String want = everything(twin);
        if (!got.equals(want)) {
            fails("the state is not as it was, but\n" + got + "\ndue is\n" + want);
        }
    }
}
