import java.lang.reflect.InvocationTargetException;
import java.lang.reflect.Method;
import java.util.ArrayList;
import java.util.List;
import java.util.Random;

/** Random runs (of fixed seeds) in which every call must answer as the Oracle does. */
public final class RandomRunsTest {
    private final Random random;
    private final DrizzleVote x = new DrizzleVote();
    private final Oracle o = new Oracle();
    private final List<String> calls = new ArrayList<>();
    private int wrong;
    private int left = 512;

    private static final List<Method> FACE = face();

    private RandomRunsTest(int seed) {
        random = new Random(seed);
    }

    private static List<Method> face() {
        List<Method> all = new ArrayList<>();
        for (Method m : DrizzleVote.class.getDeclaredMethods()) {
            if (java.lang.reflect.Modifier.isPublic(m.getModifiers())) {
                all.add(m);
            }
        }
        all.sort((a, b) -> a.getName().compareTo(b.getName()));
        return all;
    }

    private static Method named(String name) {
        for (Method m : FACE) {
            if (m.getName().equals(name)) {
                return m;
            }
        }
        throw new AssertionError(name);
    }

    private static String answer(Object on, Method m, Object[] args) {
        try {
            return String.valueOf(on.getClass().getMethod(m.getName(), m.getParameterTypes()).invoke(on, args));
        } catch (InvocationTargetException e) {
            return "throws " + e.getCause().getClass().getSimpleName();
        } catch (ReflectiveOperationException e) {
            return "no such call " + m.getName();
        }
    }

    private void call(String name, Object... args) {
        if (left <= 0 || wrong > 0) {
            return;
        }
        left--;
        Method m = named(name);
        String mine = answer(x, m, args);
        String due = answer(o, m, args);
        calls.add(name + java.util.Arrays.toString(args) + " = " + due);
        if (!mine.equals(due)) {
            wrong++;
            System.out.println(String.join("\n", calls));
            System.out.println("  answered " + mine + ", due is " + due);
        }
    }

    private int pick(int n) {
        return random.nextInt(n);
    }

    private boolean maybe(int percent) {
        return pick(100) < percent;
    }

    private void tape(byte[] b) {
        for (int i = 0; i < b.length; i += 20) {
            int[] v = new int[5];
            for (int k = 0; k < 20; k++) {
                int one = i + k < b.length ? b[i + k] & 255 : 0;
                v[k / 4] |= one << 24 - k % 4 * 8;
            }
            call("feed", v[0], v[1], v[2], v[3], v[4]);
        }
        if (b.length % 20 != 0) {
            call("end", b.length);
        }
    }

    private byte[] bytes(String s) {
        byte[] b = new byte[Math.min(400, s.length())];
        for (int i = 0; i < b.length; i++) {
            b[i] = (byte) s.charAt(i);
        }
        return b;
    }

    private String spoilt(String s) {
        StringBuilder b = new StringBuilder(s);
        for (int n = 1 + pick(2); n > 0; n--) {
            int at = pick(b.length() + 1);
            String bits = "; ()<>+019 azor";
            switch (pick(4)) {
                case 0 -> b.insert(at, bits.charAt(pick(bits.length())));
                case 1 -> b.delete(at, Math.min(b.length(), at + 1 + pick(3)));
                case 2 -> b.setLength(at);
                default -> {
                    if (at < b.length()) {
                        b.setCharAt(at, bits.charAt(pick(bits.length())));
                    }
                }
            }
        }
        return b.toString();
    }

    private String blanks(String s) {
        StringBuilder b = new StringBuilder();
        for (String w : s.split("(?<=[^a-z0-9 ])|(?=[^a-z0-9 ])")) {
            b.append(w);
            if (maybe(10)) {
                b.append("   ", 0, pick(3));
            }
        }
        return b.toString();
    }

    private String kind() {
        return new String[] {"sun", "dry", "drizzle", "fog", "downpour"}[pick(5)];
    }

    private String figures(int n, int most) {
        StringBuilder b = new StringBuilder();
        for (int i = 0; i < n; i++) {
            b.append(maybe(30) ? 0 : pick(most + 1));
        }
        return b.toString();
    }

    private String coastLine(int[] there) {
        int m = there[0];
        switch (pick(14)) {
            case 0, 1, 2:
                if (m < 7 || maybe(5)) {
                    there[0]++;
                    return "member at " + pick(8) + (maybe(60) ? " seats " + pick(maybe(80) ? 6 : 22) : "")
                        + (maybe(20) ? " hat" : "") + (maybe(15) ? " in" : "");
                }
                return "quorum " + pick(6);
            case 3, 4, 5:
                if (m > 0 && there[1] < 8 || maybe(5)) {
                    there[1]++;
                    return "motion of " + pick(Math.max(1, m)) + " takes " + (1 + pick(9)) + " worth "
                        + pick(maybe(50) ? 100 : 12) + (maybe(50) ? " for " + figures(m, 1) : "");
                }
                return "aye " + (1 + pick(8));
            case 6, 7:
                return "sky " + kind() + " " + figures(5, maybe(50) ? 9 : 2);
            case 8:
                return "now " + kind();
            case 9:
                return "place " + pick(8) + " exposed " + pick(10);
            case 10:
                return maybe(50) ? "quorum " + pick(maybe(90) ? 4 : 10) : "aye " + pick(maybe(90) ? 8 : 22);
            case 11:
                return maybe(50) ? "wet " + pick(maybe(90) ? 8 : 22) : "day " + pick(maybe(90) ? 99 : 1002);
            case 12:
                return "hour " + pick(13);
            default:
                return "paper " + pick(12) + " " + pick(Math.max(1, there[1]));
        }
    }

    private String coastText() {
        int[] there = {intOf("count", 0), intOf("count", 1)};
        int n = pick(maybe(95) ? 11 : 16);
        StringBuilder b = new StringBuilder();
        for (int i = 0; i < n; i++) {
            b.append(i > 0 ? ";" : "").append(coastLine(there));
        }
        return blanks(b.toString());
    }

    private int intOf(String name, int what) {
        return Integer.parseInt(answer(o, named(name), new Object[] {what}));
    }

    private String sum() {
        String[] parts = {"member", "exposed", "seats", "sky", "hour", "motion", "worth"};
        StringBuilder b = new StringBuilder();
        do {
            b.append(b.length() > 0 ? "+" : "");
            b.append(maybe(40) ? "" + pick(maybe(90) ? 12 : 1100) : parts[pick(7)]);
        } while (maybe(25));
        return b.toString();
    }

    private String condition(int deep) {
        StringBuilder b = new StringBuilder();
        do {
            b.append(b.length() == 0 ? "" : maybe(50) ? " or " : " and ");
            int k = pick(9);
            if (k == 0 && deep < 7) {
                b.append("not ").append(maybe(50) ? "(" + condition(deep + 2) + ")" : "wet");
            } else if (k == 1 && deep < 7) {
                b.append("(").append(condition(deep + 1)).append(")");
            } else if (k < 5) {
                b.append(new String[] {"hat", "wet", "mover"}[pick(3)]);
            } else {
                b.append(sum()).append(maybe(50) ? "<" : ">").append(sum());
            }
        } while (maybe(30));
        return b.toString();
    }

    private String lawText() {
        int n = pick(maybe(95) ? 6 : 14);
        StringBuilder b = new StringBuilder();
        for (int i = 0; i < n; i++) {
            b.append(i > 0 ? ";" : "");
            int k = pick(5);
            b.append(k == 0 ? "lapse" : k < 3 ? "feel " + pick(maybe(95) ? 8 : 22) : "dull " + pick(6));
            if (maybe(n > 6 ? 20 : 80)) {
                b.append(" if ").append(condition(maybe(90) ? 4 : 0));
            }
        }
        return blanks(b.toString());
    }

    private void text(boolean coast) {
        String s = coast ? coastText() : lawText();
        if (maybe(25)) {
            s = spoilt(s);
        }
        tape(bytes(s));
        call(coast ? "coast" : "law");
        call("fault");
    }

    private void cuffs() {
        int n = pick(maybe(90) ? 5 : 18);
        byte[] b = new byte[3 * n];
        int m = Math.max(1, intOf("count", 0));
        for (int i = 0; i < n; i++) {
            b[3 * i] = (byte) pick(maybe(98) ? 12 : 14);
            b[3 * i + 1] = (byte) pick(maybe(98) ? m : 8);
            b[3 * i + 2] = (byte) pick(maybe(98) ? 2 : 3);
        }
        if (maybe(4)) {
            b = java.util.Arrays.copyOf(b, b.length + 1 + pick(2));
        }
        switch (pick(4)) {
            case 0 -> {
                tape(b);
                call("cuffs", maybe(50));
            }
            case 1 -> {
                tape(b);
                call("likely");
            }
            case 2 -> {
                tape(b);
                call("ago", maybe(95) ? pick(12) : pick(16) - 2);
            }
            default -> {
                tape(b);
                call("ask");
            }
        }
    }

    /** What the numbers of a call tell: m a member, o a motion, s a sky, h an hour, p a place. */
    private static String kinds(String name) {
        switch (name) {
            case "member", "hat", "out", "seat", "posts", "swings", "power":
                return "m";
            case "motion", "renew", "carries", "soonest", "when", "minds", "rests", "led":
                return "o";
            case "follows":
                return "ss";
            case "chance":
                return "s";
            case "exposed":
                return "p";
            case "paper", "clear", "best":
                return "h";
            case "felt":
                return "mso";
            case "goes":
                return "osh";
            case "table":
                return "oh";
            case "walk":
                return "mp";
            case "mind":
                return "mo";
            case "bargain", "like":
                return "mm";
            default:
                return "";
        }
    }

    private Object number(Class<?> type, String name, int at) {
        if (type == boolean.class) {
            return maybe(50);
        }
        if (maybe(2)) {
            return random.nextInt();
        }
        if (at < kinds(name).length() && maybe(92)) {
            char k = kinds(name).charAt(at);
            int n = k == 'm' ? intOf("count", 0) : k == 'o' ? intOf("count", 1) : k == 's' ? 5 : k == 'h' ? 12 : 8;
            return maybe(4) || n == 0 ? -1 : pick(n);
        }
        if (name.equals("hours") || name.equals("trial") || name.equals("span")) {
            return pick(maybe(80) ? 20 : 62);
        }
        if (name.equals("soonest") && at == 1) {
            return pick(10002);
        }
        if (name.equals("shower") || name.equals("seat") && at == 1 || name.equals("carries") && at == 1) {
            return pick(24);
        }
        if (name.equals("wins") || name.equals("seed")) {
            return pick(257) - 1;
        }
        return pick(maybe(90) ? 7 : 17) - (maybe(20) ? 1 : 0);
    }

    private void anyCall() {
        Method m = FACE.get(pick(FACE.size()));
        String name = m.getName();
        if (name.equals("feed") || name.equals("coast") || name.equals("law")) {
            return;
        }
        if (name.equals("cuffs") || name.equals("likely") || name.equals("ago") || name.equals("ask")) {
            cuffs();
            return;
        }
        Class<?>[] types = m.getParameterTypes();
        Object[] args = new Object[types.length];
        for (int i = 0; i < args.length; i++) {
            args[i] = number(types[i], name, i);
        }
        call(name, args);
    }

    private void counts() {
        for (int i = 0; i < 15; i++) {
            call("count", i);
        }
    }

    private int run() {
        if (maybe(50)) {
            tape(bytes("member at " + pick(8) + " seats " + pick(6) + ";member at " + pick(8) + ";member at "
                + pick(8) + ";motion of 0 takes 2 worth " + pick(40) + " for 1" + pick(2) + "1;motion of 1 takes 1"
                + " worth " + pick(40) + ";motion of 2 takes 3 worth " + pick(40) + ";paper 0 0;paper 3 1;paper 5 2"));
            call("coast");
        }
        while (left > 0 && wrong == 0) {
            int k = pick(100);
            if (k < 4) {
                text(true);
            } else if (k < 6) {
                text(false);
            } else if (k < 8) {
                counts();
            } else {
                anyCall();
            }
        }
        return wrong;
    }

    public static void main(String[] args) {
        int runs = args.length > 0 ? Integer.parseInt(args[0]) : 150;
        int first = args.length > 1 ? Integer.parseInt(args[1]) : 1;
        for (int i = first; i < first + runs; i++) {
            if (new RandomRunsTest(i).run() > 0) {
                System.out.println("random run " + i + " is not as due");
                System.exit(1);
            }
        }
        System.out.println(runs + " random runs are as due");
    }
}
