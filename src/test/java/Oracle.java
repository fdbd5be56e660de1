import java.util.ArrayList;
import java.util.Arrays;
import java.util.Collections;
import java.util.List;
import java.util.NoSuchElementException;
import java.util.function.Predicate;
import java.util.function.ToIntFunction;

/** The document again, written another way (trees, lists, trying out all), to compare answers with. */
public final class Oracle {
    static final class Wrong extends Exception {
        final int at;

        Wrong(int at) {
            super(null, null, false, false);
            this.at = at;
        }
    }

    record Facts(S s, int member, int sky, int motion, int hour) {
        int worth() {
            return motion < 0 ? 0 : s.motions.get(motion).worth;
        }

        boolean mover() {
            return motion >= 0 && s.motions.get(motion).mover == member;
        }
    }

    record Line(String kind, int n, Predicate<Facts> holds) {
    }

    record Row(int day, int hour, int motion, int sky, int state) {
    }

    static final class Member implements Cloneable {
        int place;
        int seats = 1;
        boolean hat;
        boolean out = true;

        public Member clone() {
            try {
                return (Member) super.clone();
            } catch (CloneNotSupportedException e) {
                throw new AssertionError(e);
            }
        }
    }

    static final class Motion implements Cloneable {
        int mover;
        int takes;
        int worth;
        int fors;
        int state;

        public Motion clone() {
            try {
                return (Motion) super.clone();
            } catch (CloneNotSupportedException e) {
                throw new AssertionError(e);
            }
        }
    }

    static final class S {
        int[][] weights = new int[5][5];
        int[] exposed = new int[8];
        List<Member> members = new ArrayList<>();
        List<Motion> motions = new ArrayList<>();
        Integer[] paper = new Integer[12];
        int sky = 1;
        int hour;
        int day;
        int quorum = 1;
        int aye = 3;
        int wet = 3;
        int seed = 1;
        int texts;
        List<Line> law;
        List<Row> log = new ArrayList<>();

        S() {
            for (int[] w : weights) {
                Arrays.fill(w, 1);
            }
            Arrays.fill(exposed, 5);
        }

        S copy() {
            S t = new S();
            for (int i = 0; i < 5; i++) {
                t.weights[i] = weights[i].clone();
            }
            t.exposed = exposed.clone();
            for (Member m : members) {
                t.members.add(m.clone());
            }
            for (Motion m : motions) {
                t.motions.add(m.clone());
            }
            t.paper = paper.clone();
            t.sky = sky;
            t.hour = hour;
            t.day = day;
            t.quorum = quorum;
            t.aye = aye;
            t.wet = wet;
            t.seed = seed;
            t.texts = texts;
            t.law = law;
            t.log = new ArrayList<>(log);
            return t;
        }

        int outs() {
            int set = 0;
            for (int i = 0; i < members.size(); i++) {
                if (members.get(i).out) {
                    set |= 1 << i;
                }
            }
            return set;
        }

        int felt(int m, int sky, int motion, int hour) {
            Member x = members.get(m);
            int sum = sky == 2 && x.out ? exposed[x.place] : 0;
            if (law == null) {
                return x.hat ? 0 : sum;
            }
            Facts f = new Facts(this, m, sky, motion, hour);
            for (Line l : law) {
                if (!l.kind.equals("lapse") && l.holds.test(f)) {
                    sum += l.kind.equals("feel") ? l.n : -l.n;
                }
            }
            return sum < 0 ? 0 : sum > 20 ? 20 : sum;
        }

        int goes(int motion, int sky, int hour) {
            Motion x = motions.get(motion);
            boolean lapses = sky == 0;
            if (law != null && law.stream().anyMatch(l -> l.kind.equals("lapse"))) {
                Facts f = new Facts(this, x.mover, sky, motion, hour);
                lapses = law.stream().anyMatch(l -> l.kind.equals("lapse") && l.holds.test(f));
            }
            if (lapses) {
                return 3;
            }
            if (members.stream().filter(m -> m.out).count() < quorum) {
                return 2;
            }
            boolean keen = felt(x.mover, sky, motion, hour) >= aye;
            int balance = 0;
            for (int i = 0; i < members.size(); i++) {
                if (members.get(i).out) {
                    balance += (x.fors >> i & 1) == 1 ? members.get(i).seats : -members.get(i).seats;
                }
            }
            if (keen) {
                balance += wet;
            } else if (sky == 2) {
                balance -= wet;
            }
            if (balance == 0) {
                return keen ? 1 : 2;
            }
            return balance > 0 ? 1 : 2;
        }

        int anHour() {
            seed = (int) (1103515245L * seed + 12345L);
            int draw = (seed >> 16) & 0x7fff;
            int total = Arrays.stream(weights[sky]).sum();
            List<Integer> urn = new ArrayList<>();
            for (int t = 0; t < 5; t++) {
                for (int k = 0; k < weights[sky][t]; k++) {
                    urn.add(t);
                }
            }
            sky = urn.get(draw % total);
            int state = 0;
            Integer up = paper[hour];
            if (up != null && motions.get(up).state == 0) {
                state = goes(up, sky, hour);
                motions.get(up).state = state;
                log.add(new Row(day, hour, up, sky, state));
                while (log.size() > 60) {
                    log.remove(0);
                }
            }
            hour++;
            if (hour == 12) {
                hour = 0;
                if (day < 9999) {
                    day++;
                }
            }
            return state;
        }

        int[] chances(int n, boolean dry) {
            int[] has = new int[5];
            has[sky] = 10000;
            for (int i = 0; i < n; i++) {
                int[] then = new int[5];
                for (int a = 0; a < 5; a++) {
                    int total = Arrays.stream(weights[a]).sum();
                    int given = 0;
                    for (int b = 0; b < 5; b++) {
                        int g = has[a] * weights[a][b] / total;
                        then[b] += g;
                        given += g;
                    }
                    int top = Arrays.stream(weights[a]).max().getAsInt();
                    int first = 0;
                    while (weights[a][first] != top) {
                        first++;
                    }
                    then[first] += has[a] - given;
                }
                if (dry) {
                    then[2] = 0;
                }
                has = then;
            }
            return has;
        }

        int carries(int motion, int n) {
            int[] c = chances(n, false);
            int sum = 0;
            for (int k = 0; k < 5; k++) {
                if (goes(motion, k, (hour + n - 1) % 12) == 1) {
                    sum += c[k];
                }
            }
            return sum;
        }

        int dry(int n) {
            int[] c = chances(n, true);
            return c[0] + c[1] + c[3] + c[4];
        }

        int state(int which) {
            int set = 0;
            for (int i = 0; i < motions.size(); i++) {
                if (motions.get(i).state == which) {
                    set |= 1 << i;
                }
            }
            return set;
        }

        int worthOf(int set) {
            int sum = 0;
            for (int i = 0; i < motions.size(); i++) {
                sum += (set >> i & 1) == 1 ? motions.get(i).worth : 0;
            }
            return sum;
        }
    }

    // ---- reading

    static final class Reader {
        final byte[] t;
        int at;
        int stop;

        Reader(byte[] t) {
            this.t = t;
            next();
        }

        private static int kind(int c) {
            return Character.isDigit(c) && c < 128 ? 1 : c >= 97 && c <= 122 ? 2 : 0;
        }

        void next() {
            at = stop;
            while (at < t.length && t[at] == 32) {
                at++;
            }
            stop = at;
            if (at == t.length) {
                return;
            }
            int k = kind(t[at] & 255);
            do {
                stop++;
            } while (k != 0 && stop < t.length && kind(t[stop] & 255) == k);
        }

        String here() {
            StringBuilder b = new StringBuilder();
            for (int i = at; i < stop; i++) {
                b.append((char) (t[i] & 255));
            }
            return b.toString();
        }

        boolean done() {
            return at == t.length;
        }

        boolean is(String w) {
            return here().equals(w);
        }

        boolean take(String w) {
            if (is(w)) {
                next();
                return true;
            }
            return false;
        }

        void need(String w) throws Wrong {
            if (!take(w)) {
                throw new Wrong(at);
            }
        }

        int number(int low, int high) throws Wrong {
            String w = here();
            if (!w.matches("[0-9]{1,3}") || Integer.parseInt(w) < low || Integer.parseInt(w) > high) {
                throw new Wrong(at);
            }
            next();
            return Integer.parseInt(w);
        }

        int oneOf(String... words) throws Wrong {
            int i = Arrays.asList(words).indexOf(here());
            if (i < 0) {
                throw new Wrong(at);
            }
            next();
            return i;
        }

        String figures(String pattern) throws Wrong {
            String w = here();
            if (!w.matches(pattern)) {
                throw new Wrong(at);
            }
            next();
            return w;
        }
    }

    static S readCoast(S from, byte[] text) throws Wrong {
        S s = from.copy();
        Reader r = new Reader(text);
        if (r.done()) {
            return s;
        }
        int lines = 0;
        do {
            if (lines++ == 14) {
                throw new Wrong(r.at);
            }
            coastLine(s, r);
            if (!r.done() && !r.is(";")) {
                throw new Wrong(r.at);
            }
        } while (r.take(";"));
        return s;
    }

    static void coastLine(S s, Reader r) throws Wrong {
        String w = r.here();
        int begin = r.at;
        String all = " member motion sky now place quorum aye wet paper hour day ";
        if (w.isEmpty() || !all.contains(" " + w + " ")) {
            throw new Wrong(begin);
        }
        if (w.equals("member") && s.members.size() == 7 || w.equals("motion") && s.motions.size() == 8) {
            throw new Wrong(begin);
        }
        r.next();
        switch (w) {
            case "member" -> {
                Member m = new Member();
                r.need("at");
                m.place = r.number(0, 7);
                if (r.take("seats")) {
                    m.seats = r.number(0, 20);
                }
                m.hat = r.take("hat");
                m.out = !r.take("in");
                s.members.add(m);
            }
            case "motion" -> {
                Motion m = new Motion();
                r.need("of");
                m.mover = r.number(0, s.members.size() - 1);
                r.need("takes");
                m.takes = r.number(1, 9);
                r.need("worth");
                m.worth = r.number(0, 99);
                m.fors = 1 << m.mover;
                if (r.take("for")) {
                    String f = r.figures("[01]{" + s.members.size() + "}");
                    m.fors = Integer.parseInt(new StringBuilder(f).reverse().toString(), 2);
                }
                s.motions.add(m);
            }
            case "sky" -> {
                int k = r.oneOf("sun", "dry", "drizzle", "fog", "downpour");
                String f = r.figures("(?!00000)[0-9]{5}");
                for (int i = 0; i < 5; i++) {
                    s.weights[k][i] = f.charAt(i) - '0';
                }
            }
            case "now" -> s.sky = r.oneOf("sun", "dry", "drizzle", "fog", "downpour");
            case "place" -> {
                int p = r.number(0, 7);
                r.need("exposed");
                s.exposed[p] = r.number(0, 9);
            }
            case "quorum" -> s.quorum = r.number(0, 8);
            case "aye" -> s.aye = r.number(1, 20);
            case "wet" -> s.wet = r.number(0, 20);
            case "paper" -> {
                int h = r.number(0, 11);
                int where = r.at;
                int m = r.number(0, s.motions.size() - 1);
                for (int i = 0; i < 12; i++) {
                    if (i != h && s.paper[i] != null && s.paper[i] == m) {
                        throw new Wrong(where);
                    }
                }
                s.paper[h] = m;
            }
            case "hour" -> s.hour = r.number(0, 11);
            default -> s.day = r.number(0, 999);
        }
    }

    static List<Line> readLaw(byte[] text) throws Wrong {
        List<Line> lines = new ArrayList<>();
        Reader r = new Reader(text);
        if (r.done()) {
            return lines;
        }
        do {
            if (lines.size() == 12) {
                throw new Wrong(r.at);
            }
            String kind = new String[] {"feel", "dull", "lapse"}[r.oneOf("feel", "dull", "lapse")];
            int n = kind.equals("lapse") ? 0 : r.number(0, 20);
            Predicate<Facts> c = f -> true;
            if (r.take("if")) {
                c = cond(r, 0);
            }
            lines.add(new Line(kind, n, c));
            if (!r.done() && !r.is(";")) {
                throw new Wrong(r.at);
            }
        } while (r.take(";"));
        return lines;
    }

    static Predicate<Facts> cond(Reader r, int deep) throws Wrong {
        Predicate<Facts> p = conj(r, deep);
        while (r.take("or")) {
            p = p.or(conj(r, deep));
        }
        return p;
    }

    static Predicate<Facts> conj(Reader r, int deep) throws Wrong {
        Predicate<Facts> p = atom(r, deep);
        while (r.take("and")) {
            p = p.and(atom(r, deep));
        }
        return p;
    }

    static Predicate<Facts> atom(Reader r, int deep) throws Wrong {
        if ((r.is("not") || r.is("(")) && deep == 6) {
            throw new Wrong(r.at);
        }
        if (r.take("not")) {
            return atom(r, deep + 1).negate();
        }
        if (r.take("(")) {
            Predicate<Facts> p = cond(r, deep + 1);
            r.need(")");
            return p;
        }
        if (r.take("hat")) {
            return f -> f.s.members.get(f.member).hat;
        }
        if (r.take("wet")) {
            return f -> f.sky == 2 || f.sky == 3 || f.sky == 4;
        }
        if (r.take("mover")) {
            return Facts::mover;
        }
        ToIntFunction<Facts> a = sum(r);
        boolean less = r.oneOf("<", ">") == 0;
        ToIntFunction<Facts> b = sum(r);
        return f -> less ? a.applyAsInt(f) < b.applyAsInt(f) : a.applyAsInt(f) > b.applyAsInt(f);
    }

    static ToIntFunction<Facts> sum(Reader r) throws Wrong {
        List<ToIntFunction<Facts>> parts = new ArrayList<>();
        do {
            parts.add(part(r));
        } while (r.take("+"));
        return f -> parts.stream().mapToInt(p -> p.applyAsInt(f)).sum();
    }

    static ToIntFunction<Facts> part(Reader r) throws Wrong {
        if (r.here().matches("[0-9]+")) {
            int n = r.number(0, 999);
            return f -> n;
        }
        switch (r.oneOf("member", "exposed", "seats", "sky", "hour", "motion", "worth")) {
            case 0:
                return f -> f.member;
            case 1:
                return f -> f.s.exposed[f.s.members.get(f.member).place];
            case 2:
                return f -> f.s.members.get(f.member).seats;
            case 3:
                return f -> f.sky;
            case 4:
                return f -> f.hour;
            case 5:
                return f -> f.motion < 0 ? 8 : f.motion;
            default:
                return Facts::worth;
        }
    }

    // ---- the face

    private List<Byte> tape = new ArrayList<>();
    private int fault = -1;
    private S now = new S();
    private S image;
    private List<S> past = new ArrayList<>();

    private byte[] useTape() {
        byte[] b = new byte[tape.size()];
        for (int i = 0; i < b.length; i++) {
            b[i] = tape.get(i);
        }
        tape.clear();
        return b;
    }

    private void act() {
        past.add(now.copy());
        if (past.size() > 12) {
            past.remove(0);
        }
    }

    private void index(boolean there) {
        if (!there) {
            throw new IndexOutOfBoundsException();
        }
    }

    private void member(int m) {
        index(m >= 0 && m < now.members.size());
    }

    private void motion(int m) {
        index(m >= 0 && m < now.motions.size());
    }

    private void sky(int k) {
        index(k >= 0 && k < 5);
    }

    private void hour(int h) {
        index(h >= 0 && h < 12);
    }

    private void number(boolean is) {
        if (!is) {
            throw new IllegalArgumentException();
        }
    }

    private void state(boolean is) {
        if (!is) {
            throw new IllegalStateException();
        }
    }

    public int feed(int a, int b, int c, int d, int e) {
        if (tape.size() > 380) {
            return -1;
        }
        for (int n : new int[] {a, b, c, d, e}) {
            for (byte x : java.nio.ByteBuffer.allocate(4).putInt(n).array()) {
                tape.add(x);
            }
        }
        return tape.size();
    }

    public boolean end(int n) {
        if (n < 0 || n > tape.size()) {
            return false;
        }
        tape = new ArrayList<>(tape.subList(0, n));
        return true;
    }

    public int coast() {
        fault = -1;
        S s;
        try {
            s = readCoast(now, useTape());
        } catch (Wrong w) {
            fault = w.at;
            throw new IllegalArgumentException();
        }
        if (now.texts == 12) {
            throw new UnsupportedOperationException();
        }
        now = s;
        past.clear();
        return ++now.texts;
    }

    public int law() {
        fault = -1;
        try {
            now.law = readLaw(useTape());
        } catch (Wrong w) {
            fault = w.at;
            throw new IllegalArgumentException();
        }
        past.clear();
        return now.law.size();
    }

    public int fault() {
        return fault;
    }

    public int member(int member, int what) {
        member(member);
        Member m = now.members.get(member);
        if (what < 0 || what > 5) {
            throw new NoSuchElementException();
        }
        int all = 0;
        for (Member x : now.members) {
            all += x.out ? x.seats : 0;
        }
        int likes = 0;
        for (int i = 0; i < now.motions.size(); i++) {
            likes += (now.motions.get(i).fors >> member & 1) << i;
        }
        int share = m.out && all > 0 ? m.seats * 100 / all : 0;
        return new int[] {m.place, m.seats, m.hat ? 1 : 0, m.out ? 1 : 0, share, likes}[what];
    }

    public int motion(int motion, int what) {
        motion(motion);
        Motion m = now.motions.get(motion);
        if (what < 0 || what > 5) {
            throw new NoSuchElementException();
        }
        int stands = Arrays.asList(now.paper).indexOf(motion);
        return new int[] {m.mover, m.takes, m.worth, m.fors, m.state, stands}[what];
    }

    public int follows(int sky, int next) {
        sky(sky);
        sky(next);
        return now.weights[sky][next];
    }

    public int exposed(int place) {
        index(place >= 0 && place < 8);
        return now.exposed[place];
    }

    public int paper(int hour) {
        hour(hour);
        return now.paper[hour] == null ? -1 : now.paper[hour];
    }

    public int felt(int member, int sky, int motion) {
        member(member);
        sky(sky);
        index(motion >= -1 && motion < now.motions.size());
        return now.felt(member, sky, motion, now.hour);
    }

    public int goes(int motion, int sky, int hour) {
        motion(motion);
        sky(sky);
        hour(hour);
        return now.goes(motion, sky, hour);
    }

    public int hours(int n) {
        number(n >= 1 && n <= 60);
        act();
        int before = Integer.bitCount(now.state(1));
        for (int i = 0; i < n; i++) {
            now.anHour();
        }
        return Integer.bitCount(now.state(1)) - before;
    }

    public int table(int motion, int hour) {
        motion(motion);
        hour(hour);
        state(now.motions.get(motion).state == 0);
        act();
        int stood = paper(hour);
        for (int i = 0; i < 12; i++) {
            if (now.paper[i] != null && now.paper[i] == motion) {
                now.paper[i] = null;
            }
        }
        now.paper[hour] = motion;
        return stood;
    }

    public int clear(int hour) {
        hour(hour);
        state(now.paper[hour] != null);
        act();
        int stood = now.paper[hour];
        now.paper[hour] = null;
        return stood;
    }

    public boolean hat(int member, boolean is) {
        member(member);
        act();
        boolean changed = now.members.get(member).hat != is;
        now.members.get(member).hat = is;
        return changed;
    }

    public boolean out(int member, boolean is) {
        member(member);
        act();
        boolean changed = now.members.get(member).out != is;
        now.members.get(member).out = is;
        return changed;
    }

    public int walk(int member, int place) {
        member(member);
        index(place >= 0 && place <= 7);
        act();
        int was = now.members.get(member).place;
        now.members.get(member).place = place;
        return was;
    }

    public boolean mind(int member, int motion) {
        member(member);
        motion(motion);
        state(now.motions.get(motion).state == 0);
        act();
        Motion m = now.motions.get(motion);
        boolean isFor = (m.fors >> member) % 2 == 1;
        m.fors += isFor ? -(1 << member) : 1 << member;
        return !isFor;
    }

    public int seat(int member, int n) {
        member(member);
        number(n >= 0 && n <= 20);
        act();
        int was = now.members.get(member).seats;
        now.members.get(member).seats = n;
        return was;
    }

    public int renew(int motion) {
        motion(motion);
        int was = now.motions.get(motion).state;
        state(was == 2 || was == 3);
        act();
        now.motions.get(motion).state = 0;
        return was;
    }

    public int chance(int sky, int n) {
        sky(sky);
        number(n >= 0 && n <= 24);
        return now.chances(n, false)[sky];
    }

    public int carries(int motion, int n) {
        motion(motion);
        number(n >= 1 && n <= 24);
        return now.carries(motion, n);
    }

    public int soonest(int motion, int x) {
        motion(motion);
        number(x >= 0 && x <= 10000);
        for (int n = 1; n < 25; n++) {
            if (now.carries(motion, n) >= x) {
                return n;
            }
        }
        return -1;
    }

    public int when(int motion) {
        motion(motion);
        List<Integer> all = new ArrayList<>();
        for (int n = 1; n < 25; n++) {
            all.add(now.carries(motion, n));
        }
        return 1 + all.indexOf(Collections.max(all));
    }

    public int worst() {
        List<Integer> all = new ArrayList<>();
        for (int k = 0; k < 5; k++) {
            int c = 0;
            for (int i = 0; i < now.motions.size(); i++) {
                if (now.motions.get(i).state == 0 && now.goes(i, k, now.hour) == 1) {
                    c++;
                }
            }
            all.add(c);
        }
        return all.indexOf(Collections.min(all));
    }

    private int bestSum;
    private int[] bestWay;

    /** Tries every way, in the order in which the first one is the least. */
    private void tryWays(int h, int[] way, int used, int sum, int[][] gain) {
        if (h == 12) {
            if (sum > bestSum) {
                bestSum = sum;
                bestWay = way.clone();
            }
            return;
        }
        int[] top = new int[now.motions.size()];
        int hope = sum;
        for (int i = 0; i < top.length; i++) {
            if ((used >> i & 1) == 0 && now.motions.get(i).state == 0) {
                for (int k = h; k < 12; k++) {
                    top[i] = Math.max(top[i], gain[k][i]);
                }
                hope += top[i];
            }
        }
        if (hope <= bestSum) {
            return;
        }
        way[h] = -1;
        tryWays(h + 1, way, used, sum, gain);
        for (int i = 0; i < top.length; i++) {
            if ((used >> i & 1) == 0 && now.motions.get(i).state == 0) {
                way[h] = i;
                tryWays(h + 1, way, used | 1 << i, sum + gain[h][i], gain);
            }
        }
        way[h] = -1;
    }

    public int best(int hour) {
        index(hour >= -1 && hour < 12);
        int[][] gain = new int[12][now.motions.size()];
        for (int h = now.hour; h < 12; h++) {
            for (int i = 0; i < now.motions.size(); i++) {
                gain[h][i] = now.carries(i, h - now.hour + 1) * now.motions.get(i).worth;
            }
        }
        bestSum = -1;
        int[] way = new int[12];
        Arrays.fill(way, -1);
        tryWays(now.hour, way, 0, 0, gain);
        return hour == -1 ? bestSum / 10000 : bestWay[hour];
    }

    public int shower(int h, boolean worth) {
        number(h >= 0 && h <= 40);
        int best = 0;
        for (int set = 0; set < 1 << now.motions.size(); set++) {
            int takes = 0;
            boolean fits = true;
            for (int i = 0; i < now.motions.size(); i++) {
                if ((set >> i & 1) == 1) {
                    takes += now.motions.get(i).takes;
                    fits &= now.motions.get(i).state == 0 && now.goes(i, 2, now.hour) == 1;
                }
            }
            if (fits && takes <= h && now.worthOf(set) > now.worthOf(best)) {
                best = set;
            }
        }
        return worth ? now.worthOf(best) : best;
    }

    public int haste(int k) {
        List<Integer> all = new ArrayList<>();
        for (int i = 0; i < now.motions.size(); i++) {
            if (now.motions.get(i).state == 0) {
                all.add(i);
            }
        }
        // 2520 is a multiple of all hours that a motion can take
        all.sort((a, b) -> {
            Motion x = now.motions.get(a);
            Motion y = now.motions.get(b);
            return Integer.compare(2520 / y.takes * y.worth, 2520 / x.takes * x.worth);
        });
        return k >= 0 && k < all.size() ? all.get(k) : -1;
    }

    private List<int[]> rows() {
        byte[] b = useTape();
        List<int[]> rows = new ArrayList<>();
        number(b.length % 3 == 0 && b.length <= 45);
        for (int i = 0; i < b.length; i += 3) {
            number(b[i] >= 0 && b[i] <= 11 && b[i + 1] >= 0 && b[i + 1] < now.members.size());
            number(b[i + 2] == 0 || b[i + 2] == 1);
            rows.add(new int[] {b[i], b[i + 1], b[i + 2]});
        }
        return rows;
    }

    private boolean fits(List<int[]> rows, int ago, int sky) {
        for (int[] r : rows) {
            if (r[0] == ago && now.felt(r[1], sky, -1, now.hour) > 0 != (r[2] == 1)) {
                return false;
            }
        }
        return true;
    }

    /** Rows of skies from one on till now, remembered by the sky now; wet tells the hour that must be drizzle. */
    private long[] behind(List<int[]> rows, int ago, int sky, int wet, long[][][] memo) {
        if (memo[ago][sky] == null) {
            long[] sum = new long[5];
            if (fits(rows, ago, sky) && (ago != wet || sky == 2)) {
                if (ago == 0) {
                    sum[sky] = 1;
                } else {
                    for (int t = 0; t < 5; t++) {
                        if (now.weights[sky][t] > 0) {
                            long[] s = behind(rows, ago - 1, t, wet, memo);
                            for (int i = 0; i < 5; i++) {
                                sum[i] += s[i];
                            }
                        }
                    }
                }
            }
            memo[ago][sky] = sum;
        }
        return memo[ago][sky];
    }

    private long[] ways(List<int[]> rows, int wet) {
        long[] sum = new long[5];
        long[][][] memo = new long[12][5][];
        for (int k = 0; k < 5; k++) {
            long[] s = behind(rows, 11, k, wet, memo);
            for (int i = 0; i < 5; i++) {
                sum[i] += s[i];
            }
        }
        return sum;
    }

    public int cuffs(boolean ways) {
        long[] w = ways(rows(), -1);
        int set = 0;
        for (int i = 0; i < 5; i++) {
            set |= w[i] > 0 ? 1 << i : 0;
        }
        return ways ? (int) Math.min(9999, Arrays.stream(w).sum()) : set;
    }

    public int likely() {
        long[] w = ways(rows(), -1);
        int best = -1;
        for (int i = 4; i >= 0; i--) {
            if (w[i] > 0 && (best < 0 || w[i] >= w[best])) {
                best = i;
            }
        }
        return best;
    }

    public int ago(int n) {
        List<int[]> rows = rows();
        number(n >= 0 && n <= 11);
        long all = Arrays.stream(ways(rows, -1)).sum();
        long wet = Arrays.stream(ways(rows, n)).sum();
        return all == 0 ? -1 : wet == all ? 1 : wet == 0 ? 0 : -1;
    }

    public int ask() {
        long[] w = ways(rows(), -1);
        int best = -1;
        int least = 99;
        for (int m = 0; m < now.members.size(); m++) {
            int wet = 0;
            int dry = 0;
            for (int k = 0; k < 5; k++) {
                if (w[k] > 0) {
                    if (now.felt(m, k, -1, now.hour) > 0) {
                        wet++;
                    } else {
                        dry++;
                    }
                }
            }
            if (wet + dry >= 2 && Math.max(wet, dry) < least) {
                least = Math.max(wet, dry);
                best = m;
            }
        }
        return best;
    }

    public int windows() {
        int best = (1 << now.members.size()) - 1;
        for (int set = best; set >= 0; set--) {
            boolean all = true;
            for (Member m : now.members) {
                boolean seen = false;
                for (int i = 0; i < now.members.size(); i++) {
                    seen |= (set >> i & 1) == 1 && Math.abs(now.members.get(i).place - m.place) <= 1;
                }
                all &= seen;
            }
            if (all && Integer.bitCount(set) <= Integer.bitCount(best)) {
                best = set;
            }
        }
        return best;
    }

    private void tryPosts(int m, int[] way, int used, int sum) {
        if (m == now.members.size()) {
            if (sum > bestSum) {
                bestSum = sum;
                bestWay = way.clone();
            }
            return;
        }
        for (int p = 0; p < 8; p++) {
            if ((used >> p & 1) == 0) {
                way[m] = p;
                tryPosts(m + 1, way, used | 1 << p, sum + now.exposed[p] * now.members.get(m).seats);
            }
        }
    }

    public int posts(int member) {
        index(member >= -1 && member < now.members.size());
        bestSum = -1;
        tryPosts(0, new int[7], 0, 0);
        return member == -1 ? bestSum : bestWay[member];
    }

    private int weight(int side) {
        int sum = (side >> 7 & 1) * now.wet;
        for (int i = 0; i < now.members.size(); i++) {
            sum += now.members.get(i).out && (side >> i & 1) == 1 ? now.members.get(i).seats : 0;
        }
        return sum;
    }

    public boolean wins(int side) {
        return weight(side) > weight(~side);
    }

    private List<Integer> sides() {
        List<Integer> all = new ArrayList<>();
        int present = now.outs() | 128;
        for (int s = 0; s < 256; s++) {
            if ((s & present) == s) {
                all.add(s);
            }
        }
        return all;
    }

    public int swings(int member) {
        if (member != 7) {
            member(member);
        }
        int n = 0;
        for (int s : sides()) {
            if ((s >> member & 1) == 1 && wins(s) && !wins(s & ~(1 << member))) {
                n++;
            }
        }
        return n;
    }

    public int power(int member) {
        int mine = swings(member);
        int all = 0;
        for (int i = 0; i < now.members.size(); i++) {
            all += swings(i);
        }
        all += swings(7);
        return all == 0 ? 0 : mine * 100 / all;
    }

    public int minimal() {
        int n = 0;
        for (int s : sides()) {
            boolean is = wins(s);
            for (int i = 0; i < 8; i++) {
                if ((s >> i & 1) == 1 && wins(s & ~(1 << i))) {
                    is = false;
                }
            }
            n += is ? 1 : 0;
        }
        return n;
    }

    public int leader() {
        int best = -1;
        int most = 0;
        for (int i = 0; i < 8; i++) {
            if ((i < now.members.size() || i == 7) && swings(i) > most) {
                most = swings(i);
                best = i;
            }
        }
        return best;
    }

    public int minds(int motion) {
        motion(motion);
        int best = -1;
        for (int set = 127; set >= 0; set--) {
            if ((set & now.outs()) == set) {
                S s = now.copy();
                s.motions.get(motion).fors ^= set;
                boolean is = s.goes(motion, 2, s.hour) == 1;
                if (is && (best < 0 || Integer.bitCount(set) <= Integer.bitCount(best))) {
                    best = set;
                }
            }
        }
        return best;
    }

    public int bargain(int member, int other) {
        member(member);
        member(other);
        number(member != other);
        for (int key = 0; key < 64; key++) {
            int a = key / 8;
            int b = key % 8;
            if (a >= now.motions.size() || b >= now.motions.size()) {
                continue;
            }
            Motion x = now.motions.get(a);
            Motion y = now.motions.get(b);
            boolean fits = x.state == 0 && y.state == 0 && (x.fors >> member & 1) == 1 && (x.fors >> other & 1) == 0
                && (y.fors >> other & 1) == 1 && (y.fors >> member & 1) == 0;
            S s = now.copy();
            s.motions.get(a).fors |= 1 << member | 1 << other;
            s.motions.get(b).fors |= 1 << member | 1 << other;
            boolean then = s.goes(a, 2, s.hour) == 1 && s.goes(b, 2, s.hour) == 1;
            boolean already = now.goes(a, 2, now.hour) == 1 && now.goes(b, 2, now.hour) == 1;
            if (fits && then && !already) {
                return key;
            }
        }
        return -1;
    }

    public int like(int member, int other) {
        member(member);
        member(other);
        number(member != other);
        int n = 0;
        for (Motion m : now.motions) {
            if ((m.fors >> member & 1) == (m.fors >> other & 1)) {
                n++;
            }
        }
        return n;
    }

    public int foes() {
        int best = -1;
        int least = 99;
        for (int a = 0; a < now.members.size(); a++) {
            for (int b = a + 1; b < now.members.size(); b++) {
                if (like(a, b) < least) {
                    least = like(a, b);
                    best = 8 * a + b;
                }
            }
        }
        return best;
    }

    public int dry(int n) {
        number(n >= 0 && n <= 12);
        return now.dry(n);
    }

    public int drought(int n) {
        number(n >= 0 && n <= 12);
        int x = 10000;
        for (int i = 0; i < n; i++) {
            x = (int) ((long) x * now.dry(12) / 10000);
        }
        return x;
    }

    public boolean quorate() {
        return !(Integer.bitCount(now.outs()) < now.quorum);
    }

    public int enough() {
        for (int n = 0; n < 13; n++) {
            if (now.dry(n) < 5000) {
                return n;
            }
        }
        return -1;
    }

    public int rests(int motion) {
        motion(motion);
        Motion m = now.motions.get(motion);
        if (m.state != 0) {
            return -1;
        }
        int[][] mover = new int[2][2];
        int[][] opposition = new int[2][2];
        for (int goesIn = 0; goesIn < 2; goesIn++) {
            S s = now.copy();
            for (int i = 0; i < s.members.size(); i++) {
                if (goesIn == 1 && (m.fors >> i & 1) == 0) {
                    s.members.get(i).out = false;
                }
            }
            mover[0][goesIn] = s.goes(motion, s.sky, s.hour) == 1 ? m.worth : -5;
            opposition[0][goesIn] = -mover[0][goesIn];
            opposition[1][goesIn] = -goesIn;
        }
        int set = 0;
        for (int a = 0; a < 2; a++) {
            for (int b = 0; b < 2; b++) {
                if (mover[a][b] >= mover[1 - a][b] && opposition[a][b] >= opposition[a][1 - b]) {
                    set |= 1 << (2 * a + b);
                }
            }
        }
        return set;
    }

    public int tabled() {
        int set = 0;
        for (Integer m : now.paper) {
            set |= m == null ? 0 : 1 << m;
        }
        return set;
    }

    public int soaked() {
        int set = 0;
        for (int i = 0; i < now.members.size(); i++) {
            set |= now.felt(i, now.sky, -1, now.hour) >= now.aye ? 1 << i : 0;
        }
        return set;
    }

    public int twins() {
        int n = 0;
        for (Member a : now.members) {
            for (Member b : now.members) {
                n += a != b && a.place == b.place && a.seats == b.seats ? 1 : 0;
            }
        }
        return n / 2;
    }

    public int richest() {
        int best = -1;
        for (int i = now.motions.size() - 1; i >= 0; i--) {
            Motion m = now.motions.get(i);
            if (m.state == 0 && (best < 0 || m.worth >= now.motions.get(best).worth)) {
                best = i;
            }
        }
        return best;
    }

    public int trial(int n, boolean wet) {
        number(n >= 0 && n <= 60);
        S s = now.copy();
        int k = 0;
        for (int i = 0; i < n; i++) {
            s.anHour();
            k += s.sky == 2 ? 1 : 0;
        }
        return wet ? k : s.state(1);
    }

    public int span(int n, boolean most) {
        number(n >= 0 && n <= 60);
        List<Integer> all = new ArrayList<>();
        for (int seed = 1; seed < 7; seed++) {
            S s = now.copy();
            s.seed = seed;
            for (int i = 0; i < n; i++) {
                s.anHour();
            }
            all.add(s.worthOf(s.state(1)));
        }
        return most ? Collections.max(all) : Collections.min(all);
    }

    public int led(int motion, boolean sky) {
        motion(motion);
        int n = 0;
        int last = -1;
        for (Row r : now.log) {
            if (r.motion == motion) {
                n++;
                last = r.sky;
            }
        }
        return sky ? last : n;
    }

    public int log(int ago, int what) {
        if (what < 0 || what > 4) {
            throw new NoSuchElementException();
        }
        if (ago < 0 || ago >= now.log.size()) {
            return -1;
        }
        Row r = now.log.get(now.log.size() - 1 - ago);
        return new int[] {r.day, r.hour, r.motion, r.sky, r.state}[what];
    }

    public int seed(int n) {
        int was = now.seed;
        now.seed = n;
        return was;
    }

    public boolean undo() {
        if (past.isEmpty()) {
            return false;
        }
        now = past.remove(past.size() - 1);
        return true;
    }

    public void image() {
        image = now.copy();
    }

    public boolean back() {
        if (image == null) {
            return false;
        }
        now = image.copy();
        past.clear();
        return true;
    }

    public int count(int what) {
        int[] all = {now.members.size(), now.motions.size(), now.texts, now.law == null ? -1 : now.law.size(),
            now.sky, now.hour, now.day, now.quorum, now.aye, now.wet, now.state(0), now.state(1), now.outs(),
            now.log.size(), past.size()};
        return what < 0 || what >= all.length ? -1 : all[what];
    }
}
