import java.util.Arrays;
import java.util.NoSuchElementException;

/**
 * A council in which the drizzle has a seat. The document (DOC.md) tells what each call does; its words in
 * capitals are used here too. Sets of members, motions and skies are bits.
 */
public final class DrizzleVote {
    public static final int NONE = -1;

    private static final int SKIES = 5;
    private static final int DRIZZLE_SKY = 2;
    private static final int HOURS = 12;
    private static final int PLACES = 8;
    private static final int MEMBERS = 7;
    private static final int MOTIONS = 8;
    private static final int DRIZZLE = 7;
    private static final int TAPE = 400;
    private static final int TEXTS = 12;
    private static final int ACTS = 12;
    private static final int WHOLE = 10000;
    private static final int SETS = 256;
    private static final int FAR = 24;

    private static final int WAITING = 0;
    private static final int CARRIED = 1;
    private static final int LOST = 2;
    private static final int LAPSED = 3;

    private final int[] tape;
    private int taped;
    private int wrongByte;
    private final Council now;
    private final Council tried;
    private final Council kept;
    private boolean isKept;
    private final Council[] past;
    private int oldest;
    private int remembered;
    private final CoastText coastText;
    private final LawText lawText;
    private final Cuffs told;
    private final Sides sides;
    private final Planner planner;

    public DrizzleVote() {
        tape = new int[TAPE];
        wrongByte = NONE;
        now = new Council();
        tried = new Council();
        kept = new Council();
        past = new Council[ACTS];
        for (int i = 0; i < ACTS; i++) {
            past[i] = new Council();
        }
        coastText = new CoastText();
        lawText = new LawText();
        told = new Cuffs();
        sides = new Sides();
        planner = new Planner();
    }

    // ---- the tape and the texts

    public int feed(int a, int b, int c, int d, int e) {
        if (taped + 20 > TAPE) {
            return NONE;
        }
        putNumber(a);
        putNumber(b);
        putNumber(c);
        putNumber(d);
        putNumber(e);
        return taped;
    }

    private void putNumber(int number) {
        for (int shift = 24; shift >= 0; shift -= 8) {
            if (taped >= 0 && taped < tape.length) {
                tape[taped] = (number >>> shift) & 255;
                taped++;
            }
        }
    }

    public boolean end(int n) {
        if (n < 0 || n > taped) {
            return false;
        }
        taped = n;
        return true;
    }

    public int coast() throws IllegalArgumentException, UnsupportedOperationException {
        boolean right = coastText.readText(tape, taped, now);
        wrongByte = coastText.words.wrong;
        taped = 0;
        if (!right) {
            throw new IllegalArgumentException("the text of the coast is wrong");
        }
        if (now.texts >= TEXTS) {
            throw new UnsupportedOperationException("there are twelve texts");
        }
        now.takeAll(coastText.draft);
        now.texts++;
        forgetActs();
        return now.texts;
    }

    public int law() throws IllegalArgumentException {
        boolean right = lawText.readText(tape, taped);
        wrongByte = lawText.words.wrong;
        taped = 0;
        if (!right) {
            throw new IllegalArgumentException("the text of the law is wrong");
        }
        now.laws = lawText.draft;
        forgetActs();
        return lawText.draft.lines;
    }

    public int fault() {
        return wrongByte;
    }

    // ---- what there is

    public int member(int member, int what) throws IndexOutOfBoundsException, NoSuchElementException {
        needMember(member);
        switch (what) {
            case 0:
                return now.places[member];
            case 1:
                return now.seats[member];
            case 2:
                return bitOf(now.hats, member);
            case 3:
                return bitOf(now.outs, member);
            case 4:
                return now.shareOf(member);
            case 5:
                return now.motions.thoseLiked(member);
            default:
                throw new NoSuchElementException("a member has no such thing");
        }
    }

    public int motion(int motion, int what) throws IndexOutOfBoundsException, NoSuchElementException {
        needMotion(motion);
        switch (what) {
            case 0:
                return now.motions.movers[motion];
            case 1:
                return now.motions.takes[motion];
            case 2:
                return now.motions.worths[motion];
            case 3:
                return now.motions.fors[motion];
            case 4:
                return now.motions.states[motion];
            case 5:
                return now.motions.hourOf(motion);
            default:
                throw new NoSuchElementException("a motion has no such thing");
        }
    }

    public int follows(int sky, int next) throws IndexOutOfBoundsException {
        needSky(sky);
        needSky(next);
        return now.weather.weights[sky * SKIES + next];
    }

    public int exposed(int place) throws IndexOutOfBoundsException {
        needPlace(place);
        return now.exposures[place];
    }

    public int paper(int hour) throws IndexOutOfBoundsException {
        needHour(hour);
        return now.motions.paper[hour];
    }

    public int felt(int member, int sky, int motion) throws IndexOutOfBoundsException {
        needMember(member);
        needSky(sky);
        if (motion != NONE) {
            needMotion(motion);
        }
        return now.feels(member, sky, motion, now.weather.hour, now.outs);
    }

    public int goes(int motion, int sky, int hour) throws IndexOutOfBoundsException {
        needMotion(motion);
        needSky(sky);
        needHour(hour);
        return now.outcomeIn(motion, sky, hour);
    }

    // ---- acts

    public int hours(int n) throws IllegalArgumentException {
        needNumber(n, 1, 60);
        rememberNow();
        int carriedOnes = 0;
        for (int i = 0; i < n; i++) {
            if (now.runHour() == CARRIED) {
                carriedOnes++;
            }
        }
        return carriedOnes;
    }

    public int table(int motion, int hour) throws IndexOutOfBoundsException, IllegalStateException {
        needMotion(motion);
        needHour(hour);
        needWaiting(motion);
        rememberNow();
        int stood = now.motions.paper[hour];
        now.motions.putOnPaper(motion, hour);
        return stood;
    }

    public int clear(int hour) throws IndexOutOfBoundsException, IllegalStateException {
        needHour(hour);
        int stood = now.motions.paper[hour];
        if (stood == NONE) {
            throw new IllegalStateException("nothing stands in this hour");
        }
        rememberNow();
        now.motions.paper[hour] = NONE;
        return stood;
    }

    public boolean hat(int member, boolean is) throws IndexOutOfBoundsException {
        needMember(member);
        rememberNow();
        int before = now.hats;
        now.hats = withBit(before, member, is);
        return now.hats != before;
    }

    public boolean out(int member, boolean is) throws IndexOutOfBoundsException {
        needMember(member);
        rememberNow();
        int before = now.outs;
        now.outs = withBit(before, member, is);
        return now.outs != before;
    }

    public int walk(int member, int place) throws IndexOutOfBoundsException {
        needMember(member);
        needPlace(place);
        rememberNow();
        int before = now.places[member];
        now.places[member] = place;
        return before;
    }

    public boolean mind(int member, int motion) throws IndexOutOfBoundsException, IllegalStateException {
        needMember(member);
        needMotion(motion);
        needWaiting(motion);
        rememberNow();
        now.motions.fors[motion] ^= 1 << member;
        return bitOf(now.motions.fors[motion], member) == 1;
    }

    public int seat(int member, int n) throws IndexOutOfBoundsException, IllegalArgumentException {
        needMember(member);
        needNumber(n, 0, 20);
        rememberNow();
        int before = now.seats[member];
        now.seats[member] = n;
        return before;
    }

    public int renew(int motion) throws IndexOutOfBoundsException, IllegalStateException {
        needMotion(motion);
        int before = now.motions.states[motion];
        if (before != LOST && before != LAPSED) {
            throw new IllegalStateException("the motion is neither lost nor lapsed");
        }
        rememberNow();
        now.motions.states[motion] = WAITING;
        return before;
    }

    // ---- the hours that come

    public int chance(int sky, int n) throws IndexOutOfBoundsException, IllegalArgumentException {
        needSky(sky);
        needNumber(n, 0, FAR);
        now.weather.startChances();
        for (int i = 0; i < n; i++) {
            now.weather.spreadHour();
        }
        return now.weather.has[sky];
    }

    public int carries(int motion, int n) throws IndexOutOfBoundsException, IllegalArgumentException {
        needMotion(motion);
        needNumber(n, 1, FAR);
        now.weather.startChances();
        for (int i = 0; i < n; i++) {
            now.weather.spreadHour();
        }
        return now.carriedThen(motion, now.weather.hourThen(n));
    }

    public int soonest(int motion, int x) throws IndexOutOfBoundsException, IllegalArgumentException {
        needMotion(motion);
        needNumber(x, 0, WHOLE);
        now.weather.startChances();
        for (int n = 1; n <= FAR; n++) {
            now.weather.spreadHour();
            if (now.carriedThen(motion, now.weather.hourThen(n)) >= x) {
                return n;
            }
        }
        return NONE;
    }

    public int when(int motion) throws IndexOutOfBoundsException {
        needMotion(motion);
        now.weather.startChances();
        int most = NONE;
        int best = 1;
        for (int n = 1; n <= FAR; n++) {
            now.weather.spreadHour();
            int chanceThen = now.carriedThen(motion, now.weather.hourThen(n));
            if (chanceThen > most) {
                most = chanceThen;
                best = n;
            }
        }
        return best;
    }

    public int worst() {
        int fewest = MOTIONS + 1;
        int worstSky = 0;
        for (int sky = 0; sky < SKIES; sky++) {
            int carriedOnes = Integer.bitCount(now.carriedOf(now.motions.inState(WAITING), sky));
            if (carriedOnes < fewest) {
                fewest = carriedOnes;
                worstSky = sky;
            }
        }
        return worstSky;
    }

    public int best(int hour) throws IndexOutOfBoundsException {
        if (hour != NONE) {
            needHour(hour);
        }
        planner.planDay(now);
        if (hour == NONE) {
            return planner.most[0] / WHOLE;
        }
        return planner.motionAt(hour - now.weather.hour);
    }

    public int shower(int h, boolean worth) throws IllegalArgumentException {
        needNumber(h, 0, 40);
        int able = now.carriedOf(now.motions.inState(WAITING), DRIZZLE_SKY);
        int most = 0;
        int best = 0;
        for (int set = 1; set < SETS; set++) {
            if ((set & ~able) != 0 || now.motions.sumOver(now.motions.takes, set) > h) {
                continue;
            }
            int together = now.motions.sumOver(now.motions.worths, set);
            if (together > most) {
                most = together;
                best = set;
            }
        }
        return worth ? most : best;
    }

    public int haste(int k) {
        int waiting = now.motions.inState(WAITING);
        for (int motion = 0; motion < now.motions.size; motion++) {
            if (bitOf(waiting, motion) == 1 && now.motions.hastierThan(motion, waiting) == k) {
                return motion;
            }
        }
        return NONE;
    }

    // ---- cuffs

    public int cuffs(boolean ways) throws IllegalArgumentException {
        readCuffs();
        int all = told.countWays(now.weather.weights);
        return ways ? Math.min(all, 9999) : told.skiesNow();
    }

    public int likely() throws IllegalArgumentException {
        readCuffs();
        told.countWays(now.weather.weights);
        int most = 0;
        int best = NONE;
        for (int sky = 0; sky < SKIES; sky++) {
            if (told.ways[sky] > most) {
                most = told.ways[sky];
                best = sky;
            }
        }
        return best;
    }

    public int ago(int n) throws IllegalArgumentException {
        readCuffs();
        needNumber(n, 0, HOURS - 1);
        int all = told.countWays(now.weather.weights);
        if (all == 0) {
            return NONE;
        }
        told.allowed[n] &= 1 << DRIZZLE_SKY;
        int wet = told.countWays(now.weather.weights);
        if (wet == all) {
            return 1;
        }
        return wet == 0 ? 0 : NONE;
    }

    public int ask() throws IllegalArgumentException {
        readCuffs();
        told.countWays(now.weather.weights);
        int skies = told.skiesNow();
        int all = Integer.bitCount(skies);
        if (all < 2) {
            return NONE;
        }
        int least = SKIES + 1;
        int best = NONE;
        for (int member = 0; member < now.members; member++) {
            int wet = Integer.bitCount(skies & now.wettingSkies(member));
            int greater = Math.max(wet, all - wet);
            if (greater < least) {
                least = greater;
                best = member;
            }
        }
        return best;
    }

    private void readCuffs() {
        boolean right = told.readRows(tape, taped, now);
        taped = 0;
        if (!right) {
            throw new IllegalArgumentException("the tape tells no cuffs");
        }
    }

    // ---- places

    public int windows() {
        int needed = 0;
        for (int member = 0; member < now.members; member++) {
            needed |= 1 << now.places[member];
        }
        int fewest = MEMBERS + 1;
        int best = 0;
        for (int set = 0; set < 1 << now.members; set++) {
            int size = Integer.bitCount(set);
            if (size < fewest && (needed & ~now.seenBy(set)) == 0) {
                fewest = size;
                best = set;
            }
        }
        return best;
    }

    public int posts(int member) throws IndexOutOfBoundsException {
        if (member != NONE) {
            needMember(member);
        }
        planner.planPosts(now);
        if (member == NONE) {
            return planner.most[0];
        }
        return planner.placeOf(member, now);
    }

    // ---- sides

    public boolean wins(int side) {
        sides.weigh(now);
        return sides.isWinning(side & sides.present);
    }

    public int swings(int member) throws IndexOutOfBoundsException {
        needVoter(member);
        sides.weigh(now);
        sides.countSwings();
        return sides.swingsOf[member];
    }

    public int power(int member) throws IndexOutOfBoundsException {
        needVoter(member);
        sides.weigh(now);
        sides.countSwings();
        int all = 0;
        for (int i = 0; i <= DRIZZLE; i++) {
            all += sides.swingsOf[i];
        }
        return all > 0 ? 100 * sides.swingsOf[member] / all : 0;
    }

    public int minimal() {
        sides.weigh(now);
        int found = 0;
        for (int side = 0; side < SETS; side++) {
            if ((side & ~sides.present) == 0 && sides.isMinimal(side)) {
                found++;
            }
        }
        return found;
    }

    public int leader() {
        sides.weigh(now);
        sides.countSwings();
        int most = 0;
        int best = NONE;
        for (int i = 0; i <= DRIZZLE; i++) {
            if (sides.swingsOf[i] > most) {
                most = sides.swingsOf[i];
                best = i;
            }
        }
        return best;
    }

    // ---- minds

    public int minds(int motion) throws IndexOutOfBoundsException {
        needMotion(motion);
        int hour = now.weather.hour;
        if (now.lapsesIn(motion, DRIZZLE_SKY, hour) || Integer.bitCount(now.outs) < now.quorum) {
            return NONE;
        }
        boolean keen = now.feels(now.motions.movers[motion], DRIZZLE_SKY, motion, hour, now.outs) >= now.aye;
        int fewest = MEMBERS + 1;
        int best = NONE;
        for (int set = 0; set < 1 << now.members; set++) {
            int size = Integer.bitCount(set);
            if ((set & ~now.outs) != 0 || size >= fewest) {
                continue;
            }
            if (now.byVotes(keen, DRIZZLE_SKY, now.outs, now.motions.fors[motion] ^ set) == CARRIED) {
                fewest = size;
                best = set;
            }
        }
        return best;
    }

    public int bargain(int member, int other) throws IndexOutOfBoundsException, IllegalArgumentException {
        needMember(member);
        needMember(other);
        needTwo(member, other);
        int waiting = now.motions.inState(WAITING);
        int both = (1 << member) | (1 << other);
        int first = waiting & now.motions.likedByOneOnly(member, other);
        int second = waiting & now.motions.likedByOneOnly(other, member);
        int carriedNow = now.carriedOf(first | second, DRIZZLE_SKY);
        int carriedThen = now.carriedBacked(first | second, both);
        for (int a = 0; a < now.motions.size; a++) {
            for (int b = 0; b < now.motions.size; b++) {
                int pair = (1 << a) | (1 << b);
                boolean fits = bitOf(first, a) == 1 && bitOf(second, b) == 1;
                if (fits && (pair & ~carriedThen) == 0 && (pair & ~carriedNow) != 0) {
                    return 8 * a + b;
                }
            }
        }
        return NONE;
    }

    public int like(int member, int other) throws IndexOutOfBoundsException, IllegalArgumentException {
        needMember(member);
        needMember(other);
        needTwo(member, other);
        return now.motions.sameMinds(member, other);
    }

    public int foes() {
        int fewest = MOTIONS + 1;
        int found = NONE;
        for (int a = 0; a < now.members; a++) {
            for (int b = a + 1; b < now.members; b++) {
                int same = now.motions.sameMinds(a, b);
                if (same < fewest) {
                    fewest = same;
                    found = 8 * a + b;
                }
            }
        }
        return found;
    }

    // ---- dry weeks

    public int dry(int n) throws IllegalArgumentException {
        needNumber(n, 0, HOURS);
        return now.weather.dryBehind(n);
    }

    public int drought(int n) throws IllegalArgumentException {
        needNumber(n, 0, HOURS);
        int dryDay = now.weather.dryBehind(HOURS);
        int left = WHOLE;
        for (int i = 0; i < n; i++) {
            left = left * dryDay / WHOLE;
        }
        return left;
    }

    public boolean quorate() {
        return Integer.bitCount(now.outs) >= now.quorum;
    }

    public int enough() {
        for (int n = 0; n <= HOURS; n++) {
            if (now.weather.dryBehind(n) < 5000) {
                return n;
            }
        }
        return NONE;
    }

    // ---- the mover and the opposition, and sets

    public int rests(int motion) throws IndexOutOfBoundsException {
        needMotion(motion);
        if (now.motions.states[motion] != WAITING) {
            return NONE;
        }
        int staying = gainOfMoving(motion, now.outs);
        int going = gainOfMoving(motion, now.outs & now.motions.fors[motion]);
        int found = 0;
        // moved: the mover has no more by waiting (0), the opposition loses least
        if (staying >= 0 && staying <= going) {
            found |= 1;
        }
        if (going >= 0 && going <= staying) {
            found |= 2;
        }
        // waited: the opposition has less by going in, so only its staying can rest
        if (staying <= 0) {
            found |= 4;
        }
        return found;
    }

    private int gainOfMoving(int motion, int outs) {
        int fors = now.motions.fors[motion];
        int state = now.outcome(motion, now.weather.sky, now.weather.hour, outs, fors);
        return state == CARRIED ? now.motions.worths[motion] : -5;
    }

    public int tabled() {
        int found = 0;
        for (int hour = 0; hour < HOURS; hour++) {
            int motion = now.motions.paper[hour];
            if (now.motions.has(motion)) {
                found |= 1 << motion;
            }
        }
        return found;
    }

    public int soaked() {
        int found = 0;
        for (int member = 0; member < now.members; member++) {
            int feeling = now.feels(member, now.weather.sky, NONE, now.weather.hour, now.outs);
            if (feeling >= now.aye) {
                found |= 1 << member;
            }
        }
        return found;
    }

    public int twins() {
        int found = 0;
        for (int a = 0; a < now.members; a++) {
            for (int b = a + 1; b < now.members; b++) {
                if (now.places[a] == now.places[b] && now.seats[a] == now.seats[b]) {
                    found++;
                }
            }
        }
        return found;
    }

    public int richest() {
        int most = NONE;
        int best = NONE;
        for (int motion = 0; motion < now.motions.size; motion++) {
            boolean waits = now.motions.states[motion] == WAITING;
            if (waits && now.motions.worths[motion] > most) {
                most = now.motions.worths[motion];
                best = motion;
            }
        }
        return best;
    }

    // ---- trials and the log

    public int trial(int n, boolean wet) throws IllegalArgumentException {
        needNumber(n, 0, 60);
        int wetHours = tryHours(n, now.weather.seed);
        return wet ? wetHours : tried.motions.inState(CARRIED);
    }

    public int span(int n, boolean most) throws IllegalArgumentException {
        needNumber(n, 0, 60);
        // above what all motions can be worth together
        int least = 100 * MOTIONS;
        int greatest = 0;
        for (int start = 1; start <= 6; start++) {
            tryHours(n, start);
            int worth = tried.motions.sumOver(tried.motions.worths, tried.motions.inState(CARRIED));
            least = Math.min(least, worth);
            greatest = Math.max(greatest, worth);
        }
        return most ? greatest : least;
    }

    /** The hours are run on a council apart; how many of them were of drizzle. */
    private int tryHours(int n, int start) {
        tried.takeAll(now);
        tried.weather.seed = start;
        int wetHours = 0;
        for (int i = 0; i < n; i++) {
            tried.runHour();
            if (tried.weather.sky == DRIZZLE_SKY) {
                wetHours++;
            }
        }
        return wetHours;
    }

    public int led(int motion, boolean sky) throws IndexOutOfBoundsException {
        needMotion(motion);
        int found = 0;
        int latest = NONE;
        for (int back = now.rows.size - 1; back >= 0; back--) {
            if (now.rows.valueOf(back, Log.MOTION) == motion) {
                found++;
                latest = now.rows.valueOf(back, Log.SKY);
            }
        }
        return sky ? latest : found;
    }

    public int log(int ago, int what) throws NoSuchElementException {
        if (what < 0 || what >= Log.WIDTH) {
            throw new NoSuchElementException("a row of the log has no such thing");
        }
        return now.rows.valueOf(ago, what);
    }

    public int seed(int n) {
        int before = now.weather.seed;
        now.weather.seed = n;
        return before;
    }

    // ---- acts undone, and the image

    public boolean undo() {
        if (remembered <= 0) {
            return false;
        }
        remembered--;
        now.takeAll(past[(oldest + remembered) % ACTS]);
        return true;
    }

    public void image() {
        kept.takeAll(now);
        isKept = true;
    }

    public boolean back() {
        if (!isKept) {
            return false;
        }
        now.takeAll(kept);
        forgetActs();
        return true;
    }

    private void rememberNow() {
        if (remembered >= ACTS) {
            oldest = (oldest + 1) % ACTS;
            remembered = ACTS - 1;
        }
        past[(oldest + remembered) % ACTS].takeAll(now);
        remembered++;
    }

    private void forgetActs() {
        remembered = 0;
        oldest = 0;
    }

    public int count(int what) {
        switch (what) {
            case 0:
                return now.members;
            case 1:
                return now.motions.size;
            case 2:
                return now.texts;
            case 3:
                return now.laws == null ? NONE : now.laws.lines;
            case 4:
                return now.weather.sky;
            case 5:
                return now.weather.hour;
            case 6:
                return now.weather.day;
            case 7:
                return now.quorum;
            case 8:
                return now.aye;
            case 9:
                return now.wetSeats;
            case 10:
                return now.motions.inState(WAITING);
            case 11:
                return now.motions.inState(CARRIED);
            case 12:
                return now.outs;
            case 13:
                return now.rows.size;
            case 14:
                return remembered;
            default:
                return NONE;
        }
    }

    // ---- what calls are refused for

    private void needMember(int member) {
        if (member < 0 || member >= now.members) {
            throw new IndexOutOfBoundsException("there is no such member");
        }
    }

    private void needVoter(int voter) {
        if (voter != DRIZZLE) {
            needMember(voter);
        }
    }

    private void needMotion(int motion) {
        if (!now.motions.has(motion)) {
            throw new IndexOutOfBoundsException("there is no such motion");
        }
    }

    private void needWaiting(int motion) {
        if (now.motions.states[motion] != WAITING) {
            throw new IllegalStateException("the motion does not wait");
        }
    }

    private static void needSky(int sky) {
        if (sky < 0 || sky >= SKIES) {
            throw new IndexOutOfBoundsException("there is no such sky");
        }
    }

    private static void needPlace(int place) {
        if (place < 0 || place >= PLACES) {
            throw new IndexOutOfBoundsException("there is no such place");
        }
    }

    private static void needHour(int hour) {
        if (hour < 0 || hour >= HOURS) {
            throw new IndexOutOfBoundsException("there is no such hour");
        }
    }

    private static void needNumber(int number, int least, int most) {
        if (number < least || number > most) {
            throw new IllegalArgumentException("the number is none");
        }
    }

    private static void needTwo(int one, int other) {
        if (one == other) {
            throw new IllegalArgumentException("both are one");
        }
    }

    private static int bitOf(int set, int one) {
        return (set >>> one) & 1;
    }

    private static int withBit(int set, int one, boolean is) {
        return is ? set | (1 << one) : set & ~(1 << one);
    }

    /** Skies, the hour and the day, and how likely each sky is behind hours that come. */
    private static final class Weather {
        int sky;
        int hour;
        int day;
        int seed;
        final int[] weights;
        final int[] has;
        final int[] gets;

        Weather() {
            sky = 1;
            seed = 1;
            weights = new int[SKIES * SKIES];
            Arrays.fill(weights, 1);
            has = new int[SKIES];
            gets = new int[SKIES];
        }

        void takeWeather(Weather other) {
            sky = other.sky;
            hour = other.hour;
            day = other.day;
            seed = other.seed;
            System.arraycopy(other.weights, 0, weights, 0, weights.length);
        }

        int sumBehind(int from) {
            int sum = 0;
            for (int next = 0; next < SKIES; next++) {
                sum += weights[from * SKIES + next];
            }
            return sum;
        }

        void passSky() {
            seed = 1103515245 * seed + 12345;
            int sum = sumBehind(sky);
            if (sum <= 0) {
                return;
            }
            int left = ((seed >>> 16) & 32767) % sum;
            int from = sky * SKIES;
            for (int next = 0; next < SKIES; next++) {
                left -= weights[from + next];
                if (left < 0) {
                    sky = next;
                    return;
                }
            }
        }

        void passHour() {
            hour++;
            if (hour >= HOURS) {
                hour = 0;
                day = Math.min(day + 1, 9999);
            }
        }

        int hourThen(int n) {
            return (hour + n - 1) % HOURS;
        }

        void startChances() {
            Arrays.fill(has, 0);
            has[sky] = WHOLE;
        }

        void spreadHour() {
            Arrays.fill(gets, 0);
            for (int from = 0; from < SKIES; from++) {
                give(from);
            }
            System.arraycopy(gets, 0, has, 0, SKIES);
        }

        private void give(int from) {
            int sum = sumBehind(from);
            if (sum <= 0 || has[from] == 0) {
                return;
            }
            int over = has[from];
            int greatest = 0;
            int main = 0;
            for (int next = 0; next < SKIES; next++) {
                int weight = weights[from * SKIES + next];
                int part = has[from] * weight / sum;
                gets[next] += part;
                over -= part;
                if (weight > greatest) {
                    greatest = weight;
                    main = next;
                }
            }
            gets[main] += over;
        }

        int dryBehind(int n) {
            startChances();
            for (int i = 0; i < n; i++) {
                spreadHour();
                has[DRIZZLE_SKY] = 0;
            }
            int sum = 0;
            for (int i = 0; i < SKIES; i++) {
                sum += i == DRIZZLE_SKY ? 0 : has[i];
            }
            return sum;
        }
    }

    /** The motions and the paper. */
    private static final class Motions {
        int size;
        final int[] movers;
        final int[] takes;
        final int[] worths;
        final int[] fors;
        final int[] states;
        final int[] paper;

        Motions() {
            movers = new int[MOTIONS];
            takes = new int[MOTIONS];
            worths = new int[MOTIONS];
            fors = new int[MOTIONS];
            states = new int[MOTIONS];
            paper = new int[HOURS];
            Arrays.fill(paper, NONE);
        }

        void takeMotions(Motions other) {
            size = other.size;
            System.arraycopy(other.movers, 0, movers, 0, MOTIONS);
            System.arraycopy(other.takes, 0, takes, 0, MOTIONS);
            System.arraycopy(other.worths, 0, worths, 0, MOTIONS);
            System.arraycopy(other.fors, 0, fors, 0, MOTIONS);
            System.arraycopy(other.states, 0, states, 0, MOTIONS);
            System.arraycopy(other.paper, 0, paper, 0, HOURS);
        }

        boolean has(int motion) {
            return motion >= 0 && motion < size;
        }

        void add(int mover, int time, int worth, int those) {
            if (size < 0 || size >= MOTIONS) {
                return;
            }
            movers[size] = mover;
            takes[size] = time;
            worths[size] = worth;
            fors[size] = those;
            states[size] = WAITING;
            size++;
        }

        int hourOf(int motion) {
            for (int hour = 0; hour < HOURS; hour++) {
                if (paper[hour] == motion) {
                    return hour;
                }
            }
            return NONE;
        }

        void putOnPaper(int motion, int hour) {
            int before = hourOf(motion);
            if (before != NONE) {
                paper[before] = NONE;
            }
            paper[hour] = motion;
        }

        int inState(int state) {
            int found = 0;
            for (int i = 0; i < size; i++) {
                if (states[i] == state) {
                    found |= 1 << i;
                }
            }
            return found;
        }

        int sumOver(int[] numbers, int set) {
            int sum = 0;
            for (int i = 0; i < size && i < numbers.length; i++) {
                sum += bitOf(set, i) * numbers[i];
            }
            return sum;
        }

        int thoseLiked(int member) {
            int found = 0;
            for (int i = 0; i < size; i++) {
                found |= bitOf(fors[i], member) << i;
            }
            return found;
        }

        int likedByOneOnly(int member, int other) {
            return thoseLiked(member) & ~thoseLiked(other);
        }

        int sameMinds(int member, int other) {
            return size - Integer.bitCount(thoseLiked(member) ^ thoseLiked(other));
        }

        /** How many of a set come ahead of a motion by their haste. */
        int hastierThan(int motion, int set) {
            int ahead = 0;
            for (int i = 0; i < size; i++) {
                int mine = worths[motion] * takes[i];
                int its = worths[i] * takes[motion];
                if (bitOf(set, i) == 1 && (its > mine || its == mine && i < motion)) {
                    ahead++;
                }
            }
            return ahead;
        }
    }

    /** The latest motions that came up, the oldest row first. */
    private static final class Log {
        static final int ROWS = 60;
        static final int WIDTH = 5;
        static final int MOTION = 2;
        static final int SKY = 3;

        int size;
        final int[] values;

        Log() {
            values = new int[ROWS * WIDTH];
        }

        void takeRows(Log other) {
            size = other.size;
            System.arraycopy(other.values, 0, values, 0, values.length);
        }

        void addRow(int day, int hour, int motion, int sky, int state) {
            if (size >= ROWS) {
                System.arraycopy(values, WIDTH, values, 0, values.length - WIDTH);
                size = ROWS - 1;
            }
            int at = size * WIDTH;
            if (at < 0 || at + WIDTH > values.length) {
                return;
            }
            values[at] = day;
            values[at + 1] = hour;
            values[at + 2] = motion;
            values[at + 3] = sky;
            values[at + 4] = state;
            size++;
        }

        int valueOf(int back, int what) {
            if (back < 0 || back >= size || what < 0 || what >= WIDTH) {
                return NONE;
            }
            return values[(size - 1 - back) * WIDTH + what];
        }
    }

    /** All that an act, a text or the image can bring back or change. */
    private static final class Council {
        int texts;
        int members;
        final int[] places;
        final int[] seats;
        int hats;
        int outs;
        final int[] exposures;
        int quorum;
        int aye;
        int wetSeats;
        Law laws;
        final Weather weather;
        final Motions motions;
        final Log rows;
        final int[] facts;

        Council() {
            places = new int[MEMBERS];
            seats = new int[MEMBERS];
            exposures = new int[PLACES];
            Arrays.fill(exposures, 5);
            quorum = 1;
            aye = 3;
            wetSeats = 3;
            weather = new Weather();
            motions = new Motions();
            rows = new Log();
            facts = new int[Law.FACTS];
        }

        void takeAll(Council other) {
            texts = other.texts;
            members = other.members;
            System.arraycopy(other.places, 0, places, 0, MEMBERS);
            System.arraycopy(other.seats, 0, seats, 0, MEMBERS);
            hats = other.hats;
            outs = other.outs;
            System.arraycopy(other.exposures, 0, exposures, 0, PLACES);
            quorum = other.quorum;
            aye = other.aye;
            wetSeats = other.wetSeats;
            laws = other.laws;
            weather.takeWeather(other.weather);
            motions.takeMotions(other.motions);
            rows.takeRows(other.rows);
        }

        void addMember(int place, int number, boolean hatted, boolean isOut) {
            if (members < 0 || members >= MEMBERS) {
                return;
            }
            places[members] = place;
            seats[members] = number;
            hats = withBit(hats, members, hatted);
            outs = withBit(outs, members, isOut);
            members++;
        }

        int seatsOf(int set) {
            int sum = 0;
            for (int i = 0; i < members; i++) {
                sum += bitOf(set, i) * seats[i];
            }
            return sum;
        }

        int shareOf(int member) {
            int all = seatsOf(outs);
            if (all <= 0 || bitOf(outs, member) == 0) {
                return 0;
            }
            return 100 * seats[member] / all;
        }

        int seenBy(int set) {
            int seen = 0;
            for (int i = 0; i < members; i++) {
                if (bitOf(set, i) == 1) {
                    // shifted back by one, so that the place below 0 falls away
                    seen |= (7 << places[i]) >> 1;
                }
            }
            return seen;
        }

        private void fillFacts(int member, int sky, int motion, int hour) {
            boolean is = motions.has(motion);
            facts[Law.MEMBER] = member;
            facts[Law.EXPOSED] = exposures[places[member]];
            facts[Law.SEATS] = seats[member];
            facts[Law.SKY] = sky;
            facts[Law.HOUR] = hour;
            facts[Law.MOTION] = is ? motion : MOTIONS;
            facts[Law.WORTH] = is ? motions.worths[motion] : 0;
            facts[Law.HAT] = bitOf(hats, member);
            facts[Law.WET] = sky >= DRIZZLE_SKY ? 1 : 0;
            facts[Law.MOVER] = is && motions.movers[motion] == member ? 1 : 0;
        }

        int feels(int member, int sky, int motion, int hour, int outsThen) {
            boolean wetted = sky == DRIZZLE_SKY && bitOf(outsThen, member) == 1;
            int base = wetted ? exposures[places[member]] : 0;
            if (laws == null) {
                return bitOf(hats, member) == 1 ? 0 : base;
            }
            fillFacts(member, sky, motion, hour);
            int sum = base + laws.sumOf(Law.FEEL, facts) - laws.sumOf(Law.DULL, facts);
            return Math.max(0, Math.min(20, sum));
        }

        boolean lapsesIn(int motion, int sky, int hour) {
            if (laws == null || !laws.hasKind(Law.LAPSE)) {
                return sky == 0;
            }
            fillFacts(motions.movers[motion], sky, motion, hour);
            return laws.sumOf(Law.LAPSE, facts) > 0;
        }

        int byVotes(boolean keen, int sky, int outsThen, int forsThen) {
            int one = seatsOf(outsThen & forsThen) + (keen ? wetSeats : 0);
            int other = seatsOf(outsThen & ~forsThen) + (sky == DRIZZLE_SKY && !keen ? wetSeats : 0);
            if (one == other) {
                return keen ? CARRIED : LOST;
            }
            return one > other ? CARRIED : LOST;
        }

        int outcome(int motion, int sky, int hour, int outsThen, int forsThen) {
            if (lapsesIn(motion, sky, hour)) {
                return LAPSED;
            }
            if (Integer.bitCount(outsThen) < quorum) {
                return LOST;
            }
            boolean keen = feels(motions.movers[motion], sky, motion, hour, outsThen) >= aye;
            return byVotes(keen, sky, outsThen, forsThen);
        }

        int outcomeIn(int motion, int sky, int hour) {
            return outcome(motion, sky, hour, outs, motions.fors[motion]);
        }

        /** Those of a set of motions that are carried in a sky, in the hour now. */
        int carriedOf(int set, int sky) {
            int found = 0;
            for (int i = 0; i < motions.size; i++) {
                if (bitOf(set, i) == 1 && outcomeIn(i, sky, weather.hour) == CARRIED) {
                    found |= 1 << i;
                }
            }
            return found;
        }

        /** Likewise in drizzle, with some members more who are for them. */
        int carriedBacked(int set, int backers) {
            int found = 0;
            for (int i = 0; i < motions.size; i++) {
                int forsThen = motions.fors[i] | backers;
                if (bitOf(set, i) == 1 && outcome(i, DRIZZLE_SKY, weather.hour, outs, forsThen) == CARRIED) {
                    found |= 1 << i;
                }
            }
            return found;
        }

        /** Of the chances that the weather has spread, those by which a motion is carried. */
        int carriedThen(int motion, int hour) {
            int sum = 0;
            for (int sky = 0; sky < SKIES; sky++) {
                int has = weather.has[sky];
                if (has > 0 && outcome(motion, sky, hour, outs, motions.fors[motion]) == CARRIED) {
                    sum += has;
                }
            }
            return sum;
        }

        int wettingSkies(int member) {
            int found = 0;
            for (int sky = 0; sky < SKIES; sky++) {
                if (feels(member, sky, NONE, weather.hour, outs) > 0) {
                    found |= 1 << sky;
                }
            }
            return found;
        }

        /** The state that the motion of this hour gets; waiting, if none came up. */
        int runHour() {
            weather.passSky();
            int motion = motions.paper[weather.hour];
            int state = WAITING;
            if (motions.has(motion) && motions.states[motion] == WAITING) {
                state = outcome(motion, weather.sky, weather.hour, outs, motions.fors[motion]);
                motions.states[motion] = state;
                rows.addRow(weather.day, weather.hour, motion, weather.sky, state);
            }
            weather.passHour();
            return state;
        }
    }

    /** Lines with their conditions, held as steps that work on a stack of numbers (1 for what is true). */
    private static final class Law {
        static final int LINES = 12;
        static final int FEEL = 0;
        static final int DULL = 1;
        static final int LAPSE = 2;

        static final int MEMBER = 0;
        static final int EXPOSED = 1;
        static final int SEATS = 2;
        static final int SKY = 3;
        static final int HOUR = 4;
        static final int MOTION = 5;
        static final int WORTH = 6;
        static final int HAT = 7;
        static final int WET = 8;
        static final int MOVER = 9;
        static final int FACTS = 10;

        // a step below FACT is a number of the text
        static final int FACT = 1000;
        static final int PLUS = 2000;
        static final int LESS = 2001;
        static final int MORE = 2002;
        static final int AND = 2003;
        static final int OR = 2004;
        static final int NOT = 2005;

        int lines;
        final int[] kinds;
        final int[] amounts;
        final int[] stops;
        int length;
        final int[] steps;
        final int[] stack;

        Law(int textLength) {
            kinds = new int[LINES];
            amounts = new int[LINES];
            stops = new int[LINES];
            // each thing of the text gives one step at most
            steps = new int[textLength < 0 ? 0 : textLength];
            // six deep, with two things kept open at each depth and three in a comparison
            stack = new int[24];
        }

        void addStep(int step) {
            if (length >= 0 && length < steps.length) {
                steps[length] = step;
                length++;
            }
        }

        /** A line, with the steps since the one before as its condition. */
        void addLine(int kind, int amount) {
            if (lines >= 0 && lines < LINES) {
                kinds[lines] = kind;
                amounts[lines] = amount;
                stops[lines] = length;
                lines++;
            }
        }

        boolean hasKind(int kind) {
            for (int i = 0; i < lines; i++) {
                if (kinds[i] == kind) {
                    return true;
                }
            }
            return false;
        }

        int sumOf(int kind, int[] facts) {
            int sum = 0;
            for (int i = 0; i < lines; i++) {
                if (kinds[i] == kind && holds(i == 0 ? 0 : stops[i - 1], stops[i], facts)) {
                    sum += amounts[i];
                }
            }
            return sum;
        }

        private boolean holds(int from, int to, int[] facts) {
            int top = 0;
            for (int i = from; i < to && i < steps.length; i++) {
                int step = steps[i];
                if (step < PLUS) {
                    int fact = step - FACT;
                    if (top >= stack.length || fact >= facts.length) {
                        return false;
                    }
                    stack[top] = fact >= 0 ? facts[fact] : step;
                    top++;
                } else if (step == NOT) {
                    if (top < 1) {
                        return false;
                    }
                    stack[top - 1] = 1 - stack[top - 1];
                } else {
                    if (top < 2) {
                        return false;
                    }
                    stack[top - 2] = join(step, stack[top - 2], stack[top - 1]);
                    top--;
                }
            }
            return top == 0 || stack[0] == 1;
        }

        private static int join(int step, int a, int b) {
            switch (step) {
                case PLUS:
                    return a + b;
                case LESS:
                    return a < b ? 1 : 0;
                case MORE:
                    return a > b ? 1 : 0;
                case AND:
                    return a & b;
                default:
                    return a | b;
            }
        }
    }

    /** A text, thing by thing; what is wrong is always the thing that one stands at. */
    private static final class Words {
        private static final int END = 0;
        private static final int WORD = 1;
        private static final int DIGITS = 2;
        private static final int SIGN = 3;

        int wrong;
        private int[] text;
        private int length;
        private int begin;
        private int stop;
        private int kind;

        Words() {
            wrong = NONE;
            text = new int[0];
        }

        void open(int[] bytes, int size) {
            text = bytes;
            length = Math.max(0, Math.min(size, bytes.length));
            stop = 0;
            wrong = NONE;
            advance();
        }

        void advance() {
            begin = stop;
            while (begin < length && text[begin] == ' ') {
                begin++;
            }
            stop = begin;
            kind = END;
            if (begin >= length) {
                return;
            }
            stop++;
            int sign = text[begin];
            boolean isLetter = sign >= 'a' && sign <= 'z';
            boolean isDigit = sign >= '0' && sign <= '9';
            kind = isLetter ? WORD : isDigit ? DIGITS : SIGN;
            int first = isLetter ? 'a' : '0';
            int last = isLetter ? 'z' : '9';
            while (kind != SIGN && stop < length && text[stop] >= first && text[stop] <= last) {
                stop++;
            }
        }

        /** Always false, so that a reader can leave with it. */
        boolean fail() {
            if (wrong == NONE) {
                wrong = begin;
            }
            return false;
        }

        boolean atEnd() {
            return kind == END;
        }

        boolean atDigits() {
            return kind == DIGITS;
        }

        boolean atWord(String word) {
            if (kind != WORD || stop - begin != word.length()) {
                return false;
            }
            for (int i = 0; i < word.length(); i++) {
                if (text[begin + i] != word.charAt(i)) {
                    return false;
                }
            }
            return true;
        }

        boolean takeWord(String word) {
            if (!atWord(word)) {
                return false;
            }
            advance();
            return true;
        }

        boolean needWord(String word) {
            return takeWord(word) || fail();
        }

        boolean atSign(char sign) {
            return kind == SIGN && begin >= 0 && begin < length && text[begin] == sign;
        }

        boolean takeSign(char sign) {
            if (!atSign(sign)) {
                return false;
            }
            advance();
            return true;
        }

        boolean needSign(char sign) {
            return takeSign(sign) || fail();
        }

        /** The number, or none, which is a fault then. */
        int takeNumber(int least, int most) {
            int value = 0;
            if (kind == DIGITS && stop - begin <= 3) {
                for (int i = begin; i < stop; i++) {
                    value = 10 * value + text[i] - '0';
                }
                if (value >= least && value <= most) {
                    advance();
                    return value;
                }
            }
            fail();
            return NONE;
        }

        boolean atFigures(int size, int most) {
            if (kind != DIGITS || stop - begin != size) {
                return false;
            }
            for (int i = 0; i < size; i++) {
                if (figure(i) > most) {
                    return false;
                }
            }
            return true;
        }

        int figure(int i) {
            int at = begin + i;
            return i >= 0 && at < stop && at < text.length ? text[at] - '0' : 0;
        }
    }

    /** A text of the coast, told to a draft, so that nothing stays of a wrong one. */
    private static final class CoastText {
        private static final int LINES = 14;

        final Words words;
        final Council draft;

        CoastText() {
            words = new Words();
            draft = new Council();
        }

        boolean readText(int[] text, int size, Council before) {
            draft.takeAll(before);
            words.open(text, size);
            if (words.atEnd()) {
                return true;
            }
            for (int line = 0; line < LINES; line++) {
                if (!readLine()) {
                    return false;
                }
                if (words.atEnd()) {
                    return true;
                }
                if (!words.needSign(';')) {
                    return false;
                }
            }
            return words.fail();
        }

        private boolean readLine() {
            if (words.atWord("member")) {
                return draft.members < MEMBERS ? readMember() : words.fail();
            }
            if (words.atWord("motion")) {
                return draft.motions.size < MOTIONS ? readMotion() : words.fail();
            }
            if (words.takeWord("sky")) {
                return readSky();
            }
            if (words.takeWord("now")) {
                draft.weather.sky = takeSky();
                return draft.weather.sky != NONE;
            }
            if (words.takeWord("place")) {
                return readPlace();
            }
            if (words.takeWord("paper")) {
                return readPaper();
            }
            return readSetting();
        }

        private boolean readSetting() {
            if (words.takeWord("quorum")) {
                draft.quorum = words.takeNumber(0, 8);
                return draft.quorum != NONE;
            }
            if (words.takeWord("aye")) {
                draft.aye = words.takeNumber(1, 20);
                return draft.aye != NONE;
            }
            if (words.takeWord("wet")) {
                draft.wetSeats = words.takeNumber(0, 20);
                return draft.wetSeats != NONE;
            }
            if (words.takeWord("hour")) {
                draft.weather.hour = words.takeNumber(0, HOURS - 1);
                return draft.weather.hour != NONE;
            }
            if (words.takeWord("day")) {
                draft.weather.day = words.takeNumber(0, 999);
                return draft.weather.day != NONE;
            }
            return words.fail();
        }

        private boolean readMember() {
            words.advance();
            if (!words.needWord("at")) {
                return false;
            }
            int place = words.takeNumber(0, PLACES - 1);
            if (place == NONE) {
                return false;
            }
            int seats = 1;
            if (words.takeWord("seats")) {
                seats = words.takeNumber(0, 20);
                if (seats == NONE) {
                    return false;
                }
            }
            boolean hatted = words.takeWord("hat");
            boolean isIn = words.takeWord("in");
            draft.addMember(place, seats, hatted, !isIn);
            return true;
        }

        private boolean readMotion() {
            words.advance();
            if (!words.needWord("of")) {
                return false;
            }
            int mover = words.takeNumber(0, draft.members - 1);
            if (mover == NONE || !words.needWord("takes")) {
                return false;
            }
            int time = words.takeNumber(1, 9);
            if (time == NONE || !words.needWord("worth")) {
                return false;
            }
            int worth = words.takeNumber(0, 99);
            if (worth == NONE) {
                return false;
            }
            int those = 1 << mover;
            if (words.takeWord("for")) {
                if (!words.atFigures(draft.members, 1)) {
                    return words.fail();
                }
                those = takeSet();
            }
            draft.motions.add(mover, time, worth, those);
            return true;
        }

        private int takeSet() {
            int set = 0;
            for (int i = 0; i < draft.members; i++) {
                set |= words.figure(i) << i;
            }
            words.advance();
            return set;
        }

        private int takeSky() {
            if (words.takeWord("sun")) {
                return 0;
            }
            if (words.takeWord("dry")) {
                return 1;
            }
            if (words.takeWord("drizzle")) {
                return 2;
            }
            if (words.takeWord("fog")) {
                return 3;
            }
            if (words.takeWord("downpour")) {
                return 4;
            }
            words.fail();
            return NONE;
        }

        private boolean readSky() {
            int sky = takeSky();
            if (sky == NONE) {
                return false;
            }
            int sum = 0;
            for (int i = 0; i < SKIES; i++) {
                draft.weather.weights[sky * SKIES + i] = words.figure(i);
                sum += words.figure(i);
            }
            if (!words.atFigures(SKIES, 9) || sum == 0) {
                return words.fail();
            }
            words.advance();
            return true;
        }

        private boolean readPlace() {
            int place = words.takeNumber(0, PLACES - 1);
            if (place == NONE || !words.needWord("exposed")) {
                return false;
            }
            draft.exposures[place] = words.takeNumber(0, 9);
            return draft.exposures[place] != NONE;
        }

        private boolean readPaper() {
            int hour = words.takeNumber(0, HOURS - 1);
            if (hour == NONE) {
                return false;
            }
            // found ahead of taking it, as a motion elsewhere on the paper is wrong at its number
            int from = words.begin;
            int motion = words.takeNumber(0, draft.motions.size - 1);
            if (motion == NONE) {
                return false;
            }
            int stands = draft.motions.hourOf(motion);
            if (stands != NONE && stands != hour) {
                words.wrong = from;
                return false;
            }
            draft.motions.paper[hour] = motion;
            return true;
        }
    }

    /** A text of the law. */
    private static final class LawText {
        private static final int DEEPEST = 6;

        final Words words;
        Law draft;

        LawText() {
            words = new Words();
            draft = new Law(0);
        }

        boolean readText(int[] text, int size) {
            draft = new Law(size);
            words.open(text, size);
            if (words.atEnd()) {
                return true;
            }
            for (int line = 0; line < Law.LINES; line++) {
                int kind = takeKind();
                if (kind == NONE) {
                    return false;
                }
                int amount = kind == Law.LAPSE ? 1 : words.takeNumber(0, 20);
                if (amount == NONE || words.takeWord("if") && !readCondition(0)) {
                    return false;
                }
                draft.addLine(kind, amount);
                if (words.atEnd()) {
                    return true;
                }
                if (!words.needSign(';')) {
                    return false;
                }
            }
            return words.fail();
        }

        private int takeKind() {
            if (words.takeWord("feel")) {
                return Law.FEEL;
            }
            if (words.takeWord("dull")) {
                return Law.DULL;
            }
            return words.needWord("lapse") ? Law.LAPSE : NONE;
        }

        private boolean readCondition(int depth) {
            boolean isJoinedByAnd = false;
            boolean isJoinedByOr = false;
            for (int i = 0; i < TAPE; i++) {
                if (!readAtom(depth)) {
                    return false;
                }
                if (isJoinedByAnd) {
                    draft.addStep(Law.AND);
                }
                isJoinedByAnd = words.takeWord("and");
                if (isJoinedByAnd) {
                    continue;
                }
                if (isJoinedByOr) {
                    draft.addStep(Law.OR);
                }
                isJoinedByOr = words.takeWord("or");
                if (!isJoinedByOr) {
                    return true;
                }
            }
            return words.fail();
        }

        private boolean readAtom(int depth) {
            boolean isDeeper = words.atWord("not") || words.atSign('(');
            if (isDeeper && depth >= DEEPEST) {
                return words.fail();
            }
            if (words.takeWord("not")) {
                if (!readAtom(depth + 1)) {
                    return false;
                }
                draft.addStep(Law.NOT);
                return true;
            }
            if (words.takeSign('(')) {
                return readCondition(depth + 1) && words.needSign(')');
            }
            return takeFact("hat", Law.HAT) || takeFact("wet", Law.WET) || takeFact("mover", Law.MOVER)
                || readComparison();
        }

        private boolean takeFact(String word, int fact) {
            if (!words.takeWord(word)) {
                return false;
            }
            draft.addStep(Law.FACT + fact);
            return true;
        }

        private boolean readComparison() {
            int comparison = NONE;
            boolean isAdded = false;
            for (int i = 0; i < TAPE; i++) {
                if (!readPart()) {
                    return false;
                }
                if (isAdded) {
                    draft.addStep(Law.PLUS);
                }
                isAdded = words.takeSign('+');
                if (isAdded) {
                    continue;
                }
                if (comparison != NONE) {
                    draft.addStep(comparison);
                    return true;
                }
                comparison = words.atSign('<') ? Law.LESS : Law.MORE;
                if (!words.takeSign('<') && !words.needSign('>')) {
                    return false;
                }
            }
            return words.fail();
        }

        private boolean readPart() {
            if (words.atDigits()) {
                int number = words.takeNumber(0, 999);
                draft.addStep(number);
                return number != NONE;
            }
            int fact = NONE;
            if (words.atWord("member")) {
                fact = Law.MEMBER;
            } else if (words.atWord("exposed")) {
                fact = Law.EXPOSED;
            } else if (words.atWord("seats")) {
                fact = Law.SEATS;
            } else if (words.atWord("sky")) {
                fact = Law.SKY;
            } else if (words.atWord("hour")) {
                fact = Law.HOUR;
            } else if (words.atWord("motion")) {
                fact = Law.MOTION;
            } else if (words.atWord("worth")) {
                fact = Law.WORTH;
            } else {
                return words.fail();
            }
            draft.addStep(Law.FACT + fact);
            words.advance();
            return true;
        }
    }

    /** What wet and dry cuffs tell of the twelve skies till now. */
    private static final class Cuffs {
        private static final int BYTES = 45;

        final int[] allowed;
        final int[] ways;
        private final int[] next;

        Cuffs() {
            allowed = new int[HOURS];
            ways = new int[SKIES];
            next = new int[SKIES];
        }

        boolean readRows(int[] tape, int size, Council council) {
            Arrays.fill(allowed, (1 << SKIES) - 1);
            if (size < 0 || size > BYTES || size > tape.length || size % 3 != 0) {
                return false;
            }
            for (int at = 0; at + 2 < size; at += 3) {
                int hoursAgo = tape[at];
                int member = tape[at + 1];
                int wet = tape[at + 2];
                if (hoursAgo < 0 || hoursAgo >= HOURS || member < 0 || member >= council.members || wet > 1) {
                    return false;
                }
                int skies = council.wettingSkies(member);
                allowed[hoursAgo] &= wet == 1 ? skies : ~skies;
            }
            return true;
        }

        /** In how many rows of twelve skies; and in how many of them each sky is now. */
        int countWays(int[] weights) {
            for (int sky = 0; sky < SKIES; sky++) {
                ways[sky] = bitOf(allowed[HOURS - 1], sky);
            }
            for (int hoursAgo = HOURS - 2; hoursAgo >= 0; hoursAgo--) {
                for (int sky = 0; sky < SKIES; sky++) {
                    next[sky] = bitOf(allowed[hoursAgo], sky) * waysTo(sky, weights);
                }
                System.arraycopy(next, 0, ways, 0, SKIES);
            }
            int sum = 0;
            for (int sky = 0; sky < SKIES; sky++) {
                sum += ways[sky];
            }
            return sum;
        }

        private int waysTo(int sky, int[] weights) {
            int sum = 0;
            for (int from = 0; from < SKIES; from++) {
                int at = from * SKIES + sky;
                if (at < weights.length && weights[at] > 0) {
                    sum += ways[from];
                }
            }
            return sum;
        }

        int skiesNow() {
            int found = 0;
            for (int sky = 0; sky < SKIES; sky++) {
                if (ways[sky] > 0) {
                    found |= 1 << sky;
                }
            }
            return found;
        }
    }

    /** Sides of members who are out, and of the drizzle. */
    private static final class Sides {
        int present;
        final int[] swingsOf;
        private int all;
        private final int[] seatsOf;

        Sides() {
            swingsOf = new int[DRIZZLE + 1];
            seatsOf = new int[DRIZZLE + 1];
        }

        void weigh(Council council) {
            present = council.outs | (1 << DRIZZLE);
            all = council.seatsOf(council.outs) + council.wetSeats;
            for (int i = 0; i < council.members; i++) {
                seatsOf[i] = council.seats[i];
            }
            seatsOf[DRIZZLE] = council.wetSeats;
        }

        private int seatsIn(int side) {
            int sum = 0;
            for (int i = 0; i <= DRIZZLE; i++) {
                sum += bitOf(side, i) * seatsOf[i];
            }
            return sum;
        }

        boolean isWinning(int side) {
            return 2 * seatsIn(side) > all;
        }

        void countSwings() {
            Arrays.fill(swingsOf, 0);
            for (int side = 0; side < SETS; side++) {
                if ((side & ~present) == 0 && isWinning(side)) {
                    addSwings(side);
                }
            }
        }

        private void addSwings(int side) {
            int sum = seatsIn(side);
            for (int i = 0; i <= DRIZZLE; i++) {
                if (bitOf(side, i) == 1 && 2 * (sum - seatsOf[i]) <= all) {
                    swingsOf[i]++;
                }
            }
        }

        boolean isMinimal(int side) {
            int sum = seatsIn(side);
            if (2 * sum <= all) {
                return false;
            }
            for (int i = 0; i <= DRIZZLE; i++) {
                if (bitOf(side, i) == 1 && 2 * (sum - seatsOf[i]) > all) {
                    return false;
                }
            }
            return true;
        }
    }

    /** Best ways to put motions to hours, and members to places: by what is the most from each set used on. */
    private static final class Planner {
        final int[] most;
        private final int[] gains;
        private int waiting;
        private int hoursLeft;

        Planner() {
            most = new int[(HOURS + 1) * SETS];
            gains = new int[HOURS * MOTIONS];
        }

        void planDay(Council council) {
            waiting = council.motions.inState(WAITING);
            hoursLeft = HOURS - council.weather.hour;
            council.weather.startChances();
            for (int k = 0; k < hoursLeft; k++) {
                council.weather.spreadHour();
                for (int i = 0; i < council.motions.size; i++) {
                    int chance = bitOf(waiting, i) == 1 ? council.carriedThen(i, council.weather.hour + k) : 0;
                    gains[k * MOTIONS + i] = chance * council.motions.worths[i];
                }
            }
            Arrays.fill(most, 0);
            for (int k = hoursLeft - 1; k >= 0; k--) {
                for (int used = 0; used < SETS; used++) {
                    // in k hours no more than k motions can have been used
                    if ((used & ~waiting) == 0 && Integer.bitCount(used) <= k) {
                        most[k * SETS + used] = mostFrom(k, used);
                    }
                }
            }
        }

        private int mostFrom(int k, int used) {
            int top = most[(k + 1) * SETS + used];
            for (int i = 0; i < MOTIONS; i++) {
                if (isFree(i, used)) {
                    top = Math.max(top, withMotion(k, used, i));
                }
            }
            return top;
        }

        private boolean isFree(int motion, int used) {
            return bitOf(waiting, motion) == 1 && bitOf(used, motion) == 0;
        }

        private int withMotion(int k, int used, int motion) {
            return gains[k * MOTIONS + motion] + most[(k + 1) * SETS + (used | (1 << motion))];
        }

        /** The motion of the hour that is so many behind this one, in the first best way. */
        int motionAt(int later) {
            int used = 0;
            for (int k = 0; k < hoursLeft; k++) {
                int motion = firstBest(k, used);
                if (k == later) {
                    return motion;
                }
                used |= motion == NONE ? 0 : 1 << motion;
            }
            return NONE;
        }

        private int firstBest(int k, int used) {
            int top = most[k * SETS + used];
            if (most[(k + 1) * SETS + used] == top) {
                return NONE;
            }
            for (int i = 0; i < MOTIONS; i++) {
                if (isFree(i, used) && withMotion(k, used, i) == top) {
                    return i;
                }
            }
            return NONE;
        }

        void planPosts(Council council) {
            for (int used = SETS - 1; used >= 0; used--) {
                int member = Integer.bitCount(used);
                int top = 0;
                for (int place = 0; place < PLACES && member < council.members; place++) {
                    if (bitOf(used, place) == 0) {
                        top = Math.max(top, withPlace(used, member, place, council));
                    }
                }
                most[used] = top;
            }
        }

        private int withPlace(int used, int member, int place, Council council) {
            return council.exposures[place] * council.seats[member] + most[used | (1 << place)];
        }

        int placeOf(int member, Council council) {
            int used = 0;
            int found = NONE;
            for (int i = 0; i <= member && i < council.members; i++) {
                found = firstPlace(used, i, council);
                used |= found == NONE ? 0 : 1 << found;
            }
            return found;
        }

        private int firstPlace(int used, int member, Council council) {
            for (int place = 0; place < PLACES; place++) {
                if (bitOf(used, place) == 0 && withPlace(used, member, place, council) == most[used]) {
                    return place;
                }
            }
            return NONE;
        }
    }
}
