import java.util.ArrayList;
import java.util.List;

/** Edges that the document names of a new council, of how motions go, of hours, acts, the log, undoing and the image. */
public final class ActEdgesTest extends Kit {
    private static void newOne() {
        sentence("Promise 1: a council of nobody: all at first");
        DrizzleVote x = new DrizzleVote();
        int[] due = {0, 0, 0, NONE, 1, 0, 0, 1, 3, 3, 0, 0, 0, 0, 0};
        for (int what = 0; what < due.length; what++) {
            due(x.count(what), due[what]);
        }
        for (int i = 0; i < 25; i++) {
            due(x.follows(i / 5, i % 5), 1);
        }
        for (int place = 0; place < 8; place++) {
            due(x.exposed(place), 5);
        }
        for (int hour = 0; hour < 12; hour++) {
            due(x.paper(hour), NONE);
        }
        due(x.fault(), NONE);
        due(taped(x), 0);
        due(seedOf(x), 1);
        due(x.undo(), false);
        due(x.back(), false);
        due(x.log(0, 0), NONE);
        due(DrizzleVote.NONE, -1);
        sentence("Promise 1: one object is not another one");
        coast(x, "member at 1;now fog");
        x.seed(9);
        due(new DrizzleVote().count(0), 0);
        due(seedOf(new DrizzleVote()), 1);
        due(new DrizzleVote().count(4), 1);
        sentence("An object is used for at most 512 calls: the last one too answers as due");
        x = new DrizzleVote();
        for (int i = 0; i < 511; i++) {
            x.seed(i);
        }
        due(x.seed(0), 510);
    }

    private static void full() {
        sentence("MEMBERS: at most 7, numbered from 0 on; PLACES 0 to 7: each one can be asked and act");
        DrizzleVote x = council(CROWD);
        for (int member = 0; member < 7; member++) {
            due(x.member(member, 4), 14);
        }
        for (int member = 0; member < 7; member++) {
            int place = member == 6 ? 7 : member;
            due(x.member(member, 0), place);
            due(x.member(member, 5), member == 6 ? 64 + 128 : 1 << member);
            due(x.walk(member, 7 - place), place);
            due(x.seat(member, 20 - member), 1);
            due(x.hat(member, true), true);
            due(x.out(member, false), true);
            due(x.mind(member, 7), member != 6);
            due(x.member(member, 0), 7 - place);
            due(x.member(member, 1), 20 - member);
            due(x.member(member, 2), 1);
            due(x.member(member, 3), 0);
            due(x.felt(member, 4, 7), 0);
        }
        due(x.motion(7, 3), 63);
        due(x.count(12), 0);
        sentence("MOTIONS: at most 8, numbered from 0 on; HOURS 0 to 11: each one can be asked and act");
        x = council(CROWD);
        for (int motion = 0; motion < 8; motion++) {
            due(x.motion(motion, 0), Math.min(motion, 6));
            due(x.motion(motion, 1), motion + 1);
            due(x.motion(motion, 2), motion + 1);
            due(x.motion(motion, 3), 1 << Math.min(motion, 6));
            due(x.motion(motion, 4), 0);
            due(x.table(motion, motion + 4), NONE);
            due(x.motion(motion, 5), motion + 4);
            due(x.goes(motion, 0, 11), 3);
            due(x.led(motion, false), 0);
        }
        due(x.count(10), 255);
        due(x.tabled(), 255);
        x.hours(12);
        due(x.count(10), 0);
        due(x.count(13), 8);
        due(x.count(11) & ~255, 0);
        dueThrow(INDEX, x, y -> y.member(7, 0));
        dueThrow(INDEX, x, y -> y.motion(8, 0));
    }

    private static void shares() {
        sentence("SHARE of SEATS of all OUT, in hundredths, rounded down");
        DrizzleVote x = council("member at 0 seats 2;member at 0 seats 1;member at 0 seats 20 in");
        due(x.member(0, 4), 66);
        due(x.member(1, 4), 33);
        x.seat(0, 0);
        due(x.member(0, 4), 0);
        due(x.member(1, 4), 100);
        sentence("SHARE: 0 of one that is in");
        due(x.member(2, 4), 0);
        sentence("SHARE: 0 without (SEATS that are OUT)");
        x.seat(1, 0);
        due(x.member(1, 4), 0);
        due(x.member(2, 4), 0);
        x.out(0, false);
        x.out(1, false);
        due(x.member(0, 4), 0);
        due(x.member(2, 4), 0);
        sentence("SHARE of SEATS of all OUT: the drizzle has none of these");
        due(council("wet 20;member at 0 seats 1").member(0, 4), 100);
    }

    private static DrizzleVote votes(int fors, int others, String more) {
        return council("member at 0 seats " + fors + ";member at 0 seats " + others
            + ";motion of 0 takes 1 worth 1" + more);
    }

    private static void goes() {
        sentence("GOES: by SEATS: 1, if the one side has more; 2, if it has less; of as many 2, as the MOVER does not feel");
        for (int sky : new int[] {1, 3, 4}) {
            due(votes(3, 2, "").goes(0, sky, 0), 1);
            due(votes(3, 3, "").goes(0, sky, 0), 2);
            due(votes(3, 4, "").goes(0, sky, 0), 2);
        }
        sentence("GOES: WET on the one side, if its MOVER FEELS AYE at least; of as many 1");
        due(votes(1, 3, ";wet 3").goes(0, 2, 0), 1);
        due(votes(1, 4, ";wet 3").goes(0, 2, 0), 1);
        due(votes(1, 5, ";wet 3").goes(0, 2, 0), 2);
        due(votes(0, 20, ";wet 20").goes(0, 2, 0), 1);
        due(votes(0, 20, ";wet 19").goes(0, 2, 0), 2);
        due(votes(0, 0, ";wet 0").goes(0, 2, 0), 1);
        sentence("GOES: WET on the other side, if the SKY is 2 and the MOVER does not feel so; of as many 2");
        due(votes(5, 1, ";wet 3;aye 6").goes(0, 2, 0), 1);
        due(votes(4, 1, ";wet 3;aye 6").goes(0, 2, 0), 2);
        due(votes(3, 1, ";wet 3;aye 6").goes(0, 2, 0), 2);
        due(votes(0, 0, ";wet 0;aye 6").goes(0, 2, 0), 2);
        sentence("GOES: FEELS AYE at least: as much is enough, one less is not");
        due(votes(1, 2, ";aye 5").goes(0, 2, 0), 1);
        due(votes(1, 2, ";aye 6").goes(0, 2, 0), 2);
        sentence("GOES: by another SKY WET is on the one side, if the MOVER FEELS AYE at least, else on none");
        for (int sky : new int[] {1, 3, 4}) {
            DrizzleVote x = votes(1, 3, ";wet 2");
            law(x, "feel 3");
            due(x.goes(0, sky, 0), 1);
            law(x, "feel 2");
            due(x.goes(0, sky, 0), 2);
            x.seat(0, 4);
            due(x.goes(0, sky, 0), 1);
        }
        sentence("GOES: the MOVER FEELS of that MOTION, that SKY, that HOUR");
        DrizzleVote x = council("member at 0;member at 0 seats 3;motion of 0 takes 1 worth 1;motion of 0 takes 1 worth 9",
            "feel 9 if motion>0 and worth>8 and sky>2 and hour>10;lapse if sky>8");
        due(x.goes(1, 3, 11), 1);
        due(x.goes(0, 3, 11), 2);
        due(x.goes(1, 1, 11), 2);
        due(x.goes(1, 3, 10), 2);
        sentence("GOES: of all OUT: who is in has no SEATS on either side");
        x = council("member at 0 seats 2;member at 0 seats 9 in;member at 0 seats 1;member at 0 seats 9 in;"
            + "motion of 0 takes 1 worth 1 for 1100");
        due(x.goes(0, 1, 0), 1);
        x.seat(2, 2);
        due(x.goes(0, 1, 0), 2);
        x.out(1, true);
        due(x.goes(0, 1, 0), 1);
        x.out(3, true);
        due(x.goes(0, 1, 0), 2);
        sentence("GOES: a MOVER may be against, or in");
        x = council("member at 0 seats 2;member at 0 seats 1;motion of 0 takes 1 worth 1 for 01;wet 2");
        due(x.goes(0, 1, 0), 2);
        due(x.goes(0, 2, 0), 1);
        x.out(0, false);
        due(x.goes(0, 1, 0), 1);
        due(x.goes(0, 2, 0), 2);
    }

    private static void quorums() {
        sentence("GOES: 2, if fewer MEMBERS are OUT than QUORUM");
        String three = "member at 0 seats 9;member at 0;member at 0;motion of 0 takes 1 worth 1;";
        due(council(three + "quorum 3").goes(0, 1, 0), 1);
        due(council(three + "quorum 4").goes(0, 1, 0), 2);
        DrizzleVote x = council(three + "quorum 2");
        x.out(1, false);
        due(x.goes(0, 1, 0), 1);
        x.out(2, false);
        due(x.goes(0, 1, 0), 2);
        sentence("GOES: 3, if it LAPSES, without a QUORUM too");
        due(x.goes(0, 0, 0), 3);
        sentence("GOES: QUORUM 0, nobody OUT: of as many 2, but 1, if the MOVER FEELS AYE at least");
        x = council("member at 0 seats 9 in;motion of 0 takes 1 worth 1;quorum 0;wet 0");
        due(x.goes(0, 1, 0), 2);
        due(x.goes(0, 2, 0), 2);
        law(x, "feel 3");
        due(x.goes(0, 1, 0), 1);
        coast(x, "quorum 1");
        due(x.goes(0, 1, 0), 2);
        sentence("GOES: QUORUM 7 and 8 of 7 MEMBERS");
        x = council(CROWD);
        x.seat(0, 20);
        coast(x, "quorum 7");
        due(x.goes(0, 1, 0), 1);
        coast(x, "quorum 8");
        due(x.goes(0, 1, 0), 2);
        sentence("QUORATE: whether QUORUM MEMBERS at least are OUT");
        due(x.quorate(), false);
        coast(x, "quorum 7");
        due(x.quorate(), true);
        x.out(3, false);
        due(x.quorate(), false);
        due(new DrizzleVote().quorate(), false);
        due(council("quorum 0").quorate(), true);
        due(council("member at 0 seats 0").quorate(), true);
    }

    private static int nextSeed(int seed) {
        return (int) (1103515245L * seed + 12345L);
    }

    private static int drawOf(int seed) {
        return (int) ((seed & 0xffffffffL) / 65536 % 32768);
    }

    private static int seedWith(int rest, int sum, boolean negative) {
        for (int seed = 0;; seed++) {
            int next = nextSeed(seed);
            if (next < 0 == negative && drawOf(next) % sum == rest) {
                return seed;
            }
        }
    }

    private static void draws(String weights, int... due) {
        for (int rest = 0; rest < due.length; rest++) {
            for (boolean negative : new boolean[] {false, true}) {
                DrizzleVote x = council("sky dry " + weights);
                int seed = seedWith(rest, due.length, negative);
                x.seed(seed);
                x.hours(1);
                due(x.count(4), due[rest]);
                due(seedOf(x), nextSeed(seed));
            }
        }
    }

    private static void skies() {
        sentence("AN HOUR: the first SKY by which the WEIGHTS so far, its own too, are above DRAW modulo their sum");
        draws("20301", 0, 0, 2, 2, 2, 4);
        draws("01010", 1, 3);
        draws("00001", 4);
        draws("90000", 0, 0, 0, 0, 0, 0, 0, 0, 0);
        draws("11111", 0, 1, 2, 3, 4);
        sentence("DRAW: SEED is an int that goes round; bits 16 to 30");
        for (int seed : new int[] {MAX, MIN, -1, 0, 1, 1103515245, -12345}) {
            DrizzleVote x = new DrizzleVote();
            x.seed(seed);
            int due = seed;
            for (int i = 0; i < 20; i++) {
                x.hours(1);
                due = nextSeed(due);
                due(x.count(4), drawOf(due) % 5);
            }
            due(seedOf(x), due);
        }
        sentence("AN HOUR: the WEIGHTS of the SKY that was");
        DrizzleVote x = council(ROUND);
        int[] due = {2, 3, 0, 1, 2};
        for (int sky : due) {
            x.hours(1);
            due(x.count(4), sky);
        }
    }

    private static void hours() {
        sentence("Promise 14: so many HOURS more (1 to 60)");
        DrizzleVote x = new DrizzleVote();
        x.hours(1);
        due(x.count(5), 1);
        x.hours(60);
        due(x.count(5), 1);
        due(x.count(6), 5);
        sentence("AN HOUR: HOUR is 1 more; behind 11 it is 0, DAY is 1 more");
        x = council("hour 10;day 999");
        x.hours(1);
        due(x.count(5), 11);
        due(x.count(6), 999);
        x.hours(1);
        due(x.count(5), 0);
        due(x.count(6), 1000);
        x.hours(11);
        due(x.count(5), 11);
        due(x.count(6), 1000);
        for (int i = 0; i < 400; i++) {
            x.hours(60);
        }
        due(x.count(6), 3000);
        due(x.count(5), 11);
        sentence("AN HOUR: DAY is 9999 at most (only more calls than the 512 that are promised come so far)");
        x = council("day 999;hour 11");
        for (int i = 0; i < 1799; i++) {
            x.hours(60);
        }
        x.hours(48);
        due(x.count(6), 9998);
        x.hours(1);
        due(x.count(6), 9999);
        x.hours(11);
        due(x.count(6), 9999);
        due(x.count(5), 11);
        x.hours(1);
        due(x.count(6), 9999);
        due(x.count(5), 0);
        x.hours(60);
        due(x.count(6), 9999);
        sentence("Promise 14: how many MOTIONS were carried in these");
        x = council(CROWD + "|sky dry 01000;paper 0 0;paper 1 1;paper 2 2;paper 3 3;paper 4 4;paper 5 5;paper 10 6;paper 11 7");
        for (int member = 0; member < 7; member++) {
            for (int motion = 0; motion < 8; motion++) {
                if (motion != 3 && (x.motion(motion, 3) >> member & 1) == 0) {
                    x.mind(member, motion);
                }
            }
        }
        due(x.hours(3), 3);
        due(x.hours(1), 0);
        due(x.hours(7), 3);
        due(x.hours(1), 1);
        due(x.hours(60), 0);
        due(x.count(11), 255 - 8);
        sentence("AN HOUR: the MOTION on the PAPER in HOUR, if it waits: its STATE is how it GOES");
        due(x.motion(3, 4), 2);
        due(x.motion(7, 4), 1);
        sentence("AN HOUR: one that does not wait does not come up");
        due(x.count(13), 8);
        due(x.led(3, false), 1);
        due(x.renew(3), 2);
        x.hours(12);
        due(x.led(3, false), 2);
        sentence("AN HOUR: (a) SKY is the one that follows, (b) the MOTION, (c) HOUR is 1 more");
        x = council(ROUND + ";member at 0 seats 9;motion of 0 takes 1 worth 1;now fog;paper 11 0;hour 11;day 3");
        due(x.hours(1), 0);
        due(x.motion(0, 4), 3);
        int[] row = {3, 11, 0, 0, 3};
        for (int what = 0; what < 5; what++) {
            due(x.log(0, what), row[what]);
        }
        due(x.count(6), 4);
    }

    private static void papers() {
        sentence("Promise 15: put on the PAPER: what stood there; NONE");
        DrizzleVote x = council(CROWD);
        due(x.table(0, 0), NONE);
        due(x.table(7, 11), NONE);
        due(x.table(1, 0), 0);
        sentence("ACTS: a MOTION is put in place of what stands there: that stands nowhere then");
        due(x.motion(0, 5), NONE);
        due(x.motion(1, 5), 0);
        due(x.tabled(), 2 + 128);
        sentence("ACTS: a MOTION is taken from where it stands on the PAPER");
        due(x.table(7, 5), NONE);
        due(x.paper(11), NONE);
        due(x.paper(5), 7);
        due(x.table(7, 0), 1);
        due(x.paper(5), NONE);
        due(x.paper(0), 7);
        due(x.tabled(), 128);
        sentence("PAPER: no MOTION twice");
        x.table(7, 0);
        due(x.paper(0), 7);
        due(x.tabled(), 128);
        sentence("Promise 16: cleared: what stood there");
        due(x.clear(0), 7);
        due(x.paper(0), NONE);
        due(x.motion(7, 5), NONE);
        x.table(3, 11);
        due(x.clear(11), 3);
        due(x.tabled(), 0);
        sentence("Promise 16: a MOTION that does not wait can be cleared");
        DrizzleVote w = world();
        due(w.clear(0), 0);
        due(w.clear(1), 1);
        due(w.paper(2), 2);
        sentence("Promise 15: in place of one that does not wait");
        w = world();
        due(w.table(3, 2), 2);
        due(w.paper(7), NONE);
        due(w.motion(2, 5), NONE);
        due(w.motion(2, 4), 3);
    }

    private static void members() {
        sentence("Promise 17: a HAT, or none: whether that changed");
        DrizzleVote x = council(CROWD);
        due(x.hat(6, false), false);
        due(x.hat(6, true), true);
        due(x.hat(6, true), false);
        due(x.member(6, 2), 1);
        due(x.member(5, 2), 0);
        due(x.hat(6, false), true);
        due(x.member(6, 2), 0);
        sentence("Promise 18: OUT, or in: whether that changed");
        due(x.out(0, true), false);
        due(x.out(0, false), true);
        due(x.out(0, false), false);
        due(x.count(12), 126);
        due(x.out(6, false), true);
        due(x.count(12), 62);
        due(x.out(0, true), true);
        due(x.count(12), 63);
        sentence("Promise 19: to a PLACE (0 to 7): where it was");
        due(x.walk(6, 0), 7);
        due(x.walk(6, 7), 0);
        due(x.walk(6, 7), 7);
        due(x.member(6, 0), 7);
        sentence("Promise 20: a mind is changed: whether it is FOR it then");
        due(x.mind(6, 7), false);
        due(x.motion(7, 3), 0);
        due(x.mind(0, 7), true);
        due(x.mind(6, 7), true);
        due(x.motion(7, 3), 65);
        due(x.member(0, 5), 129);
        sentence("Promise 21: SEATS are told (0 to 20): how many there were");
        due(x.seat(6, 20), 1);
        due(x.seat(6, 0), 20);
        due(x.seat(6, 0), 0);
        due(x.member(6, 1), 0);
        sentence("Promise 22: waits again: the STATE that it had: 2 or 3");
        DrizzleVote w = world();
        due(w.renew(1), 2);
        due(w.renew(2), 3);
        due(w.count(10), 14);
        due(w.motion(1, 4), 0);
        due(w.motion(1, 3), 6);
        due(w.motion(1, 5), 1);
    }

    private static void logs() {
        sentence("THE LOG: the latest 60 MOTIONS that came up");
        DrizzleVote x = council("member at 0;motion of 0 takes 1 worth 9;motion of 0 takes 1 worth 1;paper 0 0;paper 1 1;quorum 8");
        x.hours(12);
        for (int day = 1; day < 59; day++) {
            due(x.count(13), day + 1);
            x.renew(0);
            x.hours(12);
        }
        due(x.count(13), 60);
        due(x.log(59, 0), 0);
        due(x.log(59, 2), 0);
        due(x.log(58, 2), 1);
        due(x.led(0, false), 59);
        due(x.led(1, false), 1);
        sentence("THE LOG: of 61 the oldest is gone");
        x.renew(0);
        x.hours(12);
        due(x.count(13), 60);
        due(x.log(59, 2), 1);
        due(x.log(59, 1), 1);
        due(x.log(58, 0), 1);
        due(x.log(0, 0), 59);
        due(x.log(0, 1), 0);
        due(x.led(0, false), 59);
        x.renew(0);
        x.hours(12);
        due(x.log(59, 0), 1);
        due(x.led(0, false), 60);
        sentence("LED: how many rows of THE LOG are of a MOTION; the SKY of the latest (none)");
        due(x.led(1, false), 0);
        due(x.led(1, true), NONE);
        due(x.led(0, true), x.log(0, 3));
        sentence("UNDONE: rows of THE LOG too, those that were pushed out come back");
        x.undo();
        due(x.count(13), 60);
        due(x.led(1, false), 1);
        due(x.log(59, 2), 1);
        sentence("Promise 58: THE LOG so many ago (0 the latest); NONE without");
        due(x.log(60, 0), NONE);
        due(x.log(MAX, 0), NONE);
        due(x.log(-1, 4), NONE);
        due(x.log(MIN, 4), NONE);
        DrizzleVote w = world();
        int[][] rows = {{0, 2, 2, 0, 3}, {0, 1, 1, 3, 2}, {0, 0, 0, 2, 1}};
        for (int ago = 0; ago < 3; ago++) {
            for (int what = 0; what < 5; what++) {
                due(w.log(ago, what), rows[ago][what]);
            }
        }
        for (int what = 0; what < 5; what++) {
            due(w.log(3, what), NONE);
        }
        sentence("Promise 58: NoSuchElementException: another what, without such a row too");
        dueThrow(NO_SUCH, w, y -> y.log(9, 5));
        dueThrow(NO_SUCH, w, y -> y.log(-1, -1));
        sentence("LED: of a MOTION, in whatever HOUR it came up");
        x = council("member at 0;motion of 0 takes 1 worth 9;motion of 0 takes 1 worth 1;paper 1 0;paper 7 1");
        x.hours(12);
        due(x.led(0, false), 1);
        due(x.led(1, false), 1);
        due(x.led(0, true), x.log(1, 3));
        due(x.led(1, true), x.log(0, 3));
        sentence("LED: the latest of a MOTION, not the first");
        x = council(ROUND + ";member at 0;motion of 0 takes 1 worth 9;paper 0 0;now fog;quorum 8");
        x.hours(1);
        due(x.led(0, true), 0);
        x.renew(0);
        coast(x, "now drizzle;hour 0");
        x.hours(1);
        due(x.led(0, true), 3);
        due(x.led(0, false), 2);
    }

    private static void undone(Making making, Call act) {
        DrizzleVote x = making.make();
        int before = x.count(14);
        String due = state(x);
        act.of(x);
        due(x.count(14), Math.min(12, before + 1));
        due(x.undo(), true);
        due(state(x), due);
    }

    private static void undoing() {
        sentence("UNDONE: the latest ACT: all is as ahead of it, for each kind of ACT");
        Call[] acts = {y -> y.hours(1), y -> y.hours(60), y -> y.table(3, 0), y -> y.table(3, 11), y -> y.clear(7),
            y -> y.clear(0), y -> y.hat(0, true), y -> y.hat(1, false), y -> y.out(0, false), y -> y.out(2, true),
            y -> y.walk(0, 7), y -> y.mind(0, 3), y -> y.mind(2, 3), y -> y.seat(0, 20), y -> y.renew(1), y -> y.renew(2)};
        for (Call act : acts) {
            undone(Kit::world, act);
        }
        sentence("UNDONE: all is as ahead of it: SEED too, told behind it");
        DrizzleVote x = council("member at 0");
        x.hours(2);
        x.seed(77);
        due(x.count(14), 1);
        x.undo();
        due(seedOf(x), 1);
        x.seed(5);
        x.hat(0, true);
        x.undo();
        due(seedOf(x), 5);
        sentence("UNDONE: HOURS of one call are one");
        x.hours(60);
        x.hours(1);
        due(x.count(14), 2);
        x.undo();
        due(x.count(6), 5);
        x.undo();
        due(x.count(6), 0);
        due(x.count(5), 0);
        sentence("UNDONE: whether there was one: false, and nothing happens");
        refusesUndo(new DrizzleVote());
        refusesUndo(x);
        sentence("UNDONE: but for the TAPE");
        x.hat(0, true);
        tape(x, "day 5");
        x.undo();
        due(taped(x), 5);
        due(x.coast(), 2);
        due(x.count(6), 5);
        sentence("UNDONE: but for THE IMAGE");
        x.hat(0, true);
        x.image();
        x.undo();
        due(x.member(0, 2), 0);
        due(x.back(), true);
        due(x.member(0, 2), 1);
        x = council("member at 0");
        x.image();
        x.hat(0, true);
        x.undo();
        x.hat(0, true);
        due(x.back(), true);
        due(x.member(0, 2), 0);
        sentence("UNDONE: a call that is refused is no ACT");
        x.hat(0, true);
        dueThrow(INDEX, x, y -> y.hat(1, true));
        dueThrow(STATE, x, y -> y.clear(0));
        dueThrow(ARGUMENT, x, y -> y.hours(61));
        due(x.count(14), 1);
        x.undo();
        due(x.member(0, 2), 0);
    }

    private static void refusesUndo(DrizzleVote x) {
        String before = state(x);
        due(x.undo(), false);
        due(state(x), before);
    }

    private static void twelveActs() {
        sentence("UNDONE: 12 are remembered");
        DrizzleVote x = council("member at 0 seats 20");
        for (int i = 0; i < 12; i++) {
            due(x.count(14), i);
            x.seat(0, i);
        }
        due(x.count(14), 12);
        for (int i = 11; i >= 0; i--) {
            due(x.undo(), true);
            due(x.count(14), i);
            due(x.member(0, 1), i == 0 ? 20 : i - 1);
        }
        due(x.undo(), false);
        sentence("UNDONE: an ACT that went as the thirteenth came is remembered no more");
        for (int i = 0; i < 13; i++) {
            x.seat(0, i);
        }
        due(x.count(14), 12);
        due(x.undo(), true);
        due(x.count(14), 11);
        for (int i = 10; i >= 0; i--) {
            due(x.undo(), true);
            due(x.member(0, 1), i);
        }
        due(x.undo(), false);
        due(x.member(0, 1), 0);
        due(x.count(14), 0);
        sentence("UNDONE: the latest ACT not undone yet, as acts come and go");
        List<Integer> past = new ArrayList<>();
        int value = 0;
        for (int i = 0; i < 150; i++) {
            // runs of three to eighteen acts, and of undoing a few
            if (i % 23 < 15 || past.isEmpty()) {
                past.add(value);
                if (past.size() > 12) {
                    past.remove(0);
                }
                due(x.seat(0, (i * 7 + 3) % 21), value);
                value = (i * 7 + 3) % 21;
            } else {
                due(x.undo(), true);
                value = past.remove(past.size() - 1);
                due(x.member(0, 1), value);
            }
        }
        due(x.count(14), past.size());
    }

    private static void imaging() {
        sentence("Promise 62: false, and nothing happens, if none was kept");
        DrizzleVote x = council("member at 0");
        x.seat(0, 3);
        tape(x, "day 5");
        String before = state(x);
        due(x.back(), false);
        due(state(x), before);
        due(taped(x), 5);
        due(x.count(14), 1);
        due(x.undo(), true);
        due(x.back(), false);
        sentence("Promise 61: THE IMAGE is kept: nothing else changes, acts stay remembered");
        x = world();
        before = state(x);
        x.image();
        due(state(x), before);
        due(taped(x), 5);
        due(x.fault(), 4);
        due(x.undo(), true);
        due(x.motion(3, 5), 5);
        sentence("THE IMAGE of all");
        due(x.back(), true);
        due(state(x), before.replaceFirst(" 4 \nmember", " 0 \nmember"));
        x.hours(60);
        x.renew(1);
        x.seat(0, 9);
        x.coast();
        law(x, "feel 1;feel 2");
        coast(x, "member at 7;place 3 exposed 1;sky dry 90000;quorum 2;aye 9;wet 9;hour 9;day 9;now fog");
        x.seed(99);
        due(x.back(), true);
        due(state(x), before.replaceFirst(" 4 \nmember", " 0 \nmember"));
        sentence("UNDONE: going back: none are remembered");
        x.hat(0, true);
        x.hat(0, false);
        due(x.count(14), 2);
        due(x.back(), true);
        due(x.count(14), 0);
        due(x.undo(), false);
        x.hat(0, true);
        due(x.count(14), 1);
        due(x.undo(), true);
        due(x.undo(), false);
        sentence("Promise 62: one goes back as often as one likes");
        x.seat(0, 7);
        due(x.back(), true);
        due(x.back(), true);
        due(x.member(0, 1), 3);
        sentence("THE IMAGE (one): the one before is gone");
        x.seat(0, 7);
        x.image();
        x.seat(0, 8);
        due(x.back(), true);
        due(x.member(0, 1), 7);
        sentence("THE IMAGE: but for the TAPE");
        tape(x, "day 7");
        x.back();
        due(taped(x), 5);
        x.coast();
        due(x.count(6), 7);
        sentence("THE IMAGE: of a council of nobody");
        x = new DrizzleVote();
        x.image();
        coast(x, "member at 0");
        x.hours(3);
        due(x.back(), true);
        due(x.count(0), 0);
        due(state(x), state(new DrizzleVote()));
    }

    private static void counts() {
        sentence("Promise 63: each what; NONE for another one");
        DrizzleVote x = world();
        int[] due = {3, 4, 2, 1, 0, 3, 0, 1, 3, 3, 8, 1, 3, 3, 4};
        for (int what = 0; what < due.length; what++) {
            due(x.count(what), due[what]);
        }
        for (int what : new int[] {-1, 15, 16, MIN, MAX}) {
            due(x.count(what), NONE);
        }
        sentence("Promise 59: SEED: what it was; any int");
        due(x.seed(MIN), nextSeed(nextSeed(nextSeed(1))));
        due(x.seed(MAX), MIN);
        due(x.seed(0), MAX);
        due(x.seed(0), 0);
        due(x.count(14), 4);
    }

    public static void main(String[] args) {
        newOne();
        full();
        shares();
        goes();
        quorums();
        skies();
        hours();
        papers();
        members();
        logs();
        undoing();
        twelveActs();
        imaging();
        counts();
        ends("ActEdgesTest");
    }
}
