/** Each promise of the document by itself: ordinary inputs, the edges that it names, and wrong inputs. */
public final class PromisesTest extends Kit {
    private static final String THREE = ROUND + ";member at 1 seats 3;member at 2 seats 2 hat;member at 5 in;"
        + "motion of 0 takes 2 worth 10;motion of 1 takes 3 worth 12 for 011;motion of 0 takes 1 worth 4 for 110;"
        + "place 1 exposed 4;paper 0 0";

    private static int promise;

    private interface Asked {
        Object run();
    }

    private static void promise(int n) {
        promise = n;
        sentence("promise " + n);
    }

    private static void dueThrow(Class<?> want, Asked call) {
        dueThrow(want, null, x -> call.run());
    }

    private static void coastFault(String text, int at) {
        fault(new DrizzleVote(), true, text, at);
    }

    private static void lawFault(String text, int at) {
        fault(new DrizzleVote(), false, text, at);
    }

    private static void part1() {
        promise(1);
        DrizzleVote x = new DrizzleVote();
        int[] due = {0, 0, 0, -1, 1, 0, 0, 1, 3, 3, 0, 0, 0, 0, 0};
        for (int i = 0; i < due.length; i++) {
            due(x.count(i), due[i]);
        }
        due(x.follows(4, 4), 1);
        due(x.exposed(0), 5);
        due(x.paper(11), -1);
        due(x.seed(1), 1);
        due(x.feed(0, 0, 0, 0, 0), 20);
        due(DrizzleVote.NONE, -1);

        promise(2);
        x = new DrizzleVote();
        for (int i = 1; i <= 20; i++) {
            due(x.feed(0x20202020, 0x20202020, 0x20202020, 0x20202020, 0x20202020), 20 * i);
        }
        due(x.feed(0, 0, 0, 0, 0), -1);
        due(x.end(400), true);
        due(x.end(381), true);
        due(x.feed(0, 0, 0, 0, 0), -1);
        due(x.end(380), true);
        due(x.feed(0x20202020, 0x20202020, 0x20202020, 0x20202020, 0x6e6f7720), 400);
        dueThrow(ARGUMENT, x::coast);
        due(x.fault(), 400);
        due(x.feed(0x6e6f7720, 0x666f6720, 0x20202020, 0x20202020, 0x20202020), 20);
        due(x.coast(), 1);
        due(x.count(4), 3);
        x.feed(0xff000000, 0, 0, 0, 0);
        dueThrow(ARGUMENT, x::law);
        due(x.fault(), 0);

        promise(3);
        x = new DrizzleVote();
        due(x.end(0), true);
        due(x.end(1), false);
        x.feed(0x64617920, 0x31322020, 0, 0, 0);
        due(x.end(21), false);
        due(x.end(-1), false);
        due(x.end(20), true);
        due(x.end(5), true);
        due(x.end(6), false);
        due(x.coast(), 1);
        due(x.count(6), 1);
    }

    private static void part4() {
        promise(4);
        DrizzleVote x = new DrizzleVote();
        due(coast(x, "   "), 1);
        due(coast(x, " member  at 3seats 020hat in ; now fog;hour 11;day 999; quorum 8;aye 20;wet 0"), 2);
        due(x.member(0, 0), 3);
        due(x.member(0, 1), 20);
        due(x.member(0, 2), 1);
        due(x.member(0, 3), 0);
        due(x.count(4), 3);
        due(x.count(5), 11);
        due(x.count(6), 999);
        due(x.count(7), 8);
        due(x.count(8), 20);
        due(x.count(9), 0);
        due(coast(x, "member at 0;motion of 1 takes 9 worth 99 for 10;motion of 0 takes 1 worth 0;paper 0 1;paper 0 1"), 3);
        due(x.motion(0, 3), 1);
        due(x.motion(1, 3), 1);
        due(x.motion(1, 5), 0);
        due(x.end(1), false);
        // an act is remembered beyond a wrong text, not beyond a right one
        x.hat(0, false);
        dueThrow(ARGUMENT, () -> coast(x, "member at 4;now"));
        due(x.count(0), 2);
        due(x.end(1), false);
        due(x.count(14), 1);
        due(coast(x, ""), 4);
        due(x.count(14), 0);
        for (int i = 5; i <= 12; i++) {
            due(coast(x, "day " + i), i);
        }
        dueThrow(ARGUMENT, () -> coast(x, "now"));
        due(x.fault(), 3);
        dueThrow(FULL, () -> coast(x, "day 77"));
        due(x.fault(), -1);
        due(x.count(6), 12);
        due(x.count(2), 12);
        due(x.end(1), false);
        DrizzleVote y = council(times(14, "day 3"));
        due(y.count(6), 3);
        coastFaults();
    }

    private static void coastEdges() {
        DrizzleVote x = council("hour 5;day 5;place 0 exposed 0;aye 1;wet 20;quorum 0;member at 0 seats 0");
        due(x.exposed(0), 0);
        due(x.count(8), 1);
        due(x.count(9), 20);
        due(x.count(7), 0);
        due(x.member(0, 1), 0);
        coast(x, "hour 0;day 0");
        due(x.count(5), 0);
        due(x.count(6), 0);
        coast(x, "motion of 0 takes 9 worth 99;motion of 0 takes 1 worth 0;paper 11 0;paper 11 1;place 0 exposed 9");
        due(x.motion(0, 5), -1);
        due(x.motion(1, 5), 11);
        due(x.motion(0, 2), 99);
        due(x.exposed(0), 9);
        for (int sky = 0; sky < 5; sky++) {
            coast(x, "now " + new String[] {"sun", "dry", "drizzle", "fog", "downpour"}[sky]);
            due(x.count(4), sky);
        }
        // a line that breaks off is wrong where it does
        String[] broken = {"member", "member at", "member at 1 seats", "motion", "motion of", "motion of 0",
            "motion of 0 takes", "motion of 0 takes 1", "motion of 0 takes 1 worth", "motion of 0 takes 1 worth 1 for",
            "sky", "sky fog", "now", "place", "place 1", "place 1 exposed", "quorum", "aye", "wet", "paper",
            "paper 1", "hour", "day"};
        for (String one : broken) {
            fault(x, true, one + ";day 1", one.length());
            fault(x, true, one + " ", one.length() + 1);
            fault(x, true, "say 1;" + one, 0);
        }
        due(x.count(6), 0);
    }

    private static void coastFaults() {
        coastEdges();
        coastFault("member at 1 seats 21", 18);
        coastFault("sky sun 0000:", 8);
        coastFault("motion of 0 takes 1 worth 1", 10);
        coastFault("member at 1;motion of 1 takes 1 worth 1", 22);
        coastFault("member at 1;motion of 0 takes 0 worth 1", 30);
        coastFault("member at 1;motion of 0 takes 1 worth 1;paper 0 1", 48);
        coastFault("\u00ff", 0);
        coastFault("day 1\u0000", 5);
        coastFault(";", 0);
        coastFault("now fog;", 8);
        coastFault("now fog;;", 8);
        coastFault(times(14, "day 3") + ";", 84);
        coastFault(times(14, "day 3") + "; day 3", 85);
        coastFault(times(7, "member at 1") + ";now fog;member at 1", 92);
        coastFault("member at 1;" + times(8, "motion of 0 takes 1 worth 1") + ";motion of 0 takes 1 worth 1", 236);
        coastFault("member in 1", 7);
        coastFault("member at", 9);
        coastFault("member at 0001", 10);
        coastFault("member at 8", 10);
        coastFault("member at 1 seats", 17);
        coastFault("member at 1 hat seats 1", 16);
        coastFault("member at 1 in hat", 15);
        coastFault("member at 1 hatin", 12);
        coastFault("Member at 1", 0);
        coastFault("members at 1", 0);
        coastFault("motion of 0", 10);
        coastFault("member at 1;motion of 0 takes 10 worth 1", 30);
        coastFault("member at 1;motion of 0 takes 1 worth 100", 38);
        coastFault("member at 1;motion of 0 takes 1 worth 10 for", 44);
        coastFault("member at 1;motion of 0 takes 1 worth 10 for 2", 45);
        coastFault("member at 1;motion of 0 takes 1 worth 10 for 0;now sun", -1);
        coastFault("sky sun 0000", 8);
        coastFault("sky sun 00 001", 8);
        coastFault("sky sun 00000", 8);
        coastFault("sky sun 00009", -1);
        coastFault("sky 0 00009", 4);
        coastFault("now  wind", 5);
        coastFault("place 7 exposed 9", -1);
        coastFault("place 7 expose 9", 8);
        coastFault("place 7 exposed 10", 16);
        coastFault("quorum 9", 7);
        coastFault("aye 0", 4);
        coastFault("aye 21", 4);
        coastFault("wet 21", 4);
        coastFault("hour 12", 5);
        coastFault("day 1000", 4);
        coastFault("paper 12 0", 6);
        coastFault("paper 0 0", 8);
        coastFault("member at 0;motion of 0 takes 1 worth 1;paper 3 0;paper 4 0", 58);
        coastFault("day 3 x", 6);
        coastFault("day 3\t", 5);
    }

    private static void part5() {
        promise(5);
        DrizzleVote x = council("member at 0 seats 2;member at 1 hat;motion of 1 takes 1 worth 7;now drizzle");
        due(x.felt(1, 2, 0), 0);
        due(law(x, ""), 0);
        due(x.count(3), 0);
        due(x.felt(1, 2, 0), 5);
        due(law(x, "feel 1;feel 2if hat ; dull 3 if mover; lapse if worth>6 and member<2"), 4);
        due(x.felt(0, 0, -1), 1);
        due(x.felt(1, 0, -1), 3);
        due(x.felt(1, 2, 0), 5);
        due(x.goes(0, 1, 0), 3);
        x.hat(0, true);
        dueThrow(ARGUMENT, () -> law(x, "feel 1;"));
        due(x.count(3), 4);
        due(x.count(14), 1);
        due(x.end(1), false);
        due(law(x, times(12, "feel 1")), 12);
        due(x.count(14), 0);
        due(x.felt(0, 0, -1), 12);
        due(law(x, "feel 20;feel 20"), 2);
        due(x.felt(0, 0, -1), 20);
        due(law(x, "feel 20;dull 20;dull 20"), 3);
        due(x.felt(0, 2, -1), 0);
        due(law(x, "feel 0;feel 4 if wet"), 2);
        due(x.felt(0, 1, -1), 0);
        due(x.felt(0, 2, -1), 9);
        due(x.felt(0, 3, -1), 4);
        due(x.felt(0, 4, -1), 4);
        lawConditions();
        lawFaults();
    }

    private static void holds(String condition, boolean want) {
        DrizzleVote x = council("member at 0 seats 2;member at 3 seats 4 hat;motion of 0 takes 1 worth 7;"
            + "motion of 1 takes 1 worth 9;place 3 exposed 6;hour 5", "feel 1 if " + condition);
        int felt = x.felt(1, 3, 1);
        if (felt != (want ? 1 : 0)) {
            fails("'" + condition + "' must be " + want);
        }
    }

    private static void lawConditions() {
        holds("member>0 and member<2", true);
        holds("exposed+1>6 and exposed<7", true);
        holds("seats>3 and seats<5", true);
        holds("sky>2 and sky<4", true);
        holds("hour>4 and hour<6", true);
        holds("motion>0 and motion<2", true);
        holds("worth>8 and worth<10", true);
        holds("hat and wet and mover", true);
        holds("member>1", false);
        holds("seats + seats + 1 > 8", true);
        holds("8 < seats+seats", false);
        holds("999>998", true);
        holds("1>2 or 2>1 and 1>2", false);
        holds("2>1 or 2>1 and 1>2", true);
        holds("(2>1 or 2>1) and 1>2", false);
        holds("not 1>2 and not 2<1", true);
        holds("not hat or wet", true);
        holds("not (hat or wet)", false);
        holds("not not not not not not hat", true);
        holds("(((((( hat )))))) ", true);
    }

    private static void lawFaults() {
        lawFault("feel;lapse", 4);
        lawFault("lapse if;lapse", 8);
        lawFault("lapse if not;lapse", 12);
        lawFault("lapse if (;lapse", 10);
        lawFault("lapse if (hat;lapse", 13);
        lawFault("lapse if 1;lapse", 10);
        lawFault("lapse if 1<;lapse", 11);
        lawFault("lapse if 1+;lapse", 11);
        lawFault("lapse if 1<2+;lapse", 13);
        lawFault("lapse if hat or;lapse", 15);
        lawFault("lapse if 1<2<3", 12);
        lawFault("", -1);
        lawFault("  ", -1);
        lawFault(";", 0);
        lawFault(" lapse ;", 8);
        lawFault("feel", 4);
        lawFault("feel 21", 5);
        lawFault("dull 0020", 5);
        lawFault("felt 1", 0);
        lawFault("feel 1 when hat", 7);
        lawFault("lapse 1", 6);
        lawFault("lapse if", 8);
        lawFault("lapse if sky", 12);
        lawFault("lapse if sky=1", 12);
        lawFault("lapse if sky<1000", 13);
        lawFault("lapse if hat<2", 12);
        lawFault("lapse if (hat", 13);
        lawFault("lapse if (sky)<2", 13);
        lawFault("lapse if hat)", 12);
        lawFault("lapse if hat and", 16);
        lawFault("lapse if and hat", 9);
        lawFault("lapse if wind", 9);
        lawFault("lapse if 1+hat>0", 11);
        lawFault("lapse if ((((((hat))))))", -1);
        lawFault("lapse if (((((((hat)))))))", 15);
        lawFault("lapse if ((((((not hat))))))", 15);
        lawFault("lapse if (not(not(not(hat))))", 21);
        lawFault("lapse if (not(not(not hat)))", -1);
        lawFault("lapse if (not hat) and (not hat) and not not not not (not hat)", -1);
        lawFault(times(12, "lapse") + ";", 72);
        lawFault(times(12, "lapse") + ";lapse", 72);
    }

    private static void part6() {
        promise(6);
        DrizzleVote x = new DrizzleVote();
        due(x.fault(), -1);
        fault(x, true, "now rain", 4);
        due(x.fault(), 4);
        rows(x, 0, 0);
        dueThrow(ARGUMENT, x::likely);
        due(x.fault(), 4);
        x.image();
        fault(x, false, "lapse if (", 10);
        x.back();
        due(x.fault(), 10);
        fault(x, false, "lapse", -1);

        promise(7);
        DrizzleVote y = council(THREE);
        due(y.member(0, 0), 1);
        due(y.member(0, 1), 3);
        due(y.member(1, 2), 1);
        due(y.member(0, 2), 0);
        due(y.member(1, 3), 1);
        due(y.member(2, 3), 0);
        due(y.member(0, 4), 60);
        due(y.member(2, 4), 0);
        due(y.member(1, 5), 6);
        y.seat(0, 1);
        due(y.member(0, 4), 33);
        due(y.member(1, 4), 66);
        y.seat(0, 0);
        y.seat(1, 0);
        due(y.member(0, 4), 0);
        dueThrow(INDEX, () -> y.member(3, 0));
        dueThrow(INDEX, () -> y.member(-1, 9));
        dueThrow(NO_SUCH, () -> y.member(0, 6));
        dueThrow(NO_SUCH, () -> y.member(0, -1));

        promise(8);
        due(y.motion(1, 0), 1);
        due(y.motion(1, 1), 3);
        due(y.motion(1, 2), 12);
        due(y.motion(1, 3), 6);
        due(y.motion(2, 3), 3);
        due(y.motion(0, 3), 1);
        due(y.motion(1, 4), 0);
        due(y.motion(0, 5), 0);
        due(y.motion(1, 5), -1);
        dueThrow(INDEX, () -> y.motion(3, 0));
        dueThrow(INDEX, () -> y.motion(-1, 9));
        dueThrow(NO_SUCH, () -> y.motion(0, 6));
        dueThrow(NO_SUCH, () -> y.motion(0, -1));
    }

    private static void part9() {
        promise(9);
        DrizzleVote x = council("sky fog 01279;place 7 exposed 0");
        due(x.follows(3, 0), 0);
        due(x.follows(3, 2), 2);
        due(x.follows(3, 4), 9);
        due(x.follows(4, 3), 1);
        dueThrow(INDEX, () -> x.follows(5, 0));
        dueThrow(INDEX, () -> x.follows(0, 5));
        dueThrow(INDEX, () -> x.follows(-1, 0));
        dueThrow(INDEX, () -> x.follows(0, -1));

        promise(10);
        due(x.exposed(7), 0);
        due(x.exposed(6), 5);
        dueThrow(INDEX, () -> x.exposed(8));
        dueThrow(INDEX, () -> x.exposed(-1));

        promise(11);
        DrizzleVote y = council(THREE);
        due(y.paper(0), 0);
        due(y.paper(1), -1);
        y.table(2, 11);
        due(y.paper(11), 2);
        dueThrow(INDEX, () -> y.paper(12));
        dueThrow(INDEX, () -> y.paper(-1));

        promise(12);
        due(y.felt(0, 2, 0), 4);
        due(y.felt(0, 2, -1), 4);
        due(y.felt(0, 4, 0), 0);
        due(y.felt(1, 2, 0), 0);
        due(y.felt(2, 2, 0), 0);
        y.hat(1, false);
        due(y.felt(1, 2, 0), 5);
        dueThrow(INDEX, () -> y.felt(3, 0, 0));
        dueThrow(INDEX, () -> y.felt(0, 5, 0));
        dueThrow(INDEX, () -> y.felt(0, 0, 3));
        dueThrow(INDEX, () -> y.felt(0, 0, -2));
        // without a motion: 8, of worth 0; HOUR is the one now
        law(y, "feel 1 if motion > 7;feel 2 if worth<1;feel 4 if hour<1");
        due(y.felt(0, 0, -1), 7);
        due(y.felt(0, 0, 0), 4);
        y.hours(1);
        due(y.felt(0, 0, -1), 3);
    }

    private static void part13() {
        promise(13);
        DrizzleVote x = council(THREE);
        due(x.goes(0, 0, 0), 3);
        due(x.goes(0, 1, 0), 1);
        due(x.goes(0, 2, 0), 1);
        due(x.goes(1, 1, 0), 2);
        due(x.goes(1, 2, 0), 2);
        // the mover feels AYE, or one more than that is needed
        coast(x, "aye 4");
        due(x.goes(0, 2, 0), 1);
        coast(x, "aye 5");
        due(x.goes(0, 2, 0), 2);
        coast(x, "aye 3");
        // as many on both sides: as the mover feels
        x.seat(1, 3);
        due(x.goes(0, 1, 0), 2);
        due(x.goes(0, 2, 0), 1);
        x.seat(1, 6);
        due(x.goes(0, 2, 0), 1);
        x.seat(1, 7);
        due(x.goes(0, 2, 0), 2);
        // the drizzle is against whom it does not wet
        x.seat(0, 9);
        x.hat(0, true);
        due(x.goes(0, 2, 0), 2);
        due(x.goes(0, 4, 0), 1);
        coast(x, "quorum 3");
        due(x.goes(0, 4, 0), 2);
        due(x.goes(0, 0, 0), 3);
        dueThrow(INDEX, () -> x.goes(3, 0, 0));
        dueThrow(INDEX, () -> x.goes(0, 5, 0));
        dueThrow(INDEX, () -> x.goes(0, 0, 12));
        dueThrow(INDEX, () -> x.goes(-1, 0, 0));
        dueThrow(INDEX, () -> x.goes(0, -1, 0));
        dueThrow(INDEX, () -> x.goes(0, 0, -1));
        // with lapse lines the sun is a sky as others are; without, it lapses by it
        law(x, "lapse if hour>5");
        coast(x, "quorum 1");
        due(x.goes(0, 0, 5), 1);
        due(x.goes(0, 0, 6), 3);
        law(x, "feel 1");
        due(x.goes(0, 0, 5), 3);
        due(x.goes(0, 1, 5), 1);

        promise(14);
        DrizzleVote y = council(THREE + "|paper 1 1;paper 2 2");
        due(y.hours(2), 1);
        due(y.count(4), 3);
        due(y.count(5), 2);
        due(y.motion(0, 4), 1);
        due(y.motion(1, 4), 2);
        due(y.hours(1), 0);
        due(y.motion(2, 4), 3);
        due(y.paper(0), 0);
        due(y.hours(60), 0);
        due(y.count(6), 5);
        due(y.count(5), 3);
        due(y.count(13), 3);
        dueThrow(ARGUMENT, () -> y.hours(0));
        dueThrow(ARGUMENT, () -> y.hours(61));
        dueThrow(ARGUMENT, () -> y.hours(-1));
        // the draws: 1103527590 is the second seed, and its bits 16 to 30 are 16838
        DrizzleVote z = council("sky dry 21452");
        z.hours(1);
        due(z.seed(1), 1103527590);
        // 16838 modulo 14 is 10, which weights of 2, 1, 4 and 5 go above
        due(z.count(4), 3);
        z.seed(-1);
        z.hours(1);
        due(z.seed(1), -1103515245 + 12345);
    }

    private static void part15() {
        promise(15);
        DrizzleVote x = council(THREE);
        due(x.table(1, 0), 0);
        due(x.motion(0, 5), -1);
        due(x.table(1, 11), -1);
        due(x.paper(0), -1);
        due(x.table(1, 11), 1);
        due(x.paper(11), 1);
        x.table(0, 0);
        x.hours(1);
        dueThrow(STATE, () -> x.table(0, 3));
        dueThrow(INDEX, () -> x.table(0, 12));
        dueThrow(INDEX, () -> x.table(3, 0));
        dueThrow(INDEX, () -> x.table(-1, 0));
        dueThrow(INDEX, () -> x.table(1, -1));

        promise(16);
        due(x.clear(0), 0);
        due(x.motion(0, 5), -1);
        dueThrow(STATE, () -> x.clear(0));
        due(x.clear(11), 1);
        dueThrow(INDEX, () -> x.clear(12));
        dueThrow(INDEX, () -> x.clear(-1));

        promise(17);
        due(x.hat(0, true), true);
        due(x.hat(0, true), false);
        due(x.member(0, 2), 1);
        due(x.hat(1, false), true);
        due(x.hat(1, false), false);
        due(x.member(1, 2), 0);
        dueThrow(INDEX, () -> x.hat(3, true));
        dueThrow(INDEX, () -> x.hat(-1, true));

        promise(18);
        due(x.out(2, true), true);
        due(x.out(2, true), false);
        due(x.count(12), 7);
        due(x.out(0, false), true);
        due(x.out(0, false), false);
        due(x.count(12), 6);
        dueThrow(INDEX, () -> x.out(3, true));
        dueThrow(INDEX, () -> x.out(-1, true));

        promise(19);
        due(x.walk(2, 0), 5);
        due(x.walk(2, 7), 0);
        due(x.member(2, 0), 7);
        dueThrow(INDEX, () -> x.walk(2, 8));
        dueThrow(INDEX, () -> x.walk(2, -1));
        dueThrow(INDEX, () -> x.walk(3, 0));

        promise(20);
        due(x.mind(2, 1), false);
        due(x.motion(1, 3), 2);
        due(x.mind(2, 1), true);
        due(x.motion(1, 3), 6);
        dueThrow(STATE, () -> x.mind(2, 0));
        dueThrow(INDEX, () -> x.mind(3, 0));
        dueThrow(INDEX, () -> x.mind(0, 3));
    }

    private static void part21() {
        promise(21);
        DrizzleVote x = council(THREE + "|paper 1 1;paper 2 2");
        due(x.seat(1, 20), 2);
        due(x.seat(1, 0), 20);
        due(x.member(1, 1), 0);
        dueThrow(ARGUMENT, () -> x.seat(1, 21));
        dueThrow(ARGUMENT, () -> x.seat(1, -1));
        dueThrow(INDEX, () -> x.seat(3, 21));
        x.seat(1, 2);

        promise(22);
        dueThrow(STATE, () -> x.renew(0));
        x.hours(3);
        dueThrow(STATE, () -> x.renew(0));
        due(x.renew(1), 2);
        due(x.renew(2), 3);
        due(x.count(10), 6);
        dueThrow(STATE, () -> x.renew(2));
        dueThrow(INDEX, () -> x.renew(3));
        dueThrow(INDEX, () -> x.renew(-1));

        promise(23);
        DrizzleVote y = council("sky dry 02211;sky drizzle 01000;sky fog 01000;sky downpour 01000");
        due(y.chance(1, 0), 10000);
        due(y.chance(2, 0), 0);
        // 2 of 6 are 3333 each, 1 of 6 are 1666; 2 are over and stay with dry
        due(y.chance(1, 1), 3335);
        due(y.chance(2, 1), 3333);
        due(y.chance(3, 1), 1666);
        due(y.chance(0, 24), 0);
        due(y.chance(1, 2), 1114 + 3333 + 1666 + 1666);
        dueThrow(ARGUMENT, () -> y.chance(0, 25));
        dueThrow(ARGUMENT, () -> y.chance(0, -1));
        dueThrow(INDEX, () -> y.chance(5, 25));
        dueThrow(INDEX, () -> y.chance(-1, 0));

        promise(24);
        DrizzleVote z = council("member at 0;motion of 0 takes 1 worth 1;hour 10", "lapse if sky<1 or hour<1 and sky>2");
        due(z.carries(0, 1), 8000);
        due(z.carries(0, 2), 8000);
        due(z.carries(0, 3), 4000);
        due(z.carries(0, 24), 8000);
        due(x.carries(0, 24), 0);
        dueThrow(ARGUMENT, () -> z.carries(0, 0));
        dueThrow(ARGUMENT, () -> z.carries(0, 25));
        dueThrow(INDEX, () -> z.carries(1, 0));

        // by a chance of a single one of 10000: it goes by downpour alone
        DrizzleVote s = council("sky dry 09001;sky downpour 09001;member at 0;motion of 0 takes 1 worth 1", "lapse if sky<4");
        due(s.carries(0, 2), s.chance(4, 2));

        promise(25);
        DrizzleVote w = council(ROUND + ";member at 0;motion of 0 takes 1 worth 1", "lapse if sky<4 and hour<4");
        due(w.soonest(0, 1), 5);
        due(w.soonest(0, 10000), 5);
        due(w.soonest(0, 0), 1);
        coast(w, "hour 5;now downpour");
        law(w, "lapse if hour<4 or hour>4");
        due(w.soonest(0, 1), 12);
        coast(w, "hour 5;now dry");
        law(w, "lapse if hour<4 or hour>4 or sky<1 or sky>1");
        due(w.soonest(0, 1), 12);
        // skies of five hours: in hour 7 it is drizzle behind 12 hours, downpour behind 24
        coast(w, "hour 8;now sun;sky sun 01000;sky dry 00100;sky drizzle 00010;sky fog 00001;sky downpour 10000");
        law(w, "lapse if hour<7 or hour>7 or sky<2");
        due(w.soonest(0, 1), 12);
        due(w.when(0), 12);
        law(w, "lapse if hour<7 or hour>7 or sky<4");
        due(w.soonest(0, 1), 24);
        due(w.when(0), 24);
        coast(w, "hour 0;now dry;sky dry 00100;sky drizzle 00010;sky fog 10000;sky sun 01000;sky downpour 00001");
        law(w, "lapse if sky<4 and hour<4");
        due(z.soonest(0, 8001), -1);
        due(z.soonest(0, 8000), 1);
        dueThrow(ARGUMENT, () -> z.soonest(0, 10001));
        dueThrow(ARGUMENT, () -> z.soonest(0, -1));
        dueThrow(INDEX, () -> z.soonest(1, -1));

        promise(26);
        due(w.when(0), 5);
        due(z.when(0), 1);
        law(z, "lapse if hour>9 and sky<1 or hour<1 or hour>0 and hour<10 and sky<4");
        due(z.when(0), 1);
        law(z, "lapse if hour<1 or hour>1 and sky<4");
        due(z.when(0), 4);
        dueThrow(INDEX, () -> z.when(1));
        dueThrow(INDEX, () -> z.when(-1));
    }

    private static void part27() {
        promise(27);
        DrizzleVote x = council("member at 0;motion of 0 takes 1 worth 1", "lapse if sky>2 and sky<4 and hour<1");
        due(x.worst(), 3);
        x.hours(1);
        due(x.worst(), 0);
        // one motion goes by all skies but sun, the other one but by drizzle and sun
        DrizzleVote y = council("member at 0;motion of 0 takes 1 worth 1;motion of 0 takes 1 worth 1;quorum 0;paper 0 0;"
            + "sky dry 00010", "lapse if motion>0 and sky>1 and sky<3");
        due(y.worst(), 2);
        y.out(0, false);
        due(y.worst(), 0);
        y.out(0, true);
        y.hours(1);
        due(y.count(11), 1);
        due(y.worst(), 2);
        y.mind(0, 1);
        due(y.worst(), 0);

        promise(28);
        DrizzleVote z = council(THREE + ";paper 1 1");
        due(z.best(-1), 14);
        due(z.best(9), 0);
        due(z.best(10), -1);
        due(z.best(11), 2);
        due(z.best(0), -1);
        z.hours(10);
        // hours 10 and 11 are of sun and dry by the round
        due(z.count(4), 3);
        z.renew(1);
        due(z.best(-1), 4);
        due(z.best(11), 2);
        due(z.best(10), -1);
        due(z.best(3), -1);
        dueThrow(INDEX, () -> z.best(12));
        dueThrow(INDEX, () -> z.best(-2));
        // 80 hundredths of 10 and of 3 are 10.4
        DrizzleVote w = council("member at 0;motion of 0 takes 1 worth 3;motion of 0 takes 1 worth 10;hour 10");
        due(w.best(-1), 10);
        due(w.best(10), 0);
        due(w.best(11), 1);
        // the hours go by the law
        law(w, "lapse if hour<11");
        due(w.best(-1), 10);
        due(w.best(10), -1);
        due(w.best(11), 1);
        law(w, "lapse if sky<1");
        // two motions for one hour
        coast(w, "hour 11");
        due(w.best(-1), 8);
        due(w.best(11), 1);

        promise(29);
        DrizzleVote v = council(THREE);
        due(v.shower(0, false), 0);
        due(v.shower(1, false), 4);
        due(v.shower(2, false), 1);
        due(v.shower(3, false), 5);
        due(v.shower(3, true), 14);
        due(v.shower(40, true), 14);
        dueThrow(ARGUMENT, () -> v.shower(41, true));
        dueThrow(ARGUMENT, () -> v.shower(-1, true));
        // several of one worth: the least as bits; and none is less than one of no worth
        DrizzleVote u = council("member at 0;motion of 0 takes 2 worth 5;motion of 0 takes 1 worth 5;motion of 0 takes 1 worth 0");
        due(u.shower(2, false), 1);
        due(u.shower(1, false), 2);
        due(u.shower(4, false), 3);
        coast(u, "paper 0 0;now sun;sky sun 00100;sky dry 00100");
        u.hours(1);
        due(u.shower(9, false), 2);

        promise(30);
        due(v.haste(0), 0);
        due(v.haste(1), 1);
        due(v.haste(2), 2);
        due(v.haste(3), -1);
        due(v.haste(-1), -1);
        // 1 by 3 and 33 by 98 would be one in hundredths
        DrizzleVote t = council("member at 0;motion of 0 takes 9 worth 74;motion of 0 takes 8 worth 66;motion of 0 takes 7 worth 58");
        due(t.haste(0), 2);
        due(t.haste(1), 1);
        due(t.haste(2), 0);
        t.table(1, 0);
        t.hours(1);
        due(t.haste(1), 0);
        due(t.haste(2), -1);
    }

    private static void part31() {
        promise(31);
        DrizzleVote x = council(THREE);
        due(x.cuffs(false), 31);
        due(x.cuffs(true), 5);
        rows(x, 0, 0, 1);
        due(x.cuffs(false), 4);
        due(x.end(1), false);
        rows(x, 0, 0, 0, 1, 0, 1);
        due(x.cuffs(false), 8);
        rows(x, 11, 0, 1, 11, 1, 0, 3, 0, 1);
        due(x.cuffs(true), 1);
        rows(x, 11, 0, 1, 10, 0, 1);
        due(x.cuffs(true), 0);
        wrongRows(x);
        DrizzleVote y = council("member at 1");
        rows(y, 5, 0, 1);
        due(y.cuffs(true), 9999);
        rows(x, 10, 0, 1);
        due(x.cuffs(true), 1);
        rows(y, 11, 0, 1, 10, 0, 1, 9, 0, 1, 8, 0, 1, 7, 0, 1, 6, 0, 1, 5, 0, 1, 4, 0, 0);
        due(y.cuffs(true), 4 * 625);
        rows(y, 0, 0, 1, 1, 0, 1, 2, 0, 1, 3, 0, 1, 4, 0, 1, 5, 0, 1, 6, 0, 1, 7, 0, 0, 8, 0, 0);
        due(y.cuffs(true), 16 * 125);
        // in the sixth hour with a feel line: by every sky
        DrizzleVote z = council("member at 1;hour 6", "feel 1 if hour>5 and not mover and motion>7");
        rows(z, 4, 0, 0);
        due(z.cuffs(true), 0);
        mostRows();

        promise(32);
        due(x.likely(), 0);
        rows(x, 0, 0, 1);
        due(x.likely(), 2);
        rows(x, 0, 1, 1);
        due(x.likely(), -1);
        wrongRows(x);
        // drizzle follows all, all else only itself
        DrizzleVote w = council("member at 1;sky sun 10100;sky dry 01100;sky drizzle 00100;sky fog 00110;sky downpour 00101");
        due(w.likely(), 2);
        rows(w, 0, 0, 0);
        due(w.likely(), 0);

        promise(33);
        rows(x, 0, 0, 1);
        due(x.ago(4), 1);
        rows(x, 0, 0, 1);
        due(x.ago(1), 0);
        due(x.ago(0), -1);
        rows(x, 0, 1, 1);
        due(x.ago(0), -1);
        rows(x, 11, 0, 1);
        due(x.ago(11), 1);
        dueThrow(ARGUMENT, () -> x.ago(12));
        dueThrow(ARGUMENT, () -> x.ago(-1));
        rows(x, 0, 0, 1);
        dueThrow(ARGUMENT, () -> x.ago(12));
        due(x.end(1), false);
        wrongRows(x);

        promise(34);
        due(x.ask(), 0);
        rows(x, 0, 0, 1);
        due(x.ask(), -1);
        wrongRows(x);
        due(new DrizzleVote().ask(), -1);
        DrizzleVote v = council("member at 1;member at 2;member at 3", "feel 1 if member>0 and sky>2");
        due(v.ask(), 1);
        rows(v, 0, 1, 1);
        due(v.ask(), 0);
        rows(v, 0, 1, 0);
        due(v.ask(), 0);
    }

    /** Of the tape 45 bytes are right, more are not, for each call that reads cuffs. */
    private static void mostRows() {
        // fourteen rows of a dry cuff now, and the fifteenth of a wet one eleven hours ago
        int[] most = new int[45];
        most[42] = 11;
        most[44] = 1;
        due(told(most).cuffs(false), 27);
        due(told(most).cuffs(true), 9999);
        due(told(most).likely(), 0);
        due(told(most).ago(11), 1);
        due(told(most).ask(), 0);
        for (int size : new int[] {46, 47, 48, 51, 60, 135, 138, 399, 400}) {
            DrizzleVote x = told(new int[size]);
            dueThrow(ARGUMENT, () -> x.cuffs(false));
            due(x.end(1), false);
            dueThrow(ARGUMENT, () -> told(new int[size]).cuffs(true));
            dueThrow(ARGUMENT, () -> told(new int[size]).likely());
            dueThrow(ARGUMENT, () -> told(new int[size]).ago(0));
            dueThrow(ARGUMENT, () -> told(new int[size]).ask());
        }
    }

    private static DrizzleVote told(int[] cuffs) {
        DrizzleVote x = council("member at 1");
        rows(x, cuffs);
        return x;
    }

    private static void wrongRows(DrizzleVote x) {
        int[][] all = {{12, 0, 1}, {0, 3, 1}, {0, 0, 2}, {0, 0}, {0, 0, 1, 0}, {255, 0, 1}, {0, 255, 1}, {0, 0, 255}};
        for (int[] one : all) {
            rows(x, one);
            int which = promise;
            dueThrow(ARGUMENT, () -> which == 31 ? x.cuffs(true) : which == 32 ? x.likely() : which == 33 ? x.ago(0) : x.ask());
            due(x.end(1), false);
        }
    }

    private static void part35() {
        promise(35);
        due(new DrizzleVote().windows(), 0);
        due(council(THREE).windows(), 5);
        due(council("member at 0;member at 1;member at 2").windows(), 2);
        due(council("member at 0;member at 2;member at 4;member at 6;member at 1;member at 3;member at 5").windows(), 4 + 8 + 16);
        due(council("member at 7;member at 7").windows(), 1);

        promise(36);
        DrizzleVote x = council(THREE);
        due(x.posts(-1), 30);
        due(x.posts(0), 0);
        due(x.posts(1), 2);
        due(x.posts(2), 3);
        coast(x, "place 6 exposed 9;place 2 exposed 6;place 7 exposed 7");
        due(x.posts(-1), 27 + 14 + 6);
        due(x.posts(0), 6);
        due(x.posts(1), 7);
        due(x.posts(2), 2);
        dueThrow(INDEX, () -> x.posts(3));
        dueThrow(INDEX, () -> x.posts(-2));
        due(new DrizzleVote().posts(-1), 0);
        DrizzleVote first = council("member at 1 seats 2;place 0 exposed 6");
        due(first.posts(-1), 12);
        due(first.posts(0), 0);

        promise(37);
        DrizzleVote y = council(THREE);
        due(y.wins(3), true);
        due(y.wins(1), false);
        due(y.wins(129), true);
        due(y.wins(7), true);
        due(y.wins(5), false);
        due(y.wins(0), false);
        due(y.wins(1 | 256), false);
        due(y.wins(1 | 8), false);
        due(y.wins(-1), true);
        y.seat(1, 0);
        due(y.wins(1), false);

        promise(38);
        DrizzleVote z = council(THREE);
        due(z.swings(0), 2);
        due(z.swings(1), 2);
        due(z.swings(2), 0);
        due(z.swings(7), 2);
        z.seat(0, 9);
        due(z.swings(0), 4);
        due(z.swings(7), 0);
        dueThrow(INDEX, () -> z.swings(3));
        dueThrow(INDEX, () -> z.swings(8));
        dueThrow(INDEX, () -> z.swings(-1));

        promise(39);
        due(z.power(0), 100);
        due(z.power(7), 0);
        z.seat(0, 3);
        due(z.power(0), 33);
        due(z.power(2), 0);
        dueThrow(INDEX, () -> z.power(3));
        dueThrow(INDEX, () -> z.power(8));
        DrizzleVote w = council("wet 0;member at 1 seats 0");
        due(w.power(7), 0);

        promise(40);
        due(z.minimal(), 3);
        z.seat(0, 9);
        due(z.minimal(), 1);
        due(w.minimal(), 0);
        // half is not more than half
        DrizzleVote half = council("wet 2;member at 1 seats 2");
        due(half.wins(1), false);
        due(half.wins(129), true);
        due(half.swings(0), 1);
        due(half.minimal(), 1);
        // one of no seats is in no minimal side
        DrizzleVote v = council("wet 2;member at 1 seats 0;member at 1 seats 1");
        due(v.minimal(), 1);

        promise(41);
        due(z.leader(), 0);
        due(v.leader(), 7);
        due(w.leader(), -1);
        due(council(THREE).leader(), 0);
    }

    private static void part42() {
        promise(42);
        DrizzleVote x = council(THREE);
        due(x.minds(1), 1);
        due(x.minds(0), 0);
        x.seat(1, 7);
        due(x.minds(0), 2);
        x.out(1, false);
        due(x.minds(1), -1);
        x.seat(0, 4);
        due(x.minds(1), 1);
        coast(x, "quorum 2");
        due(x.minds(1), -1);
        law(x, "lapse if sky>1");
        due(x.minds(0), -1);
        dueThrow(INDEX, () -> x.minds(3));
        dueThrow(INDEX, () -> x.minds(-1));
        // one change before two, though two are less as bits
        DrizzleVote y = council("member at 1 hat;member at 1;member at 1 seats 2;motion of 0 takes 1 worth 1 for 000;wet 0");
        due(y.minds(0), 5);
        y.seat(2, 9);
        due(y.minds(0), 4);

        promise(43);
        DrizzleVote z = council(THREE);
        due(z.bargain(0, 1), 1);
        due(z.bargain(1, 0), 8);
        dueThrow(ARGUMENT, () -> z.bargain(0, 0));
        dueThrow(INDEX, () -> z.bargain(3, 3));
        dueThrow(INDEX, () -> z.bargain(0, 3));
        dueThrow(INDEX, () -> z.bargain(-1, 0));
        z.seat(1, 20);
        // by her seats both go already once the hat is off
        z.hat(1, false);
        z.seat(0, 17);
        due(z.goes(0, 2, 0), 1);
        due(z.goes(1, 2, 0), 1);
        due(z.bargain(0, 1), -1);
        due(z.bargain(0, 2), -1);
        due(council("member at 0;member at 0").bargain(0, 1), -1);
        // the first one waits, and goes already; the second one would not go
        due(council("member at 0;member at 0;member at 0 seats 9;motion of 0 takes 1 worth 1;motion of 1 takes 1 worth 1;aye 6").bargain(0, 1), -1);
        due(council("member at 0;member at 0;motion of 0 takes 1 worth 1;motion of 1 takes 1 worth 1;aye 6;wet 1").bargain(0, 1), 1);
        due(council("member at 0;member at 0;motion of 1 takes 1 worth 1;motion of 0 takes 1 worth 1;aye 6;wet 1").bargain(0, 1), 8);
        // one that does not wait is no part of a bargain
        DrizzleVote w = council(THREE);
        w.table(1, 0);
        w.hours(1);
        due(w.motion(1, 4), 2);
        due(w.bargain(0, 1), -1);

        promise(44);
        due(z.like(0, 1), 1);
        due(z.like(1, 0), 1);
        due(z.like(0, 2), 0);
        due(z.like(1, 2), 2);
        dueThrow(ARGUMENT, () -> z.like(1, 1));
        dueThrow(INDEX, () -> z.like(3, 3));
        dueThrow(INDEX, () -> z.like(0, -1));
        dueThrow(INDEX, () -> z.like(-1, 0));
        dueThrow(INDEX, () -> z.like(3, 0));

        promise(45);
        due(z.foes(), 2);
        z.mind(2, 0);
        due(z.foes(), 1);
        due(council("member at 0").foes(), -1);
        due(council("member at 0;member at 0").foes(), 1);
        due(council("member at 0;member at 0;member at 0;motion of 0 takes 1 worth 1 for 110;motion of 0 takes 1 worth 1 for 010").foes(), 10);

        promise(46);
        DrizzleVote v = new DrizzleVote();
        due(v.dry(0), 10000);
        due(v.dry(1), 8000);
        due(v.dry(4), 4096);
        due(v.dry(12), council("").dry(12));
        dueThrow(ARGUMENT, () -> v.dry(13));
        dueThrow(ARGUMENT, () -> v.dry(-1));
        coast(v, "now drizzle");
        due(v.dry(0), 0);
        due(v.dry(1), 8000);

        promise(47);
        DrizzleVote u = council("sky dry 09100;sky sun 09100");
        due(u.drought(0), 10000);
        due(u.drought(1), u.dry(12));
        due(u.drought(2), u.dry(12) * u.dry(12) / 10000);
        due(u.drought(3), u.dry(12) * u.dry(12) / 10000 * u.dry(12) / 10000);
        dueThrow(ARGUMENT, () -> u.drought(13));
        dueThrow(ARGUMENT, () -> u.drought(-1));
        due(u.dry(12), 2827);
    }

    private static void part48() {
        promise(48);
        DrizzleVote x = council(THREE);
        due(x.quorate(), true);
        coast(x, "quorum 2");
        due(x.quorate(), true);
        x.out(0, false);
        due(x.quorate(), false);
        due(new DrizzleVote().quorate(), false);
        due(council("quorum 0").quorate(), true);

        promise(49);
        due(new DrizzleVote().enough(), 4);
        due(x.enough(), 1);
        due(council("sky dry 01000").enough(), -1);
        due(council("now drizzle").enough(), 0);
        due(council("sky dry 01100").enough(), 2);
        // 94 hundredths, twelve times, go below 5000 in the twelfth hour for the first time
        DrizzleVote late = council("sky dry 00010;sky fog 09100;sky sun 10000;sky downpour 10000");
        due(late.enough(), firstBelow(late));

        promise(50);
        DrizzleVote y = council(THREE + ";paper 1 1");
        due(y.rests(0), 3);
        // lost if all stay, carried if the opposition goes in
        due(y.rests(1), 4);
        coast(y, "quorum 2");
        due(y.rests(1), 4);
        // the opposition breaks the quorum by going in
        due(y.rests(0), 0);
        dueThrow(INDEX, () -> y.rests(3));
        dueThrow(INDEX, () -> y.rests(-1));
        y.hours(2);
        due(y.rests(0), -1);
        due(y.rests(1), -1);
        // of worth 1: waiting is worse for the mover
        due(council("member at 0;motion of 0 takes 1 worth 1").rests(0), 3);
        // of no worth: nobody has more by another choice
        DrizzleVote z = council("member at 0;motion of 0 takes 1 worth 0");
        due(z.rests(0), 7);
        coast(z, "now sun");
        due(z.rests(0), 4);

        promise(51);
        DrizzleVote w = council(THREE);
        due(w.tabled(), 1);
        w.table(2, 5);
        due(w.tabled(), 5);
        w.clear(0);
        due(w.tabled(), 4);

        promise(52);
        due(w.soaked(), 0);
        w.hours(1);
        due(w.count(4), 2);
        due(w.soaked(), 1);
        w.out(2, true);
        due(w.soaked(), 5);
        coast(w, "aye 5");
        due(w.soaked(), 4);
        law(w, "feel 9 if mover");
        due(w.soaked(), 6);

        promise(53);
        due(w.twins(), 0);
        due(council("member at 1;member at 1;member at 1;member at 2;member at 1 seats 2").twins(), 3);
        due(council("member at 1;member at 1 hat in").twins(), 1);

        promise(54);
        due(council(THREE).richest(), 1);
        due(council("member at 0;motion of 0 takes 1 worth 0;motion of 0 takes 1 worth 0").richest(), 0);
        DrizzleVote v = council(THREE);
        v.table(1, 0);
        v.hours(1);
        due(v.richest(), 0);
        due(new DrizzleVote().richest(), -1);
    }

    private static void part55() {
        promise(55);
        DrizzleVote x = council(THREE + "|paper 1 1;paper 4 2");
        due(x.trial(12, true), 3);
        due(x.trial(12, false), 5);
        due(x.trial(0, false), 0);
        due(x.trial(0, true), 0);
        due(x.trial(60, true), 15);
        due(x.count(5), 0);
        due(x.count(13), 0);
        due(x.seed(1), 1);
        dueThrow(ARGUMENT, () -> x.trial(61, true));
        dueThrow(ARGUMENT, () -> x.trial(-1, true));
        x.hours(1);
        due(x.trial(0, false), 1);

        promise(56);
        due(x.span(0, true), 10);
        due(x.span(4, true), 14);
        due(x.span(4, false), 14);
        dueThrow(ARGUMENT, () -> x.span(61, true));
        dueThrow(ARGUMENT, () -> x.span(-1, false));
        DrizzleVote y = council("member at 0;motion of 0 takes 1 worth 9;paper 0 0;sky dry 10001");
        int least = 99;
        int most = 0;
        for (int seed = 1; seed <= 6; seed++) {
            y.seed(seed);
            int worth = y.trial(1, false) * 9;
            least = Math.min(least, worth);
            most = Math.max(most, worth);
        }
        y.seed(77);
        due(y.span(1, false), least);
        due(y.span(1, true), most);
        due(y.seed(1), 77);
        due(y.count(5), 0);

        promise(57);
        due(x.led(0, false), 1);
        due(x.led(0, true), 2);
        due(x.led(1, false), 0);
        due(x.led(1, true), -1);
        x.hours(1);
        due(x.led(1, true), 3);
        x.renew(1);
        x.hours(12);
        due(x.led(1, false), 2);
        dueThrow(INDEX, () -> x.led(3, true));
        dueThrow(INDEX, () -> x.led(-1, false));

        promise(58);
        due(x.log(0, 0), 1);
        due(x.log(0, 1), 1);
        due(x.log(0, 2), 1);
        due(x.log(0, 3), 3);
        due(x.log(0, 4), 2);
        due(x.log(1, 2), 2);
        due(x.log(3, 2), 0);
        due(x.log(3, 4), 1);
        due(x.log(4, 0), -1);
        due(x.log(-1, 0), -1);
        dueThrow(NO_SUCH, () -> x.log(0, 5));
        dueThrow(NO_SUCH, () -> x.log(9, -1));
        latestSixty();
    }

    private static int firstBelow(DrizzleVote x) {
        for (int n = 0; n <= 12; n++) {
            if (x.dry(n) < 5000) {
                return n;
            }
        }
        return -1;
    }

    private static void latestSixty() {
        DrizzleVote x = council("member at 0;motion of 0 takes 1 worth 9 for 0;motion of 0 takes 1 worth 1;paper 0 0;paper 1 1;quorum 8");
        x.hours(12);
        due(x.count(13), 2);
        for (int i = 0; i < 58; i++) {
            x.renew(0);
            x.hours(12);
        }
        due(x.count(13), 60);
        due(x.log(59, 0), 0);
        due(x.log(58, 2), 1);
        x.renew(0);
        x.hours(12);
        due(x.count(13), 60);
        due(x.log(59, 2), 1);
        due(x.log(60, 2), -1);
        due(x.log(0, 0), 59);
        due(x.led(0, false), 59);
        x.undo();
        due(x.log(0, 0), 58);
        due(x.log(59, 0), 0);
        due(x.log(58, 2), 1);
    }

    private static void part59() {
        promise(59);
        DrizzleVote x = council(THREE);
        due(x.seed(-7), 1);
        due(x.seed(3), -7);
        due(x.count(14), 0);

        promise(60);
        due(x.undo(), false);
        x.hours(5);
        x.seed(9);
        due(x.undo(), true);
        due(x.seed(3), 3);
        due(x.count(5), 0);
        due(x.count(13), 0);
        due(x.motion(0, 4), 0);
        due(x.count(4), 1);
        x.table(1, 0);
        x.clear(0);
        x.hat(0, true);
        x.out(0, false);
        x.walk(0, 7);
        x.mind(0, 0);
        x.seat(0, 9);
        due(x.count(14), 7);
        for (int i = 0; i < 7; i++) {
            due(x.undo(), true);
        }
        due(x.paper(0), 0);
        due(x.member(0, 0), 1);
        due(x.member(0, 1), 3);
        due(x.member(0, 2), 0);
        due(x.member(0, 3), 1);
        due(x.motion(0, 3), 1);
        due(x.undo(), false);
        for (int i = 0; i < 13; i++) {
            x.seat(0, i);
        }
        due(x.count(14), 12);
        for (int i = 11; i >= 0; i--) {
            due(x.undo(), true);
            due(x.member(0, 1), i);
        }
        due(x.undo(), false);
        x.table(1, 0);
        x.hours(1);
        x.renew(1);
        due(x.undo(), true);
        due(x.motion(1, 4), 2);
        law(x, "lapse");
        due(x.undo(), false);

        promise(61);
        x.seat(0, 4);
        x.image();
        due(x.count(14), 1);
        due(x.undo(), true);
        x.back();
        due(x.member(0, 1), 4);
        x.seat(0, 5);
        x.image();
        x.seat(0, 6);
        x.back();
        due(x.member(0, 1), 5);

        promise(62);
        due(new DrizzleVote().back(), false);
        DrizzleVote y = council(THREE);
        y.seat(0, 1);
        due(y.back(), false);
        due(y.count(14), 1);
        y.image();
        y.hours(30);
        law(y, "feel 1");
        coast(y, "member at 3;quorum 4;sky dry 10000;motion of 0 takes 1 worth 1;place 3 exposed 1");
        y.seed(5);
        tape(y, "day 8");
        due(y.back(), true);
        due(y.count(0), 3);
        due(y.count(1), 3);
        due(y.count(2), 1);
        due(y.count(3), -1);
        due(y.count(5), 0);
        due(y.count(7), 1);
        due(y.count(13), 0);
        due(y.count(14), 0);
        due(y.exposed(3), 5);
        due(y.follows(1, 2), 1);
        due(y.seed(1), 1);
        due(y.undo(), false);
        due(y.coast(), 2);
        due(y.count(6), 8);
        due(y.back(), true);
        due(y.count(6), 0);

        // rows of the log that came behind the image are gone, and those of the image are there
        DrizzleVote w = council(THREE + "|paper 0 1");
        w.hours(1);
        w.image();
        w.undo();
        w.table(0, 0);
        w.hours(1);
        due(w.log(0, 2), 0);
        w.back();
        due(w.log(0, 2), 1);
        due(w.log(0, 4), 2);
        due(w.paper(0), 1);

        promise(63);
        DrizzleVote z = council(THREE + ";paper 1 1", "feel 1 if hat;lapse if sky<1");
        z.hours(2);
        int[] due = {3, 3, 1, 2, 3, 2, 0, 1, 3, 3, 4, 1, 3, 2, 1};
        for (int i = 0; i < due.length; i++) {
            due(z.count(i), due[i]);
        }
        due(z.count(15), -1);
        due(z.count(-1), -1);
        coast(z, "aye 4;wet 5;quorum 6;day 7");
        due(z.count(8), 4);
        due(z.count(9), 5);
        due(z.count(7), 6);
        due(z.count(6), 7);
        due(z.count(2), 2);
    }

    public static void main(String[] args) {
        part1();
        part4();
        part5();
        part6();
        part9();
        part13();
        part15();
        part21();
        part27();
        part31();
        part35();
        part42();
        part48();
        part55();
        part59();
        ends("PromisesTest");
    }
}
