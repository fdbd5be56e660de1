/** Edges that the document names of the tape, the texts of the coast and of the law, and fault(). */
public final class TextEdgesTest extends Kit {
    private static void feeding() {
        sentence("Promise 2: twenty bytes come behind the TAPE, of each number the highest first");
        DrizzleVote x = new DrizzleVote();
        // day 7;hour 11;aye 20
        due(x.feed(0x64617920, 0x373b686f, 0x75722031, 0x313b6179, 0x65203230), 20);
        due(x.coast(), 1);
        due(x.count(6), 7);
        due(x.count(5), 11);
        due(x.count(8), 20);
        sentence("Promise 2: of each number the highest first: bytes above 127 too");
        x.feed(0x20202020, -1, 0, 0, 0);
        dueThrow(ARGUMENT, x, y -> y.law());
        due(x.fault(), 4);
        x.feed(0x20202080, 0, 0, 0, 0);
        dueThrow(ARGUMENT, x, y -> y.law());
        due(x.fault(), 3);

        sentence("Promise 2: how many it has");
        x = new DrizzleVote();
        due(x.feed(0, 0, 0, 0, 0), 20);
        x.end(1);
        due(x.feed(MIN, MAX, -1, 0, 1), 21);
        due(x.feed(0, 0, 0, 0, 0), 41);

        sentence("Promise 2: NONE, if it would have more than 400");
        x = new DrizzleVote();
        for (int n = 20; n <= 400; n += 20) {
            due(x.feed(0x20202020, 0x20202020, 0x20202020, 0x20202020, 0x20202020), n);
        }
        due(x.feed(0, 0, 0, 0, 0), NONE);
        x.end(381);
        due(x.feed(0, 0, 0, 0, 0), NONE);
        sentence("Promise 2: and none come, if it would have more than 400");
        due(x.end(382), false);
        due(x.end(381), true);
        due(x.coast(), 1);
        for (int n = 20; n <= 400; n += 20) {
            x.feed(0x20202020, 0x20202020, 0x20202020, 0x20202020, 0x20202020);
        }
        x.end(380);
        sentence("Promise 2: 400 are not more than 400");
        due(x.feed(0x20202020, 0x20202020, 0x20202020, 0x20206e6f, 0x7720666f), 400);
        due(x.feed(0x67202020, 0, 0, 0, 0), NONE);
        dueThrow(ARGUMENT, x, y -> y.coast());
        due(x.fault(), 398);
    }

    private static void ending() {
        sentence("Promise 3: the TAPE has its first n bytes alone: true");
        DrizzleVote x = new DrizzleVote();
        tape(x, "day 12;");
        due(x.end(6), true);
        due(taped(x), 6);
        due(x.end(5), true);
        due(taped(x), 5);
        due(x.coast(), 1);
        due(x.count(6), 1);
        sentence("Promise 3: the TAPE has its first n bytes alone: as many as it has");
        tape(x, "day 34");
        due(x.end(6), true);
        due(x.coast(), 2);
        due(x.count(6), 34);
        sentence("Promise 3: the TAPE has its first n bytes alone: none");
        due(x.end(0), true);
        tape(x, "day 5");
        due(x.end(0), true);
        due(taped(x), 0);
        sentence("Promise 3: false, and nothing happens, if it has fewer");
        due(x.end(1), false);
        tape(x, "day 67");
        due(x.end(7), false);
        due(x.end(400), false);
        due(x.end(MAX), false);
        due(taped(x), 6);
        sentence("Promise 3: false, and nothing happens, if n is below 0");
        due(x.end(-1), false);
        due(x.end(MIN), false);
        due(taped(x), 6);
        due(x.coast(), 3);
        due(x.count(6), 67);
    }

    private static void fullCoast() {
        for (int i = 0; i < 12; i++) {
            sentence("Promise 4: a text of THE COAST: how many there are; at most 12, empty ones too");
            DrizzleVote x = coasts(i);
            due(coast(x, i % 2 == 0 ? "" : "day 3"), i + 1);
            due(x.count(2), i + 1);
        }
        sentence("Promise 4: UnsupportedOperationException: there are 12");
        DrizzleVote x = coasts(12);
        tape(x, "day 77;member at 1");
        dueThrow(FULL, x, y -> y.coast());
        sentence("Promise 4: a call that throws changes nothing but the TAPE, where it is used up");
        sameAs(x, coasts(12));
        x = coasts(12);
        dueThrow(FULL, x, y -> y.coast());
        sameAs(x, coasts(12));
        sentence("Promise 4: and fault(), where a text is read (also by one that is refused)");
        x = coasts(12);
        fault(x, true, "now rain", 4);
        tape(x, "day 77");
        dueThrow(FULL, x, y -> y.coast());
        due(x.fault(), NONE);
        sentence("Promise 4: of several exceptions the one told first: the text is wrong, and there are 12");
        x = coasts(12);
        fault(x, true, "day 77;", 7);
        due(x.count(2), 12);
        due(x.count(6), 0);
        sentence("Promise 4: one goes back to THE IMAGE of fewer texts, and more can come");
        x = coasts(11);
        x.image();
        due(coast(x, "day 1"), 12);
        x.back();
        due(coast(x, "day 2"), 12);
        due(x.count(6), 2);
    }

    private static DrizzleVote coasts(int n) {
        DrizzleVote x = new DrizzleVote();
        for (int i = 0; i < n; i++) {
            x.coast();
        }
        return x;
    }

    private static void coastLines() {
        sentence("THE COAST: a text that is empty, or blanks alone, has no LINE");
        rightCoast(new DrizzleVote(), "");
        rightCoast(new DrizzleVote(), " ");
        rightCoast(new DrizzleVote(), " ".repeat(400));
        DrizzleVote x = council("| ||");
        x.end(0);
        due(x.count(2), 4);
        sentence("THE COAST: LINE { ; LINE }: a LINE must stand ahead of ; and behind it");
        wrongCoast(";", 0);
        wrongCoast(" ; day 1", 1);
        wrongCoast("day 1;", 6);
        wrongCoast("day 1; ", 7);
        wrongCoast("day 1;;day 1", 6);
        wrongCoast("day 1 day 2", 6);
        sentence("THE COAST: at most 14 LINES");
        rightCoast(new DrizzleVote(), times(13, "day 1"));
        x = new DrizzleVote();
        rightCoast(x, times(13, "day 1") + ";day 2");
        due(x.count(6), 2);
        sentence("THE COAST: the first wrong byte of a LINE too many: the first word");
        wrongCoast(times(14, "day 1") + ";day 2", 84);
        wrongCoast(times(14, "day 1") + "; day 2", 85);
        wrongCoast(times(14, "day 1") + ";day 2000", 84);
        wrongCoast(times(15, "day 1") + ";", 84);
        sentence("THE COAST: the text's length, if more must come, behind 14 LINES and ; too");
        wrongCoast(times(14, "day 1") + ";", 84);
        wrongCoast(times(14, "day 1") + "; ", 85);
    }

    private static void coastMembers() {
        sentence("THE COAST: member at N (a PLACE: 0 to 7)");
        DrizzleVote x = council("member at 0;member at 7");
        due(x.member(0, 0), 0);
        due(x.member(1, 0), 7);
        wrongCoast("member at 8", 10);
        wrongCoast("member at 999", 10);
        sentence("THE COAST: seats N (0 to 20; 1 at first)");
        x = council("member at 1 seats 0;member at 1 seats 20;member at 1");
        due(x.member(0, 1), 0);
        due(x.member(1, 1), 20);
        due(x.member(2, 1), 1);
        wrongCoast("member at 1 seats 21", 18);
        sentence("MEMBERS: a HAT or not (not at first), OUT or not (OUT at first)");
        x = council("member at 1;member at 1 hat;member at 1 in;member at 1 seats 2 hat in");
        for (int i = 0; i < 4; i++) {
            due(x.member(i, 2), i % 2);
            due(x.member(i, 3), i < 2 ? 1 : 0);
            due(x.member(i, 1), i < 3 ? 1 : 2);
        }
        wrongCoast("member at 1 hat hat", 16);
        wrongCoast("member at 1 in in", 15);
        wrongCoast("member at 1 in hat", 15);
        wrongCoast("member at 1 hat seats 2", 16);
        wrongCoast("member at 1 seats 2 seats 2", 20);
        sentence("MEMBERS: at most 7, numbered from 0 on");
        x = new DrizzleVote();
        rightCoast(x, times(7, "member at 1"));
        due(x.count(0), 7);
        due(x.member(6, 0), 1);
        dueThrow(INDEX, x, y -> y.member(7, 0));
        sentence("THE COAST: the first wrong byte of a MEMBER too many: the first word");
        wrongCoast(times(8, "member at 1"), 84);
        wrongCoast(times(7, "member at 1") + ";day 1; member in", 91);
        fault(x, true, "member at 1", 0);
        fault(x, true, "day 1; member at 1", 7);
        due(x.count(0), 7);
        due(x.count(6), 0);
    }

    private static void coastMotions() {
        sentence("THE COAST: motion of M: a MEMBER that there is by then");
        rightCoast(new DrizzleVote(), "member at 0;motion of 0 takes 1 worth 1");
        wrongCoast("motion of 0 takes 1 worth 1;member at 0", 10);
        wrongCoast("member at 0;motion of 1 takes 1 worth 1;member at 0", 22);
        rightCoast(council("member at 0;member at 0"), "motion of 1 takes 1 worth 1");
        fault(council("member at 0;member at 0"), true, "motion of 2 takes 1 worth 1", 10);
        fault(council(CROWD), true, "motion of 6 takes 1 worth 1", 0);
        fault(council(times(7, "member at 1")), true, "motion of 7 takes 1 worth 1", 10);
        rightCoast(council(times(7, "member at 1")), "motion of 6 takes 1 worth 1");
        sentence("MOTIONS: TAKES 1 to 9, WORTH 0 to 99");
        DrizzleVote x = council("member at 0;motion of 0 takes 1 worth 0;motion of 0 takes 9 worth 99");
        due(x.motion(0, 1), 1);
        due(x.motion(0, 2), 0);
        due(x.motion(1, 1), 9);
        due(x.motion(1, 2), 99);
        fault(x, true, "motion of 0 takes 0 worth 1", 18);
        fault(x, true, "motion of 0 takes 10 worth 1", 18);
        fault(x, true, "motion of 0 takes 1 worth 100", 26);
        sentence("MOTIONS: those FOR it (the MOVER at first; all others are against); a STATE: 0 waiting (at first)");
        due(council("member at 0;member at 0;motion of 1 takes 1 worth 1").motion(0, 3), 2);
        due(x.motion(0, 4), 0);
        due(x.motion(0, 5), NONE);
        sentence("THE COAST: for: as many figures as there are MEMBERS by then, 1 for, 0 against");
        x = council("member at 0;member at 0;member at 0;motion of 0 takes 1 worth 1 for 000;"
            + "motion of 0 takes 1 worth 1 for 111;motion of 0 takes 1 worth 1 for 100;"
            + "motion of 2 takes 1 worth 1 for 010;member at 0;motion of 0 takes 1 worth 1 for 0001");
        int[] fors = {0, 7, 1, 2, 8};
        for (int i = 0; i < fors.length; i++) {
            due(x.motion(i, 3), fors[i]);
        }
        due(council(CROWD.replace("worth 8", "worth 8 for 0000001")).motion(7, 3), 64);
        due(council(CROWD.replace("worth 8", "worth 8 for 1111111")).motion(7, 3), 127);
        sentence("THE COAST: figures of another number, or others than there may be, are wrong at their begin");
        String two = "member at 0;member at 0;motion of 0 takes 1 worth 1 for ";
        wrongCoast(two + "1", 56);
        wrongCoast(two + "111", 56);
        wrongCoast(two + "12", 56);
        wrongCoast(two + "21", 56);
        wrongCoast(two + "99", 56);
        wrongCoast(two, 56);
        wrongCoast(two + "all", 56);
        wrongCoast(two + "; day 1", 56);
        wrongCoast(two.substring(0, 55), 55);
        sentence("MOTIONS: at most 8, numbered from 0 on");
        x = council(CROWD);
        due(x.count(1), 8);
        due(x.motion(7, 2), 8);
        dueThrow(INDEX, x, y -> y.motion(8, 0));
        sentence("THE COAST: the first wrong byte of a MOTION too many: the first word");
        fault(x, true, "motion of 0 takes 1 worth 1", 0);
        fault(x, true, "day 1; motion of 9", 7);
        wrongCoast("member at 0;" + times(8, "motion of 0 takes 1 worth 1") + ";motion of 0 takes 1 worth 1", 236);
        due(x.count(1), 8);
    }

    private static void coastSkies() {
        sentence("THE COAST: sky: the SKY and five figures, WEIGHTS (0 to 9) with which each follows it, some above 0");
        String[] skies = {"sun", "dry", "drizzle", "fog", "downpour"};
        for (int sky = 0; sky < 5; sky++) {
            DrizzleVote x = council("sky " + skies[sky] + " 01289");
            int[] due = {0, 1, 2, 8, 9};
            for (int next = 0; next < 5; next++) {
                due(x.follows(sky, next), due[next]);
                due(x.follows((sky + 1) % 5, next), 1);
            }
            for (int next = 0; next < 5; next++) {
                StringBuilder one = new StringBuilder("00000");
                one.setCharAt(next, '1');
                rightCoast(x, "sky " + skies[sky] + " " + one);
                due(x.follows(sky, next), 1);
            }
        }
        rightCoast(new DrizzleVote(), "sky sun 99999");
        rightCoast(new DrizzleVote(), "sky sun 00001");
        rightCoast(new DrizzleVote(), "sky sun 10000");
        wrongCoast("sky sun 00000", 8);
        wrongCoast("sky sun 1111", 8);
        wrongCoast("sky sun 111111", 8);
        wrongCoast("sky sun 111111111111", 8);
        wrongCoast("sky sun 1111:", 8);
        wrongCoast("sky sun", 7);
        wrongCoast("sky sun ;day 1", 8);
        wrongCoast("sky sun dry", 8);
        sentence("THE COAST: K: sun, dry, drizzle, fog, downpour; the SKY now");
        for (int sky = 0; sky < 5; sky++) {
            due(council("now " + skies[sky]).count(4), sky);
        }
        wrongCoast("now rain", 4);
        wrongCoast("now suns", 4);
        wrongCoast("now su", 4);
        wrongCoast("now 2", 4);
        wrongCoast("sky rain 11111", 4);
        wrongCoast("sky 11111", 4);
    }

    private static void coastNumbers() {
        sentence("THE COAST: place N exposed N: PLACES 0 to 7, EXPOSED 0 to 9");
        DrizzleVote x = council("place 0 exposed 9;place 7 exposed 0");
        due(x.exposed(0), 9);
        due(x.exposed(7), 0);
        due(x.exposed(1), 5);
        wrongCoast("place 8 exposed 1", 6);
        wrongCoast("place 0 exposed 10", 16);
        sentence("THE COAST: QUORUM 0 to 8");
        due(council("quorum 0").count(7), 0);
        due(council("quorum 8").count(7), 8);
        wrongCoast("quorum 9", 7);
        sentence("THE COAST: AYE 1 to 20");
        due(council("aye 1").count(8), 1);
        due(council("aye 20").count(8), 20);
        wrongCoast("aye 0", 4);
        wrongCoast("aye 21", 4);
        sentence("THE COAST: WET 0 to 20");
        due(council("wet 0").count(9), 0);
        due(council("wet 20").count(9), 20);
        wrongCoast("wet 21", 4);
        sentence("THE COAST: HOUR 0 to 11");
        due(council("hour 5;hour 0").count(5), 0);
        due(council("hour 11").count(5), 11);
        wrongCoast("hour 12", 5);
        sentence("THE COAST: day: 0 to 999");
        due(council("day 5;day 0").count(6), 0);
        due(council("day 999").count(6), 999);
        wrongCoast("day 1000", 4);
        sentence("THE COAST: numbers are of 1 to 3 digits");
        due(council("day 007").count(6), 7);
        due(council("day 000").count(6), 0);
        wrongCoast("day 0007", 4);
        wrongCoast("day 0000", 4);
        wrongCoast("day 4294967297", 4);
        wrongCoast("day", 3);
        wrongCoast("day -1", 4);
        wrongCoast("member at 0001", 10);
        wrongCoast("quorum 0001", 7);
        due(council("quorum 008").count(7), 8);
        // each number of its own, one digit too many
        wrongCoast("member at 1 seats 0001", 18);
        wrongCoast("place 0001 exposed 1", 6);
        wrongCoast("place 1 exposed 0001", 16);
        wrongCoast("aye 0001", 4);
        wrongCoast("wet 0001", 4);
        wrongCoast("hour 0001", 5);
        wrongCoast("paper 0001 0", 6);
    }

    private static void coastPaper() {
        String two = "member at 0;motion of 0 takes 1 worth 1;motion of 0 takes 1 worth 1;";
        sentence("THE COAST: paper: an HOUR (0 to 11)");
        DrizzleVote x = council(two + "paper 0 0;paper 11 1");
        due(x.paper(0), 0);
        due(x.paper(11), 1);
        wrongCoast(two + "paper 12 0", 74);
        sentence("THE COAST: paper: a MOTION that there is by then, else it is wrong at it");
        wrongCoast(two + "paper 0 2", 76);
        wrongCoast("paper 0 0", 8);
        wrongCoast("member at 0;paper 0 0;motion of 0 takes 1 worth 1", 20);
        wrongCoast(two + "paper 0 0001", 76);
        wrongCoast(two + "paper 0", 75);
        rightCoast(council(CROWD), "paper 11 7");
        fault(council(CROWD), true, "paper 11 8", 9);
        sentence("THE COAST: paper: a MOTION that stands in no other HOUR, else it is wrong at it");
        wrongCoast(two + "paper 3 0;paper 4 0", 86);
        wrongCoast(two + "paper 3 0;paper 0 0", 86);
        fault(x, true, "paper 1 0", 8);
        fault(x, true, "paper 10  1", 10);
        due(x.paper(1), NONE);
        due(x.paper(0), 0);
        sentence("THE COAST: paper: the HOUR in which it stands is no other one");
        rightCoast(x, "paper 0 0;paper 11 1");
        due(x.paper(0), 0);
        sentence("THE COAST: paper: what stood there stands nowhere then, and can stand elsewhere");
        rightCoast(x, "paper 11 1;paper 0 0");
        x = council(two + "paper 3 0;paper 3 1;paper 4 0");
        due(x.paper(3), 1);
        due(x.paper(4), 0);
        due(x.motion(1, 5), 3);
    }

    private static void coastWords() {
        sentence("Words are as long as a to z go on; between all there may be blanks (32), also ahead and behind");
        DrizzleVote x = council("  member   at  1seats 2hat  in  ;motion of 0takes 3worth 4for 1;sky fog00001;"
            + "place 1exposed 2;paper 0 0;  now  fog  ");
        due(x.member(0, 1), 2);
        due(x.member(0, 2), 1);
        due(x.member(0, 3), 0);
        due(x.motion(0, 1), 3);
        due(x.motion(0, 3), 1);
        due(x.follows(3, 0), 0);
        due(x.exposed(1), 2);
        due(x.count(4), 3);
        wrongCoast("memberat 1", 0);
        wrongCoast("member at1 hatin", 11);
        wrongCoast("nowfog", 0);
        wrongCoast("n ow fog", 0);
        wrongCoast("now f og", 4);
        wrongCoast("day 1 2", 6);
        sentence("THE COAST: the first wrong byte: a word that is none");
        wrongCoast("rain 1", 0);
        wrongCoast("  days 1", 2);
        wrongCoast("Day 1", 0);
        wrongCoast("dAy 1", 0);
        wrongCoast("dayz", 0);
        wrongCoast("day{", 3);
        wrongCoast("day`", 3);
        wrongCoast("day 1:", 5);
        wrongCoast("day 1/", 5);
        wrongCoast("feel 1", 0);
        wrongCoast("5", 0);
        wrongCoast("5 1", 0);
        wrongCoast("day 1;5", 6);
        wrongCoast("day :", 4);
        wrongCoast("day /", 4);
        wrongCoast("sky sun :0000", 8);
        wrongCoast("sky sun 0000:", 8);
        sentence("THE COAST: the first wrong byte: a word that is none, for each word");
        String[] lines = {"member at 1 seats 1 hat in", "motion of 0 takes 1 worth 1 for 1", "sky sun 11111", "sky dry 11111",
            "now drizzle", "now fog", "now downpour", "now sun", "now dry", "place 1 exposed 1", "quorum 1", "aye 1", "wet 1",
            "paper 1 0", "hour 1", "day 1"};
        for (String one : lines) {
            spoilt(one);
        }
        sentence("THE COAST: the first wrong byte: blanks are 32 alone");
        for (char c : new char[] {0, 9, 10, 13, 31, 33, 127, 128, 160, 255}) {
            wrongCoast(c + "day 1", 0);
            wrongCoast("day" + c + "1", 3);
            wrongCoast("day 1" + c, 5);
        }
        sentence("THE COAST: the text's length, if more must come");
        String[] broken = {"member", "member at", "member at 1 seats", "motion", "motion of", "sky", "sky fog", "now",
            "place", "place 1", "place 1 exposed", "quorum", "aye", "wet", "paper", "paper 1", "hour", "day"};
        for (String one : broken) {
            wrongCoast(one, one.length());
            wrongCoast(one + "  ", one.length() + 2);
            wrongCoast(one + ";day 1", one.length());
        }
        String[] brokenMotion = {"motion of 0", "motion of 0 takes", "motion of 0 takes 1", "motion of 0 takes 1 worth",
            "motion of 0 takes 1 worth 1 for"};
        for (String one : brokenMotion) {
            fault(council("member at 0"), true, one, one.length());
            fault(council("member at 0"), true, one + " ;", one.length() + 1);
            fault(council("member at 0"), true, one + " at", one.length() + 1);
        }
        sentence("THE COAST: a text of 400 bytes, the last one of which counts");
        rightCoast(new DrizzleVote(), " ".repeat(395) + "day 1");
        wrongCoast(" ".repeat(395) + "day 1".replace('1', 'x'), 399);
        wrongCoast(" ".repeat(396) + "day ", 400);
    }

    /** With any letter of a word changed, or one more behind it, the text is wrong at the word's begin. */
    private static void spoilt(String line) {
        String ahead = "member at 1;motion of 0 takes 1 worth 1;";
        rightCoast(new DrizzleVote(), ahead + line);
        for (int[] one : wordsOf(line)) {
            for (int i = one[0]; i < one[1]; i++) {
                StringBuilder b = new StringBuilder(line);
                b.setCharAt(i, 'q');
                if (line.charAt(i) != 'q') {
                    wrongCoast(ahead + b, ahead.length() + one[0]);
                }
            }
            wrongCoast(ahead + line.substring(0, one[1]) + "s" + line.substring(one[1]), ahead.length() + one[0]);
        }
    }

    private static void nothingStays() {
        sentence("Of a wrong text nothing stays");
        String[] lines = {"member at 7", "motion of 0 takes 9 worth 1 for 111", "sky dry 90000", "now downpour",
            "place 0 exposed 9", "quorum 8", "aye 20", "wet 20", "paper 11 3", "hour 9", "day 99"};
        for (String one : lines) {
            DrizzleVote x = world();
            x.end(0);
            boolean elsewhere = one.startsWith("paper");
            if (elsewhere) {
                x.clear(7);
            }
            tape(x, one + ";now rain");
            dueThrow(ARGUMENT, x, y -> y.coast());
            due(x.fault(), one.length() + 5);
            DrizzleVote twin = world();
            twin.end(0);
            if (elsewhere) {
                twin.clear(7);
            }
            fault(twin, true, one.replaceAll(".", " ") + " now rain", one.length() + 5);
            sameAs(x, twin);
        }
        sentence("Of a wrong text nothing stays: acts stay remembered");
        DrizzleVote x = world();
        x.end(0);
        fault(x, true, "day 9;", 6);
        fault(x, false, "feel 9;", 7);
        due(x.count(14), 4);
        due(x.undo(), true);
        due(x.motion(3, 5), 5);
        sentence("UNDONE: a text: none are remembered");
        x = world();
        due(x.coast(), 3);
        due(x.count(14), 0);
        due(x.undo(), false);
        due(x.motion(3, 5), 7);
        x = world();
        x.end(0);
        due(x.law(), 0);
        due(x.count(14), 0);
        due(x.undo(), false);
        sentence("UNDONE: a text that is refused, as there are 12: acts stay remembered");
        x = coasts(12);
        x.hours(1);
        tape(x, "day 3");
        dueThrow(FULL, x, y -> y.coast());
        due(x.count(14), 1);
        due(x.undo(), true);
        due(x.count(5), 0);
    }

    private static void faults() {
        sentence("Promise 6: NONE ahead of any");
        DrizzleVote x = new DrizzleVote();
        due(x.fault(), NONE);
        sentence("Promise 6: the first wrong byte of the latest text that was read");
        fault(x, true, "now rain", 4);
        due(x.fault(), 4);
        fault(x, false, "feel 21", 5);
        due(x.fault(), 5);
        fault(x, true, "!", 0);
        sentence("Promise 6: NONE without one");
        fault(x, true, "now fog", NONE);
        fault(x, false, "feel 21", 5);
        fault(x, false, "feel 20", NONE);
        fault(x, false, "feel 21", 5);
        fault(x, false, "", NONE);
        sentence("Promise 6: the TAPE of cuffs is no text");
        fault(x, true, "member at 1;now rain", 16);
        coast(x, "member at 1");
        fault(x, true, "now rain", 4);
        rows(x, 0, 0, 1);
        x.cuffs(true);
        rows(x, 0, 0, 2);
        dueThrow(ARGUMENT, x, y -> y.cuffs(true));
        due(x.fault(), 4);
        sentence("UNDONE, THE IMAGE: but for fault()");
        x.hat(0, true);
        x.image();
        fault(x, false, "feel 21", 5);
        x.undo();
        due(x.fault(), 5);
        x.back();
        due(x.fault(), 5);
    }

    public static void main(String[] args) {
        feeding();
        ending();
        fullCoast();
        coastLines();
        coastMembers();
        coastMotions();
        coastSkies();
        coastNumbers();
        coastPaper();
        coastWords();
        nothingStays();
        faults();
        ends("TextEdgesTest");
    }
}
