/** Edges that the document names of the law: its text, what is felt, and when a motion lapses. */
public final class LawEdgesTest extends Kit {
    private static void lines() {
        sentence("Promise 5: how many LINES; a text that is empty, or blanks alone, has none");
        DrizzleVote x = new DrizzleVote();
        due(x.count(3), NONE);
        due(law(x, ""), 0);
        due(x.count(3), 0);
        due(law(x, "  "), 0);
        due(law(x, "lapse"), 1);
        due(law(x, "feel 1;dull 1;lapse"), 3);
        due(x.count(3), 3);
        sentence("Promise 5: uses the TAPE up, right or wrong");
        due(taped(x), 0);
        fault(x, false, "lapse;", 6);
        due(taped(x), 0);
        sentence("THE LAW: at most 12 LINES");
        due(law(x, times(11, "feel 1")), 11);
        due(law(x, times(12, "feel 1")), 12);
        due(x.count(3), 12);
        sentence("THE LAW: 12 LINES of one kind: all hold, and there is no lapse LINE");
        DrizzleVote twelve = council("member at 0;motion of 0 takes 1 worth 1", times(12, "feel 1"));
        due(twelve.felt(0, 1, NONE), 12);
        due(twelve.goes(0, 0, 0), 3);
        due(twelve.goes(0, 1, 0), 1);
        law(twelve, times(11, "feel 1") + ";lapse if sky>0");
        due(twelve.goes(0, 0, 0), 1);
        due(twelve.goes(0, 1, 0), 3);
        sentence("THE LAW: the first wrong byte of a LINE too many: the first word");
        wrongLaw(times(12, "feel 1") + ";feel 1", 84);
        wrongLaw(times(12, "feel 1") + "; feel 21", 85);
        wrongLaw(times(13, "lapse") + ";", 72);
        wrongLaw(times(12, "lapse") + ";", 72);
        wrongLaw(times(12, "lapse") + "; ", 73);
        sentence("THE LAW: LINE { ; LINE }: a LINE must stand ahead of ; and behind it");
        wrongLaw(";", 0);
        wrongLaw(" ;lapse", 1);
        wrongLaw("lapse;", 6);
        wrongLaw("lapse; ", 7);
        wrongLaw("lapse;;lapse", 6);
        wrongLaw("lapse lapse", 6);
        sentence("THE LAW: there is no bound of texts");
        x = new DrizzleVote();
        for (int i = 0; i < 20; i++) {
            due(law(x, "lapse"), 1);
        }
    }

    private static void inPlace() {
        sentence("THE LAW: in place of the one before");
        DrizzleVote x = council("member at 1;motion of 0 takes 1 worth 1", "feel 3;lapse if sky<5");
        due(x.felt(0, 0, NONE), 3);
        due(x.goes(0, 1, 0), 3);
        law(x, "feel 4");
        due(x.felt(0, 0, NONE), 4);
        due(x.goes(0, 1, 0), 1);
        law(x, "");
        due(x.felt(0, 0, NONE), 0);
        sentence("THE LAW: of a wrong text nothing stays, the one before does");
        law(x, "feel 3;lapse if sky>2");
        for (String one : new String[] {"feel 9;", "dull 9;feel 21", "lapse;lapse if", "feel 4 lapse", "!"}) {
            tape(x, one);
            dueThrow(ARGUMENT, x, y -> y.law());
            due(x.count(3), 2);
            due(x.felt(0, 0, NONE), 3);
            due(x.goes(0, 3, 0), 3);
            due(x.goes(0, 2, 0), 1);
        }
        sentence("THE LAW: a wrong one as the first: there is none then");
        x = council("member at 1 hat");
        fault(x, false, "feel 1;feel", 11);
        due(x.count(3), NONE);
        due(x.felt(0, 2, NONE), 0);
        sentence("THE IMAGE: of THE LAW too, and of having none");
        x.image();
        law(x, "feel 2");
        x.back();
        due(x.count(3), NONE);
        due(x.felt(0, 2, NONE), 0);
        law(x, "feel 2");
        x.image();
        law(x, "feel 7;feel 8");
        x.back();
        due(x.count(3), 1);
        due(x.felt(0, 0, NONE), 2);
    }

    private static void numbers() {
        sentence("THE LAW: N 0 to 20");
        DrizzleVote x = council("member at 1");
        law(x, "feel 0");
        due(x.felt(0, 0, NONE), 0);
        law(x, "feel 20");
        due(x.felt(0, 0, NONE), 20);
        law(x, "dull 0");
        due(x.felt(0, 2, NONE), 5);
        law(x, "feel 20;feel 2;dull 20");
        due(x.felt(0, 0, NONE), 2);
        law(x, "feel 020");
        wrongLaw("feel 21", 5);
        wrongLaw("feel 999", 5);
        wrongLaw("dull 21", 5);
        wrongLaw("feel 0020", 5);
        wrongLaw("dull 0000", 5);
        wrongLaw("lapse 1", 6);
        sentence("THE LAW: all numbers are of 1 to 3 digits");
        rightLaw("lapse if 999>000");
        rightLaw("lapse if 001<1+999");
        wrongLaw("lapse if 1000>1", 9);
        wrongLaw("lapse if 0001>1", 9);
        wrongLaw("lapse if 1>1000", 11);
        wrongLaw("lapse if 1>1+0001", 13);
        wrongLaw("lapse if 4294967296<1", 9);
    }

    private static void depth() {
        sentence("THE LAW: ( and not within one another at most 6 deep");
        rightLaw("lapse if ((((((hat))))))");
        rightLaw("lapse if not not not not not not hat");
        rightLaw("lapse if (not(not(not hat)))");
        rightLaw("lapse if not(not(not(hat)))");
        rightLaw("lapse if (((((1<2 or (hat))))))");
        DrizzleVote deepest = council("member at 0 hat");
        for (int least = 2; least <= 3; least++) {
            law(deepest, "feel 1 if " + "1>2 or hat and (".repeat(6) + "1>2 or hat and " + least + "+1<1+1+2))))))");
            due(deepest.felt(0, 0, NONE), least == 2 ? 1 : 0);
        }
        sentence("THE LAW: the first wrong byte: the ( or not that is a 7th one deep");
        wrongLaw("lapse if (((((((hat)))))))", 15);
        wrongLaw("lapse if not not not not not not not hat", 33);
        wrongLaw("lapse if ((((((not hat))))))", 15);
        wrongLaw("lapse if not(not(not(not hat)))", 21);
        wrongLaw("lapse if (((((((", 15);
        wrongLaw("lapse if ((((((hat and not wet))))))", 23);
        wrongLaw("lapse if ((((((hat or ((", 22);
        sentence("THE LAW: one behind another they are no deeper");
        rightLaw("lapse if not hat and not hat and not hat and not hat and not hat and not hat and not hat");
        rightLaw("lapse if (hat)or(hat)or(hat)or(hat)or(hat)or(hat)or(hat)or(hat)");
        rightLaw("lapse if (((((not hat and not hat and (hat) or not wet)))))");
        rightLaw("lapse if ((((((hat))))))or((((((hat))))))");
        rightLaw("lapse if ((((((hat))))));lapse if ((((((hat))))))");
        sentence("THE LAW: a text of as much as the TAPE has: parts of one SUM, and atoms");
        DrizzleVote x = council("member at 0");
        law(x, "feel 1 if 194<" + "1+".repeat(192) + "1");
        due(x.felt(0, 0, NONE), 0);
        law(x, "feel 1 if 192<" + "1+".repeat(192) + "1");
        due(x.felt(0, 0, NONE), 1);
        law(x, "feel 1 if hat" + " or wet".repeat(54));
        due(x.felt(0, 1, NONE), 0);
        due(x.felt(0, 2, NONE), 6);
        law(x, "feel 1 if wet" + " and wet".repeat(47));
        due(x.felt(0, 1, NONE), 0);
        due(x.felt(0, 4, NONE), 1);
    }

    private static void wrongBytes() {
        sentence("THE LAW: the first wrong byte: the begin of the first thing that cannot stand there");
        wrongLaw("felt 1", 0);
        wrongLaw("5", 0);
        wrongLaw("5 if hat", 0);
        wrongLaw("lapse;5", 6);
        wrongLaw("lapse;5 if hat", 6);
        wrongLaw("member at 1", 0);
        wrongLaw(" feels 1", 1);
        wrongLaw("feel1if hat", NONE);
        wrongLaw("feel 1ifhat", 6);
        wrongLaw("lapseif hat", 0);
        wrongLaw("feel hat", 5);
        wrongLaw("feel 1 when hat", 7);
        wrongLaw("lapse if and hat", 9);
        wrongLaw("lapse if or", 9);
        wrongLaw("lapse if if", 9);
        wrongLaw("lapse if )", 9);
        wrongLaw("lapse if ()", 10);
        wrongLaw("lapse if hat)", 12);
        wrongLaw("lapse if (hat))", 14);
        wrongLaw("lapse if (hat;lapse)", 13);
        wrongLaw("lapse if hat wet", 13);
        wrongLaw("lapse if hat<1", 12);
        wrongLaw("lapse if 1<hat", 11);
        wrongLaw("lapse if 1<2<3", 12);
        wrongLaw("lapse if 1=2", 10);
        wrongLaw("lapse if 1<=2", 11);
        wrongLaw("lapse if 1-1<2", 10);
        wrongLaw("lapse if (1)<2", 11);
        wrongLaw("lapse if 1+(1)<2", 11);
        wrongLaw("lapse if 1++1<2", 11);
        wrongLaw("lapse if +1<2", 9);
        wrongLaw("lapse if places<2", 9);
        wrongLaw("lapse if skyy<2", 9);
        wrongLaw("lapse if not", 12);
        wrongLaw("lapse if not and", 13);
        wrongLaw("lapse if day<2", 9);
        for (char c : new char[] {0, 9, 31, 33, 128, 160, 255}) {
            wrongLaw(c + "lapse", 0);
            wrongLaw("lapse" + c, 5);
            wrongLaw("lapse if" + c + "hat", 8);
        }
        wrongLaw("feel :", 5);
        wrongLaw("feel /", 5);
        wrongLaw("lapse if :<1", 9);
        sentence("THE LAW: the first wrong byte: a word that is none, for each word");
        String[] words = {"feel 1", "dull 1", "lapse", "lapse if hat", "lapse if not hat", "lapse if wet", "lapse if mover",
            "lapse if hat and wet", "lapse if hat or wet", "lapse if member<1", "lapse if exposed<1", "lapse if seats<1",
            "lapse if sky<1", "lapse if hour<1", "lapse if motion<1", "lapse if worth<1", "lapse if 1<member",
            "lapse if 1>exposed", "lapse if 1<1+seats", "lapse if 1+1>sky", "lapse if 1<hour", "lapse if 1<motion",
            "lapse if 1<worth"};
        for (String one : words) {
            spoilt(one);
        }
        sentence("THE LAW: the text's length, if more must come");
        String[] broken = {"feel", "dull", "lapse if", "lapse if not", "lapse if (", "lapse if (hat", "lapse if hat or",
            "lapse if hat and", "lapse if 1", "lapse if 1+", "lapse if 1+1", "lapse if 1<", "lapse if 1>1+",
            "lapse if sky", "lapse if (1<2", "feel 1;", "feel 1 if"};
        for (String one : broken) {
            wrongLaw(one, one.length());
            wrongLaw(one + " ", one.length() + 1);
        }
        sentence("THE LAW: between all there may be blanks, or none");
        rightLaw("  feel  1  if  (  hat  or  1  +  sky  <  3  )  ;  lapse  ");
        rightLaw("feel1if(hat)or1+sky<3and(wet)or not(mover);lapse if not(hat)");
    }

    /** With any letter of a word changed, or one more behind it, the text is wrong at the word's begin. */
    private static void spoilt(String text) {
        rightLaw(text);
        for (int[] one : wordsOf(text)) {
            for (int i = one[0]; i < one[1]; i++) {
                StringBuilder b = new StringBuilder(text);
                b.setCharAt(i, text.charAt(i) == 'q' ? 'x' : 'q');
                wrongLaw(b.toString(), one[0]);
            }
            wrongLaw(text.substring(0, one[1]) + "s" + text.substring(one[1]), one[0]);
        }
    }

    /** Of member 1 (hat, 4 seats, at place 3 that is exposed 6), motion 1 (worth 9, moved by it), in hour 5. */
    private static void holds(String condition, int sky, boolean want) {
        DrizzleVote x = council("member at 0 seats 2;member at 3 seats 4 hat;motion of 0 takes 1 worth 7;"
            + "motion of 1 takes 1 worth 9;place 3 exposed 6;hour 5", "dull 20 if sky>1 and sky<3;feel 1;feel 1 if " + condition
            + ";feel 20 if sky>1 and sky<3;dull 6 if sky>1 and sky<3");
        int felt = x.felt(1, sky, 1);
        if (felt != (want ? 2 : 1)) {
            fails("'" + condition + "' must be " + want + " by sky " + sky);
        }
    }

    private static void atoms() {
        sentence("THE LAW: wet: the SKY is 2, 3 or 4");
        boolean[] wet = {false, false, true, true, true};
        for (int sky = 0; sky < 5; sky++) {
            holds("wet", sky, wet[sky]);
            holds("not wet", sky, !wet[sky]);
            holds("sky<" + sky, sky, false);
            holds("sky<" + (sky + 1), sky, true);
            holds("sky+1>" + sky, sky, true);
        }
        sentence("THE LAW: SUM < SUM, SUM > SUM: as much is neither");
        holds("5<5", 1, false);
        holds("5>5", 1, false);
        holds("4<5", 1, true);
        holds("6>5", 1, true);
        holds("999+999>999+998", 1, true);
        sentence("THE LAW: PART: member, exposed, seats, sky, hour, motion, worth");
        String[] parts = {"member", "exposed", "seats", "sky", "hour", "motion", "worth"};
        int[] values = {1, 6, 4, 3, 5, 1, 9};
        for (int i = 0; i < parts.length; i++) {
            holds(parts[i] + "<" + (values[i] + 1), 3, true);
            holds(parts[i] + "<" + values[i], 3, false);
            holds(values[i] - 1 + "<" + parts[i], 3, true);
            holds(parts[i] + "+1>" + (values[i] + 1), 3, false);
        }
        holds("member+exposed+seats+sky+hour+motion+worth>28", 3, true);
        holds("member+exposed+seats+sky+hour+motion+worth>29", 3, false);
        sentence("THE LAW: ALL { or ALL }, ATOM { and ATOM }: and binds ahead of or, not ahead of both");
        holds("hat or hat and 1>2", 1, true);
        holds("1>2 and hat or hat", 1, true);
        holds("1>2 and (hat or hat)", 1, false);
        holds("not hat and hat or hat", 1, true);
        holds("not (hat or hat)", 1, false);
        holds("not 1>2", 1, true);
        holds("not hat or not hat or not hat", 1, false);
        holds("hat and hat and 1>2", 1, false);
        holds("1>2 or 1>2 or hat", 1, true);
        holds("not not hat", 1, true);
        holds("not not not not not hat", 1, false);
        sentence("THE LAW: hat: it has a HAT; mover: it is the MOVER");
        DrizzleVote x = council("member at 1;member at 1 hat;motion of 0 takes 1 worth 1", "feel 1 if hat;feel 2 if mover");
        due(x.felt(0, 0, 0), 2);
        due(x.felt(1, 0, 0), 1);
        x.hat(0, true);
        due(x.felt(0, 0, 0), 3);
        sentence("THE LAW: motion 8, worth 0, not mover without a MOTION");
        x = council(CROWD, "feel 1 if motion<8;feel 2 if motion>8;feel 4 if worth>0;feel 8 if mover");
        due(x.felt(6, 0, NONE), 0);
        due(x.felt(6, 0, 7), 1 + 4 + 8);
        due(x.felt(5, 0, 7), 1 + 4);
        law(x, "feel 1 if motion>6;feel 2 if motion>7;feel 4 if not mover");
        due(x.felt(6, 0, NONE), 1 + 2 + 4);
        due(x.felt(6, 0, 7), 1);
        due(x.felt(6, 0, 6), 0);
        sentence("THE LAW: hour: as told: HOUR for felt(), the HOUR of goes()");
        x = council("member at 1;motion of 0 takes 1 worth 1;hour 11", "feel 1 if hour>10;lapse if hour>10");
        due(x.felt(0, 0, 0), 1);
        due(x.goes(0, 0, 11), 3);
        due(x.goes(0, 0, 10), 1);
        due(x.goes(0, 0, 0), 1);
        x.hours(1);
        due(x.felt(0, 0, 0), 0);
        due(x.goes(0, 0, 11), 3);
    }

    private static void felt() {
        sentence("FELT: EXPOSED of its PLACE, if the SKY is 2 and it is OUT, else 0");
        DrizzleVote x = council("member at 0;member at 7;place 0 exposed 9;place 7 exposed 0");
        for (int sky = 0; sky < 5; sky++) {
            due(x.felt(0, sky, NONE), sky == 2 ? 9 : 0);
            due(x.felt(1, sky, NONE), 0);
        }
        x.out(0, false);
        due(x.felt(0, 2, NONE), 0);
        x.out(0, true);
        x.walk(0, 1);
        due(x.felt(0, 2, NONE), 5);
        sentence("FELT: without a text: with a HAT 0");
        x.hat(0, true);
        due(x.felt(0, 2, NONE), 0);
        sentence("FELT: with a text, an empty one too, a HAT is nothing by itself");
        law(x, "");
        due(x.felt(0, 2, NONE), 5);
        law(x, "lapse");
        due(x.felt(0, 2, NONE), 5);
        sentence("FELT: the sum of N of all feel LINES that hold, less that of all dull LINES");
        law(x, "feel 3;feel 4 if hat;feel 5 if wet;dull 1;dull 2 if hat;dull 3 if not hat;lapse if hat");
        due(x.felt(0, 2, NONE), 5 + 3 + 4 + 5 - 1 - 2);
        due(x.felt(0, 0, NONE), 3 + 4 - 1 - 2);
        due(x.felt(1, 3, NONE), 3 + 5 - 1 - 3);
        sentence("FELT: of one who is in too, but for EXPOSED");
        x.out(0, false);
        due(x.felt(0, 2, NONE), 3 + 4 + 5 - 1 - 2);
        x.out(0, true);
        sentence("FELT: 20 at most");
        law(x, "feel 14");
        due(x.felt(0, 2, NONE), 19);
        law(x, "feel 15");
        due(x.felt(0, 2, NONE), 20);
        law(x, "feel 16");
        due(x.felt(0, 2, NONE), 20);
        law(x, times(12, "feel 20"));
        due(x.felt(0, 2, NONE), 20);
        sentence("FELT: 0 at least");
        law(x, "dull 4");
        due(x.felt(0, 2, NONE), 1);
        law(x, "dull 5");
        due(x.felt(0, 2, NONE), 0);
        law(x, "dull 6");
        due(x.felt(0, 2, NONE), 0);
        law(x, times(12, "dull 20"));
        due(x.felt(0, 2, NONE), 0);
        sentence("FELT: 0 at least, 20 at most of the whole, in whatever order the LINES stand");
        law(x, "feel 20;feel 20;dull 20;dull 15");
        due(x.felt(0, 0, NONE), 5);
        law(x, "dull 20;feel 20;dull 15;feel 20");
        due(x.felt(0, 0, NONE), 5);
        law(x, "dull 20;feel 7");
        due(x.felt(0, 0, NONE), 0);
    }

    private static void lapses() {
        String two = "member at 1;member at 1 seats 9 hat;motion of 0 takes 1 worth 1 for 11;motion of 1 takes 1 worth 2";
        sentence("LAPSES: without such LINES (or a text): the SKY is 0");
        DrizzleVote x = council(two);
        for (int i = 0; i < 3; i++) {
            for (int sky = 0; sky < 5; sky++) {
                due(x.goes(0, sky, 3), sky == 0 ? 3 : 1);
            }
            law(x, i == 0 ? "" : "feel 1;dull 1");
        }
        sentence("LAPSES: whether some lapse LINE holds");
        law(x, "lapse if 1>2");
        due(x.goes(0, 0, 0), 1);
        law(x, "lapse");
        for (int sky = 0; sky < 5; sky++) {
            due(x.goes(0, sky, 0), 3);
        }
        law(x, "lapse if sky>3;feel 2;lapse if sky>1 and sky<3");
        int[] due = {1, 1, 3, 1, 3};
        for (int sky = 0; sky < 5; sky++) {
            due(x.goes(0, sky, 0), due[sky]);
        }
        sentence("LAPSES: of its MOVER");
        law(x, "lapse if hat");
        due(x.goes(0, 1, 0), 1);
        due(x.goes(1, 1, 0), 3);
        law(x, "lapse if mover and member<1");
        due(x.goes(0, 1, 0), 3);
        due(x.goes(1, 1, 0), 1);
        law(x, "lapse if not mover");
        due(x.goes(0, 1, 0), 1);
        sentence("LAPSES: of a MOTION in a SKY: its number and WORTH");
        law(x, "lapse if motion<1");
        due(x.goes(0, 1, 0), 3);
        due(x.goes(1, 1, 0), 1);
        law(x, "lapse if worth>1");
        due(x.goes(0, 1, 0), 1);
        due(x.goes(1, 1, 0), 3);
    }

    public static void main(String[] args) {
        lines();
        inPlace();
        numbers();
        depth();
        wrongBytes();
        atoms();
        felt();
        lapses();
        ends("LawEdgesTest");
    }
}
