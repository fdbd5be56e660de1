import java.io.IOException;
import java.lang.reflect.Method;
import java.lang.reflect.Modifier;
import java.nio.file.Files;
import java.nio.file.Path;
import java.util.ArrayList;
import java.util.HashMap;
import java.util.List;
import java.util.Map;
import java.util.TreeSet;
import java.util.regex.Matcher;
import java.util.regex.Pattern;

/** The Java of README.md: it stands here to the letter, runs, and answers what README.md says behind its lines. */
public final class ReadmeTest extends Kit {
    /** Puts a text of at most 400 characters on the tape. */
    static void tell(DrizzleVote council, String text) {
        council.end(0);
        for (int i = 0; i < text.length(); i += 20) {
            council.feed(four(text, i), four(text, i + 4), four(text, i + 8), four(text, i + 12), four(text, i + 16));
        }
        council.end(text.length());
    }

    /** Four characters as one number; zeros behind the text's end. */
    static int four(String text, int from) {
        int number = 0;
        for (int i = from; i < from + 4; i++) {
            number = number << 8 | (i < text.length() ? text.charAt(i) & 255 : 0);
        }
        return number;
    }

    public static void main(String[] args) throws IOException {
        String page = Files.readString(Path.of("README.md"));
        List<String> blocks = blocksOf(page);
        sentence("README.md says how to use the class");
        due(blocks.size(), 3);
        String here = bare(Files.readString(Path.of("src/test/java/ReadmeTest.java")));
        for (String block : blocks) {
            due(here.contains(bare(block)), true);
        }
        answersAreAsTold(String.join("\n", blocks), answers());
        tableNamesEachCall(page);
        ends("ReadmeTest");
    }

    private static Map<String, Object> answers() {
        DrizzleVote council = new DrizzleVote();
        tell(council, "member at 1 seats 3; member at 2 seats 2 hat; motion of 0 takes 2 worth 10;"
            + "motion of 1 takes 1 worth 4 for 11; paper 0 0; paper 1 1");
        int texts = council.coast();                   // 1
        tell(council, "feel 2 if wet and mover; dull 9 if hat; lapse if hour > 9");
        int lines = council.law();                     // 3

        int feels = council.felt(0, 2, 0);             // 7: by drizzle (2), of motion 0, member 0
        int plain = council.felt(0, 2, -1);            // 5: without a motion (NONE)
        int goes = council.goes(0, 2, 0);              // 1: carried, by drizzle, in hour 0
        int late = council.goes(0, 2, 10);             // 3: lapsed, as the law has it
        int chance = council.chance(2, 1);             // 2000: of 10000, drizzle one hour from now
        int day = council.best(-1);                    // 14: worth that the best paper of this day carries

        int carried = council.hours(2);                // 2: both motions came up
        int state = council.motion(0, 4);              // 1: carried
        boolean undone = council.undo();               // true: both hours are taken back
        int again = council.motion(0, 4);              // 0: waits again

        council.image();
        council.out(0, false);
        int seats = council.member(0, 4);              // 0: one who is in has no share
        boolean back = council.back();                 // true: all is as the image has it
        int share = council.member(0, 4);              // 60: in hundredths

        council.feed(0x00000100, 0, 0, 0, 0);
        council.end(3);
        int skies = council.cuffs(false);              // 4: it drizzles, if the cuff of member 0 is wet now

        boolean refused = false;
        tell(council, "now fog; member at 8");
        try {
            council.coast();
        } catch (IllegalArgumentException e) {
            refused = true;                            // true: there are places 0 to 7
        }
        int fault = council.fault();                   // 19: where the 8 stands
        int sky = council.count(4);                    // 1: dry as before, nothing stays of a wrong text

        Map<String, Object> all = new HashMap<>();
        all.put("texts", texts);
        all.put("lines", lines);
        all.put("feels", feels);
        all.put("plain", plain);
        all.put("goes", goes);
        all.put("late", late);
        all.put("chance", chance);
        all.put("day", day);
        all.put("carried", carried);
        all.put("state", state);
        all.put("undone", undone);
        all.put("again", again);
        all.put("seats", seats);
        all.put("back", back);
        all.put("share", share);
        all.put("skies", skies);
        all.put("refused", refused);
        all.put("fault", fault);
        all.put("sky", sky);
        return all;
    }

    private static void answersAreAsTold(String code, Map<String, Object> answers) {
        Matcher m = Pattern.compile("(?m)(\\w+) = .*; +// (\\w+)").matcher(code);
        int told = 0;
        while (m.find()) {
            told++;
            sentence("README.md: " + m.group(1));
            due(String.valueOf(answers.get(m.group(1))), m.group(2));
        }
        sentence("README.md says what its lines answer");
        due(told, answers.size());
    }

    private static void tableNamesEachCall(String page) {
        List<String> named = new ArrayList<>();
        Matcher row = Pattern.compile("(?m)^\\|.*\\|$").matcher(page);
        while (row.find()) {
            Matcher name = Pattern.compile("`(\\w+)`").matcher(row.group());
            while (name.find()) {
                named.add(name.group(1));
            }
        }
        TreeSet<String> face = new TreeSet<>();
        for (Method method : DrizzleVote.class.getDeclaredMethods()) {
            if (Modifier.isPublic(method.getModifiers())) {
                face.add(method.getName());
            }
        }
        sentence("README.md: its table names each call once");
        due(new TreeSet<>(named), face);
        due(named.size(), face.size());
    }

    private static List<String> blocksOf(String page) {
        List<String> blocks = new ArrayList<>();
        Matcher m = Pattern.compile("(?s)```java\n(.*?)```").matcher(page);
        while (m.find()) {
            blocks.add(m.group(1));
        }
        return blocks;
    }

    /** Without what a line is set in by, as it is set in deeper in a class. */
    private static String bare(String code) {
        StringBuilder bare = new StringBuilder();
        for (String line : code.split("\n")) {
            bare.append(line.strip()).append('\n');
        }
        return bare.toString();
    }
}
