import java.util.ArrayList;
import java.util.HashMap;
import java.util.List;
import java.util.Map;
import java.util.Random;
import java.util.regex.Matcher;
import java.util.regex.Pattern;

/** Promises 2 to 5: the TAPE, the LINE and its FAULTS, by hand and against a reader by patterns. */
public final class FaultsTest {
    private static final Due DUE = new Due();
    private static final Map<String, String> PATTERNS = new HashMap<>();
    private static final Map<String, Integer> MOST = new HashMap<>();

    static {
        PATTERNS.put("line", "long 20-400 ;");
        PATTERNS.put("slope", "at 0-L up|down 0-9 ;");
        PATTERNS.put("wet", "at 0-L to A-L by 0-100 ;");
        PATTERNS.put("limit", "at 0-L of 1-15 ;");
        PATTERNS.put("platform", "at 0-L to A-L ;");
        PATTERNS.put("kind", "long 1-30 roll 0-3 brakes 1-9 1-9 1-9 ;");
        PATTERNS.put("train", "starts 0-300 speed 1-15 loses 0-5 ;");
        PATTERNS.put("coach", "0-K for 0-P at 0-L ;");
        MOST.put("line", 1);
        MOST.put("slope", 8);
        MOST.put("wet", 6);
        MOST.put("limit", 6);
        MOST.put("platform", 6);
        MOST.put("kind", 4);
        MOST.put("train", 5);
        MOST.put("coach", 16);
    }

    public static void main(String[] args) {
        tapes();
        faultsByHand();
        lines();
        long seed = args.length > 0 ? Long.parseLong(args[0]) : 7;
        int many = args.length > 1 ? Integer.parseInt(args[1]) : 6000;
        againstPatterns(new Random(seed), many);
        DUE.close("FaultsTest");
    }

    private static void tapes() {
        SlipCoach x = new SlipCoach();
        DUE.is("count(6) of none", x.count(6), 0);
        DUE.is("end(0)", x.end(0), 0);
        DUE.is("end(1) of none", x.end(1), -1);
        DUE.is("end(-1)", x.end(-1), -1);
        for (int i = 1; i <= 80; i++) {
            DUE.is("feed " + i, x.feed(0x20202020, -1, 0, 1, 2), 20 * i);
        }
        DUE.is("feed beyond 1,600", x.feed(1, 2, 3, 4, 5), -1);
        DUE.is("count(6) full", x.count(6), 1600);
        DUE.is("end(1581)", x.end(1581), 1581);
        DUE.is("feed to 1,601", x.feed(1, 2, 3, 4, 5), -1);
        DUE.is("end(1582)", x.end(1582), -1);
        DUE.is("end(1580)", x.end(1580), 1580);
        DUE.is("feed to 1,600", x.feed(1, 2, 3, 4, 5), 1600);
        DUE.is("end(4)", x.end(4), 4);
        DUE.is("line() of blanks", x.line(), 1);
        DUE.is("count(6) behind", x.count(6), 0);
        // highest byte first: "line" " lon" "g 20" ";   " "    "
        DUE.is("feed of a text", x.feed(0x6c696e65, 0x206c6f6e, 0x67203230, 0x3b202020, 0x20202020), 20);
        DUE.is("line()", x.line(), 1);
        DUE.is("count(0)", x.count(0), 20);
        DUE.is("line() of none", x.line(), 0);
        DUE.is("count(0) of none", x.count(0), 0);
    }

    private static void fault(String text, int what, int place) {
        SlipCoach x = Due.told("line long 55;");
        x.rain(7);
        Due.tape(x, text);
        DUE.is("line() of " + text, x.line(), -4);
        DUE.is("fault(0) of " + text, x.fault(0), what);
        DUE.is("fault(1) of " + text, x.fault(1), place);
        DUE.is("fault(2)", x.fault(2), -1);
        DUE.is("fault(-1)", x.fault(-1), -1);
        DUE.is("all stays: long", x.count(0), 55);
        DUE.is("all stays: RAIN", x.count(7), 7);
        DUE.is("all stays: TAPE", x.count(6), text.length());
    }

    private static void faultsByHand() {
        SlipCoach x = new SlipCoach();
        DUE.is("fault(0) ahead of any", x.fault(0), 0);
        DUE.is("fault(1) ahead of any", x.fault(1), -1);
        DUE.is("fault(2) ahead of any", x.fault(2), -1);
        fault("line long 20", 1, 12);
        fault("line long 20  ", 1, 14);
        fault("line", 1, 4);
        fault("line long 19;", 2, 10);
        fault("line long 401;", 2, 10);
        fault("line long 99999999999999999999;", 2, 10);
        fault(";", 1, 0);
        fault("  slope at 0 up 1;", 1, 2);
        fault("coach 0 for 0 at 0;", 1, 0);
        fault("20;", 1, 0);
        fault("lines long 20;", 1, 0);
        fault("linez long 20;", 1, 0);
        fault("aline long 20;", 1, 0);
        fault("line{long 20;", 1, 4);
        fault("line`long 20;", 1, 4);
        fault("line long 20:", 1, 12);
        fault("line long 20/", 1, 12);
        fault("line long 20;line long 20;", 1, 13);
        fault("line long 20;;", 1, 13);
        fault("line long 20;foo", 1, 13);
        fault("line long 20;Slope at 0 up 1;", 1, 13);
        fault("line long 20;\tslope at 0 up 1;", 1, 13);
        fault("line long 20;slope at 21 up 1;", 2, 22);
        fault("line long 20;slope at 0 up 10;", 2, 27);
        fault("line long 20;slope at 0 by 1;", 1, 24);
        fault("line long 20;slope at 0 up -1;", 1, 27);
        fault("line long 20;wet at 5 to 4 by 9;", 2, 25);
        fault("line long 20;wet at 5 to 21 by 9;", 2, 25);
        fault("line long 20;wet at 5 to 5 by 101;", 2, 30);
        fault("line long 20;limit at 0 of 0;", 2, 27);
        fault("line long 20;limit at 0 of 16;", 2, 27);
        fault("line long 20;platform at 5 to 4;", 2, 30);
        fault("line long 20;kind long 0 roll 0 brakes 1 1 1;", 2, 23);
        fault("line long 20;kind long 31 roll 0 brakes 1 1 1;", 2, 23);
        fault("line long 20;kind long 1 roll 4 brakes 1 1 1;", 2, 30);
        fault("line long 20;kind long 1 roll 0 brakes 1 0 1;", 2, 41);
        fault("line long 20;kind long 1 roll 0 brakes 1 1;", 1, 42);
        fault("line long 20;train starts 301 speed 1 loses 0;", 2, 26);
        fault("line long 20;train starts 0 speed 0 loses 0;", 2, 34);
        fault("line long 20;train starts 0 speed 16 loses 0;", 2, 34);
        fault("line long 20;train starts 0 speed 1 loses 6;", 2, 42);
        fault("line long 20;coach", 2, 13);
        fault("line long 20;train starts 0 speed 1 loses 0;coach 0 for 0 at 0;", 2, 50);
        String k = "kind long 1 roll 0 brakes 1 1 1;";
        fault("line long 20;" + k + "train starts 0 speed 1 loses 0;coach 0 for 0 at 0;", 2, 88);
        fault("line long 20;" + k.repeat(4) + "kind", 3, 141);
        tooMany("slope at 0 up 1;", 8);
        tooMany("wet at 0 to 1 by 1;", 6);
        tooMany("limit at 0 of 1;", 6);
        tooMany("platform at 0 to 1;", 6);
        tooMany(k, 4);
        tooMany("train starts 0 speed 1 loses 0;", 5);
        String most = "line long 20;platform at 0 to 1;" + k + "train starts 0 speed 1 loses 0;"
                + "coach 0 for 0 at 0;".repeat(16);
        DUE.is("16 coaches", Due.told(most).count(4), 16);
        fault(most + "coach 0 for 0 at 0;", 3, most.length());
    }

    private static void tooMany(String clause, int most) {
        String text = "line long 20;" + clause.repeat(most);
        DUE.is("the most of " + clause, Due.told(text).line(), 0);
        fault(text + clause, 3, text.length());
    }

    private static void lineIs(String text, int want) {
        SlipCoach x = new SlipCoach();
        Due.tape(x, text);
        DUE.is("line() of " + text, x.line(), want);
        DUE.is("count(5) of " + text, x.count(5), want);
        DUE.is("fault(0) of " + text, x.fault(0), 0);
        DUE.is("fault(1) of " + text, x.fault(1), -1);
        DUE.is("TAPE of " + text, x.count(6), 0);
    }

    private static void lines() {
        lineIs("", 0);
        lineIs("\n", 1);
        lineIs("line long 20;", 1);
        lineIs("line long 20;\n", 1);
        lineIs("\nline\nlong\n0020\n;\n slope at 3 down 2;", 6);
        lineIs("line long20;slope at0up1;", 1);
        SlipCoach x = Due.told("line long 20;platform at 3 to 9;");
        x.rain(50);
        Due.tape(x, "slope");
        DUE.is("line()", x.line(), -4);
        DUE.is("fault(0)", x.fault(0), 1);
        Due.tape(x, "line long 30;");
        DUE.is("line()", x.line(), 1);
        DUE.is("fault(0) of the latest", x.fault(0), 0);
        DUE.is("fault(1) of the latest", x.fault(1), -1);
        DUE.is("RAIN is 0 then", x.count(7), 0);
        DUE.is("in place of another", x.count(2), 0);
        DUE.is("in place of another", x.count(0), 30);
    }

    /** FAULT and place; {0, -1} without. */
    private static int[] readByPattern(String text) {
        Matcher m = Pattern.compile("[a-z]+|[0-9]+|[^ \n]").matcher(text);
        List<String> tokens = new ArrayList<>();
        List<Integer> places = new ArrayList<>();
        while (m.find()) {
            tokens.add(m.group());
            places.add(m.start());
        }
        tokens.add("");
        places.add(text.length());
        Map<String, Integer> seen = new HashMap<>();
        int length = 0;
        int i = 0;
        while (!tokens.get(i).isEmpty()) {
            String word = tokens.get(i);
            boolean first = i == 0;
            if (!PATTERNS.containsKey(word) || first != word.equals("line")) return new int[] {1, places.get(i)};
            if (word.equals("coach") && !seen.containsKey("train")) return new int[] {2, places.get(i)};
            if (seen.getOrDefault(word, 0) >= MOST.get(word)) return new int[] {3, places.get(i)};
            i++;
            String at = "0";
            for (String part : PATTERNS.get(word).split(" ")) {
                String token = tokens.get(i);
                if (part.contains("-")) {
                    if (!token.matches("[0-9]+")) return new int[] {1, places.get(i)};
                    double n = Double.parseDouble(token);
                    String bounds = part.replace("L", "" + length).replace("A", at)
                            .replace("K", "" + (seen.getOrDefault("kind", 0) - 1))
                            .replace("P", "" + (seen.getOrDefault("platform", 0) - 1));
                    int cut = bounds.indexOf('-');
                    double low = Double.parseDouble(bounds.substring(0, cut));
                    double high = Double.parseDouble(bounds.substring(cut + 1));
                    if (n < low || n > high) return new int[] {2, places.get(i)};
                    if (word.equals("line")) length = (int) n;
                    at = token;
                } else if (!List.of(part.split("\\|")).contains(token)) {
                    return new int[] {1, places.get(i)};
                }
                i++;
            }
            seen.merge(word, 1, Integer::sum);
        }
        return new int[] {0, -1};
    }

    private static void againstPatterns(Random random, int many) {
        Worlds worlds = new Worlds(random);
        int[] kinds = new int[4];
        for (int n = 0; n < many; n++) {
            String text = worlds.write(worlds.draw());
            for (int edits = random.nextInt(4); edits > 0; edits--) {
                text = spoil(random, text);
            }
            if (text.length() > 1600) {
                continue;
            }
            SlipCoach x = new SlipCoach();
            Due.tape(x, text);
            int[] want = readByPattern(text);
            kinds[want[0]]++;
            DUE.is("line() of " + text, x.line(), want[0] == 0 ? Worlds.linesOf(text) : -4);
            DUE.is("fault(0) of " + text, x.fault(0), want[0]);
            DUE.is("fault(1) of " + text, x.fault(1), want[1]);
        }
        System.out.println("FAULTS 0 to 3 drawn: " + kinds[0] + ", " + kinds[1] + ", " + kinds[2] + ", " + kinds[3]);
    }

    private static String spoil(Random random, String text) {
        int i = random.nextInt(text.length() + 1);
        int j = Math.min(text.length(), i + random.nextInt(3));
        switch (random.nextInt(7)) {
            case 0: return text.substring(0, i) + text.substring(j);
            case 1: return text.substring(0, i) + "0123456789 ;\nabzL{/:`@-\u00e9\u0000".charAt(random.nextInt(24)) + text.substring(i);
            case 2: return text.substring(0, i).isEmpty() ? text : text.substring(0, i);
            case 3: return text.replaceFirst("at ([0-9])", "at 4$1");
            case 4: { int s = text.indexOf(';', i); return s < 0 ? text : text.substring(0, s + 1)
                    + text.substring(text.indexOf(';') + 1); }
            case 5: { int s = text.lastIndexOf(';', i); return s < 0 ? text : text.substring(0, s + 1)
                    + "slope at 3 up 1;wet at 2 to 3 by 4;".repeat(random.nextInt(6)) + text.substring(s + 1); }
            default: { int s = text.lastIndexOf(';', i); return s < 0 ? text : text.substring(0, s + 1)
                    + "coach " + random.nextInt(5) + " for " + random.nextInt(7) + " at 3;" + text.substring(s + 1); }
        }
    }
}
