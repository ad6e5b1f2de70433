import java.util.regex.Pattern;

/** The boundary cases of the terms of commands. */
final class CommandBoundaries extends Boundaries {
    private static final String NUMBER = "\\d{1,3}";
    private static final String COMMAND = "(entry \\d|(code|uncode|merge) " + NUMBER + " " + NUMBER
            + "|(drop|touch|days) " + NUMBER + "|segment|join \\d|find( " + NUMBER + ")?)";
    private static final Pattern PROGRAM = Pattern.compile(COMMAND + "(;" + COMMAND + ")*");

    private static final String[] PROGRAMS = {
        "entry 1", "code 0 007", "uncode 10 7", "drop 999", "touch 00", "merge 012 345", "segment", "join 3", "find",
        "find 420", "days 60", "find;find 1;segment;join 0;code 1 2;drop 3;touch 4;merge 5 6",
        "segment;segment;segment;segment;segment;segment;segment;find", "uncode 100 200;uncode 300 400;days 5;find 6",
    };

    private CommandBoundaries() {
    }

    private static void malformed(int due, String text) {
        PrefixCodeIndex x = typed(new PrefixCodeIndex(), text);
        refuses(UNFIT, () -> x.run());
        answers(due, () -> x.errorPosition());
        refuses(MISSING, () -> x.failedCommand());
    }

    /** Whether its commands fail or not. */
    private static void wellFormed(String text) {
        PrefixCodeIndex x = typed(new PrefixCodeIndex(), text);
        Check.outcome(() -> x.run());
        refuses(MISSING, () -> x.errorPosition());
    }

    private static void wellFormedOrAt(int due, String text) {
        if (PROGRAM.matcher(text).matches()) {
            wellFormed(text);
        } else {
            malformed(due, text);
        }
    }

    @Sentence(in = "Terms", words = "The input buffer holds up to 60 characters.")
    static void sixtyCharacters() {
        PrefixCodeIndex x = new PrefixCodeIndex();
        String program = "entry 1;entry 2;entry 3;entry 4;entry 5;entry 6;entry 7;find";
        Check.type(x, program.substring(0, 59));
        answers(60, () -> x.append('d'));
        refuses(REFUSED, () -> x.append(';'));
        answers(8, () -> x.run());
        answers(7, () -> x.entryCount());
        answers(1, () -> x.append('f'));
    }

    @Sentence(in = "Terms", words = "{ x } means zero or more repetitions of x")
    static void repetitions() {
        for (int more = 0; more <= 11; more++) {
            PrefixCodeIndex x = typed(new PrefixCodeIndex(), FINDS.substring(0, 5 * more + 4));
            int commands = more + 1;
            answers(commands, () -> x.run());
        }
        malformed(0, "");
        malformed(5, "find;");
        malformed(10, "find;find;");
        malformed(60, FINDS);
    }

    @Sentence(in = "Terms", words = "[ x ] means that x is optional")
    static void option() {
        PrefixCodeIndex x = entryWith(420);
        answers(1, () -> Check.run(x, "find"));
        answers(1, () -> Check.run(x, "find 42"));
        answers(2, () -> x.hitsOf(0));
        malformed(5, "find ");
        malformed(5, "find  ");
        malformed(6, "find 1 2");
        malformed(4, "drop");
        malformed(6, "code 1");
    }

    @Sentence(in = "Terms", words = "program = command { \";\" command }")
    static void semicolons() {
        malformed(0, ";");
        malformed(0, ";find");
        malformed(5, "find;;find");
        malformed(5, "find; find");
        malformed(5, "find ;find");
        malformed(4, "find,find");
        malformed(4, "find:find");
        malformed(4, "find<find");
        malformed(4, "findfind");
        malformed(7, "segment segment");
        malformed(9, "find;find.");
        answers(3, () -> Check.run(new PrefixCodeIndex(), "find;segment;find"));
    }

    @Sentence(in = "Terms", words = "\"entry \" digit")
    static void entryDigit() {
        oneDigit("entry ");
        PrefixCodeIndex x = new PrefixCodeIndex();
        refuses(REFUSED, () -> Check.run(x, "entry 0"));
        answers(2, () -> Check.run(x, "entry 1;entry 9"));
        answers(1, () -> x.weightOf(0));
        answers(9, () -> x.weightOf(1));
    }

    @Sentence(in = "Terms", words = "\"join \" digit")
    static void joinDigit() {
        oneDigit("join ");
        PrefixCodeIndex x = segments(5);
        refuses(REFUSED, () -> Check.run(x, "join 4"));
        refuses(REFUSED, () -> Check.run(x, "join 9"));
        answers(2, () -> Check.run(x, "join 3;join 0"));
        answers(3, () -> x.segmentCount());
    }

    private static void oneDigit(String keyword) {
        int length = keyword.length();
        malformed(length, keyword);
        malformed(length, keyword + ";");
        malformed(length + 1, keyword + "12");
        malformed(length + 1, keyword + "01");
        malformed(length + 1, keyword + "1 ");
        malformed(length + 2, keyword + "1;");
        digitSigns(keyword);
        wellFormed(keyword + "1;find");
    }

    /** The signs next to the digits are no digits. */
    private static void digitSigns(String before) {
        for (char sign = '0'; sign <= '9'; sign++) {
            wellFormed(before + sign);
        }
        malformed(before.length(), before + (char) ('0' - 1));
        malformed(before.length(), before + (char) ('9' + 1));
        malformed(before.length(), before + '-');
        malformed(before.length(), before + 'a');
    }

    @Sentence(in = "Terms", words = "number = digit | digit digit | digit digit digit")
    static void numbers() {
        String[][] places = {
            {"code ", " 5"}, {"code 5 ", ""}, {"uncode ", " 5"}, {"uncode 5 ", ""}, {"drop ", ""}, {"touch ", ""},
            {"merge ", " 5"}, {"merge 5 ", ""}, {"find ", ""}, {"days ", ""}, {"find;find ", ";find"},
        };
        for (String[] place : places) {
            int start = place[0].length();
            malformed(start, place[0] + place[1]);
            malformed(start, place[0]);
            for (String number : new String[] {"0", "9", "00", "09", "99", "000", "009", "090", "999"}) {
                wellFormed(place[0] + number + place[1]);
            }
            malformed(start + 3, place[0] + "0000" + place[1]);
            malformed(start + 3, place[0] + "1234" + place[1]);
            malformed(start + 1, place[0] + "1x" + place[1]);
            if (place[1].isEmpty()) {
                digitSigns(place[0]);
            }
        }
    }

    @Sentence(in = "Terms", words = "The commands correspond to the methods addEntry, addCode, removeCode, removeEntry, touch, "
            + "merge, startSegment, joinSegments, search and pass, with the arguments in the same order")
    static void sameAsMethods() {
        corresponds("entry 7", x -> x.addEntry(7));
        corresponds("code 7 3", x -> x.addCode(7, 3));
        corresponds("code 3 7", x -> x.addCode(3, 7));
        corresponds("code 001 000", x -> x.addCode(1, 0));
        corresponds("code 1 999", x -> x.addCode(1, 999));
        corresponds("uncode 2 07", x -> x.removeCode(2, 7));
        corresponds("uncode 7 2", x -> x.removeCode(7, 2));
        corresponds("drop 7", x -> x.removeEntry(7));
        corresponds("drop 4", x -> x.removeEntry(4));
        corresponds("touch 002", x -> x.touch(2));
        corresponds("merge 7 2", x -> x.merge(7, 2));
        corresponds("merge 2 7", x -> x.merge(2, 7));
        corresponds("merge 2 2", x -> x.merge(2, 2));
        corresponds("segment", x -> x.startSegment());
        corresponds("join 1", x -> x.joinSegments(1));
        corresponds("join 2", x -> x.joinSegments(2));
        corresponds("join 3", x -> x.joinSegments(3));
        corresponds("find 0", x -> x.search(1, 0));
        corresponds("days 1", x -> x.pass(1));
        corresponds("days 060", x -> x.pass(60));
        corresponds("days 0", x -> x.pass(0));
        corresponds("days 061", x -> x.pass(61));
    }

    /** A command fails just where the method throws, and leaves the same index. */
    private static void corresponds(String command, Use method) {
        PrefixCodeIndex due = resting(2, 1);
        boolean fails = Check.outcome(() -> method.of(due)).startsWith("throws ");
        PrefixCodeIndex x = resting(2, 1);
        answers(fails ? "throws java.lang.IllegalStateException" : "1",
                () -> Check.outcome(() -> Check.run(x, command)));
        answers(fails ? 0 : 1, () -> x.failedCommand());
        answers(View.index(due), () -> View.index(x));
    }

    @Sentence(in = "Terms", words = "in find, the digits of the number are the prefix, which has no digits without a "
            + "number.")
    static void findDigits() {
        corresponds("find", x -> x.search(0, 0));
        corresponds("find 0", x -> x.search(1, 0));
        corresponds("find 9", x -> x.search(1, 9));
        corresponds("find 00", x -> x.search(2, 0));
        corresponds("find 42", x -> x.search(2, 42));
        corresponds("find 04", x -> x.search(2, 4));
        corresponds("find 000", x -> x.search(3, 0));
        corresponds("find 007", x -> x.search(3, 7));
        corresponds("find 042", x -> x.search(3, 42));
        corresponds("find 999", x -> x.search(3, 999));
        PrefixCodeIndex x = entries(1, 1, 1, 1);
        give(x, 0, 7);
        give(x, 1, 70);
        give(x, 2, 700);
        answers(4, () -> Check.run(x, "find;find 0;find 00;find 007"));
        answers("4 2 1 0", () -> x.hitsOf(0) + " " + x.hitsOf(1) + " " + x.hitsOf(2) + " " + x.hitsOf(3));
        answers(3, () -> Check.run(x, "find 7;find 70;find 700"));
        answers("4 2 4 0", () -> x.hitsOf(0) + " " + x.hitsOf(1) + " " + x.hitsOf(2) + " " + x.hitsOf(3));
        answers(2, () -> Check.run(x, "find 07;find 070"));
        answers("4 4 4 0", () -> x.hitsOf(0) + " " + x.hitsOf(1) + " " + x.hitsOf(2) + " " + x.hitsOf(3));
        answers(2, () -> Check.run(x, "code 3 999;find 700"));
        answers(2, () -> Check.run(x, "find;find"));
        answers("6 6 7 2", () -> x.hitsOf(0) + " " + x.hitsOf(1) + " " + x.hitsOf(2) + " " + x.hitsOf(3));
    }

    @Sentence(in = "Terms", words = "The error position of a malformed program is the index of the first character that no "
            + "valid program can have there after the characters before it")
    static void impossibleCharacter() {
        for (String program : PROGRAMS) {
            for (int length = 0; length <= program.length() && length < 60; length++) {
                malformed(length, program.substring(0, length) + "~");
                malformed(length, program.substring(0, length) + "~;find".substring(0, Math.min(6, 60 - length)));
            }
        }
        malformed(0, "x");
        malformed(0, "9");
        malformed(1, "ed");
        malformed(1, "sntry 1");
        malformed(2, "drp 1");
        malformed(10, "find;find;xind");
        malformed(5, "code x y");
        malformed(7, "entry 0drop 0");
        malformed(59, FINDS.substring(0, 59) + "x");
    }

    @Sentence(in = "Terms", words = "or the length of the program if it is a proper prefix of a valid program.")
    static void properPrefix() {
        for (String program : PROGRAMS) {
            for (int length = 0; length <= program.length(); length++) {
                wellFormedOrAt(length, program.substring(0, length));
            }
        }
        malformed(0, "");
        malformed(1, "d");
        malformed(59, FINDS.substring(0, 55) + "segm");
        malformed(60, FINDS.substring(0, 55) + "segme");
        malformed(60, FINDS.substring(0, 55) + "find ");
        malformed(60, FINDS);
    }

    @Sentence(in = "Terms", words = "Keywords are matched letter by letter.")
    static void letters() {
        String[] keywords = {
            "entry 1", "code 1 1", "uncode 1 1", "drop 1", "touch 1", "merge 1 1", "segment", "join 1", "find", "days 1",
        };
        for (String keyword : keywords) {
            int letters = keyword.replaceAll("[ 1]", "").length();
            for (int letter = 0; letter < letters; letter++) {
                String before = keyword.substring(0, letter);
                String capital = keyword.substring(letter, letter + 1).toUpperCase();
                malformed(letter, before + capital + keyword.substring(letter + 1));
                malformed(letter, before + " " + keyword.substring(letter));
                malformed(5 + letter, "find;" + before + "z" + keyword.substring(letter + 1));
            }
            malformed(letters, keyword.substring(0, letters) + "s");
        }
        malformed(2, "dr");
        malformed(2, "drys 1");
        malformed(2, "daop 1");
        malformed(1, "dyas 1");
        malformed(3, "uncide 1 1");
        malformed(2, "unencode");
        malformed(3, "cod 1 1");
        malformed(3, "segement");
    }
}
