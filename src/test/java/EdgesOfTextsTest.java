/** Term 4, promises 22 and 23: where tokens end, what is too long or too great, and which fault counts. */
public final class EdgesOfTextsTest {
    private static final int FULL = RobotCellHouse.FULL;

    public static void main(String[] args) {
        blanks();
        bytesThatAreNoToken();
        comments();
        longestWord();
        greatestNumber();
        longestSign();
        keywordsAreNoNames();
        nearlyKeywords();
        emptyTexts();
        wholeTape();
        endOfTheText();
        whatIsOpen();
        whatIsOpenNoMore();
        firstToken();
        firstName();
        thirtyTwo();
        breaks();
        namesOfRoutines();
        answers();
        nothingIsLeft();
        Due.end();
    }

    private static RobotCellHouse house() {
        RobotCellHouse x = new RobotCellHouse();
        x.arm(0, 0, 0, 0);
        return x;
    }

    private static void good(String text, int routines) {
        RobotCellHouse x = house();
        Due.is("program of " + text, Due.program(x, 0, text), routines);
        Due.is("fault(0) of " + text, x.fault(0), 0);
        Due.is("fault(1) of " + text, x.fault(1), -1);
    }

    /** The fault stands where the text has a '@', which is left out. */
    private static void bad(String marked, int fault) {
        int place = marked.indexOf('@');
        String text = marked.substring(0, place) + marked.substring(place + 1);
        RobotCellHouse x = house();
        Due.is("program of " + marked, Due.program(x, 0, text), -10 - place);
        Due.is("fault(0) of " + marked, x.fault(0), fault);
        Due.is("fault(1) of " + marked, x.fault(1), place);
    }

    private static void blanks() {
        for (int c = 0; c <= 32; c++) {
            char blank = (char) c;
            good("to" + blank + "r:note" + blank + "1" + blank + ";end" + blank, 1);
            bad("to" + blank + "r:note 1" + blank + "@2;end", 2);
        }
    }

    private static void bytesThatAreNoToken() {
        String signs = "+-*/%=<>(),;:#";
        for (int c = 33; c < 256; c++) {
            boolean name = c >= '0' && c <= '9' || c >= 'a' && c <= 'z' || c >= 'A' && c <= 'Z';
            // '@' marks the place in these texts, and is no token itself.
            if (name || signs.indexOf(c) >= 0 || c == '@') continue;
            bad("to r: @" + (char) c + " end", 1);
        }
        RobotCellHouse x = house();
        Due.is("program of a '@'", Due.program(x, 0, "to @"), -13);
        Due.is("its fault", x.fault(0), 1);
    }

    private static void comments() {
        good("to r:#\nend", 1);
        good("to r:end#", 1);
        good("to r:end # to s: end", 1);
        good("# a # b \n to r:end", 1);
        good("to#\nr:note#1\n2;end", 1);
        bad("to r:#\rend@", 2);
        bad("to r:#\u000bend@", 2);
        bad("to r:#\u0000 end@", 2);
        bad("to#x\n@to", 2);
        good("var ab; to r: ab#\n=1; end", 1);
        bad("var ab; to r: a#\n@b=1; end", 2);
    }

    private static void longestWord() {
        String w = "abcdefghijklmnopqrstuvw";
        good("var " + w + "x; to r: " + w + "x = 1; end", 1);
        good("var " + w + "9; to r: " + w + "9 = 1; end", 1);
        bad("var @" + w + "xy;", 1);
        bad("var @" + w + "99;", 1);
        bad("to r: @" + w + "xyz = 1; end", 1);
        bad("@" + "v".repeat(3000), 1);
        // Names that differ in their last letter alone.
        good("var " + w + "x," + w + "y; to r: " + w + "y = 1; end", 1);
        bad("var " + w + "x; to r: @" + w + "y = 1; end", 5);
        bad("var " + w + "x; to r: @" + w + " = 1; end", 5);
        bad("var " + w + "; to r: @" + w + "x = 1; end", 5);
    }

    private static void greatestNumber() {
        good("to r: note 2147483647; end", 1);
        good("to r: note 00000000000000000000000000002147483647; end", 1);
        good("to r: note 0; end", 1);
        good("to r: note 000; end", 1);
        bad("to r: note @2147483648; end", 1);
        bad("to r: note -@2147483648; end", 1);
        bad("to r: note @4294967295; end", 1);
        bad("to r: note @4294967296; end", 1);
        bad("to r: note @4294967297; end", 1);
        bad("to r: note @9223372036854775808; end", 1);
        bad("to r: note @18446744073709551616; end", 1);
        bad("to r: note @18446744073709551617; end", 1);
        bad("to r: note @" + "9".repeat(1000) + "; end", 1);
        bad("to r: note @1" + "0".repeat(1000) + "; end", 1);
    }

    private static void longestSign() {
        good("to r: note 1<=2; note 1>=2; note 1!=2; note 1<-2; note 1>-2; note 1=-2; end", 1);
        bad("to r: note 1< @=2; end", 2);
        bad("to r: note 1> @=2; end", 2);
        bad("to r: note 1 @! =2; end", 1);
        bad("to r: note 1=@=2; end", 2);
        bad("to r: note 1=@<2; end", 2);
        bad("to r: note 1<@>2; end", 2);
        bad("to r: note 1<=@=2; end", 2);
        bad("to r: note 1!=@=2; end", 2);
        bad("to r: note 1 @!! 2; end", 1);
        bad("to r: end @!", 1);
        bad("to r: note 1 <@", 2);
        // A number ends where no digit follows, and a word begins there.
        bad("to r: note 1@e5; end", 2);
        bad("to r: note 1@.5; end", 1);
    }

    private static void keywordsAreNoNames() {
        String keywords = "var to end move wait until set take free call run raise note grip drop watch return break "
                + "if else while try catch finally or and not signal joint time error power holding";
        for (String k : keywords.split(" ")) {
            bad("var @" + k + ";", 2);
            bad("to @" + k + ": end", 2);
            bad("to r: call @" + k + "; end", 2);
        }
    }

    private static void nearlyKeywords() {
        good("var va,vars,Var,VAR,tos,en,ends,moves,i,els,elsee,o,orr,an,andd,no,nots,signals,joints,times,errors;", 0);
        good("var powers,holdings,holdin,to1,end2,if3,finall,finallyy,catchs,tryy,whil,whiles,breaks,return0,watch1;", 0);
        good("var endto; to r: endto = 1; end", 1);
        bad("to r:endto @s:end", 2);
    }

    private static void emptyTexts() {
        good("", 0);
        good(" ", 0);
        good("#", 0);
        good("\n", 0);
        good("to r:end", 1);
        good("var a;", 0);
        RobotCellHouse x = house();
        Due.is("program of an empty tape", x.program(0), 0);
        Due.is("its fault", x.fault(0), 0);
        Due.is("its place", x.fault(1), -1);
    }

    private static void wholeTape() {
        String text = "to r:" + " ".repeat(3992) + "end";
        good(text, 1);
        bad("to r:" + " ".repeat(3993) + "en@", 2);
        bad("to r:" + " ".repeat(3994) + "@.", 1);
        RobotCellHouse x = house();
        Due.tape(x, text);
        Due.is("bytes", x.count(7), 4000);
        Due.is("one more", x.feed(0, 0, 0, 0, 0), FULL);
        Due.is("program", x.program(0), 1);
        Due.is("no bytes", x.count(7), 0);
    }

    private static void endOfTheText() {
        String[] parts = {"var", "var a", "var a,", "to", "to r", "to r:", "to r:a", "to r:a=", "to r:a=1", "to r:a=1;", "to r:move 1,",
            "to r:set 1", "to r:set 1,2", "to r:call", "to r:call r", "to r:watch 1,", "to r:watch 1,r", "to r:grip", "to r:if",
            "to r:if 1", "to r:if 1:", "to r:if 1:end", "to r:if 1:else", "to r:if 1:else:", "to r:while 1:", "to r:try", "to r:try:",
            "to r:try:catch", "to r:try:catch:", "to r:try:finally:", "to r:note (1", "to r:note signal", "to r:note signal(",
            "to r:note -", "to r:note not", "to r:note 1+", "to r:note 1 or", "to r:note 1 and", "to r:note 1<"};
        for (String p : parts) {
            bad(p + "@", 2);
            bad(p + "  \n@", 2);
            bad(p + " # end;@", 2);
        }
    }

    private static String times(String s, int n) {
        return s.repeat(n);
    }

    /** Thirty are open at the most: each kind, and kinds among one another. */
    private static void whatIsOpen() {
        String[][] kinds = {{"(", "1", ")"}, {"-", "1", ""}, {"not ", "1", ""}, {"-(", "1", ")"}, {"not (", "1", ")"}};
        for (String[] k : kinds) {
            int each = k[0].trim().endsWith("(") && k[0].length() > 1 ? 2 : 1;
            good("to r: note " + times(k[0], 30 / each) + k[1] + times(k[2], 30 / each) + "; end", 1);
            bad("to r: note " + times(k[0], 30 / each) + "@" + k[0] + k[1] + times(k[2], 30 / each + 1) + "; end", 3);
        }
        String[] blocks = {"if 1:", "while 1:", "try:", "if 1: else:", "try: catch:", "try: finally:", "try: catch: finally:"};
        for (String b : blocks) {
            good("to r: " + times(b + " ", 30) + times("end ", 31), 1);
            bad("to r: " + times(b + " ", 30) + "@" + b + " " + times("end ", 32), 3);
            bad("to r: " + times(b + " ", 30) + "note signal@(1); " + times("end ", 31), 3);
            bad("to r: " + times(b + " ", 30) + "note joint@(1); " + times("end ", 31), 3);
            bad("to r: " + times(b + " ", 30) + "note @not 1; " + times("end ", 31), 3);
            bad("to r: " + times(b + " ", 30) + "note 1-@-1; " + times("end ", 31), 3);
        }
        good("to r: " + times("if 1: while 1: try: ", 9) + "note -(-1); " + times("end ", 28), 1);
        bad("to r: " + times("if 1: while 1: try: ", 9) + "note -(-@-1); " + times("end ", 28), 3);
        // A test stands within its while, and its if.
        bad("to r: " + times("if 1: ", 29) + "if @(1): end " + times("end ", 30), 3);
        bad("to r: " + times("if 1: ", 29) + "while @-1: end " + times("end ", 30), 3);
    }

    /** What has come to its end is open no more; a - between two is none that is open. */
    private static void whatIsOpenNoMore() {
        good("to r: note " + times("(", 30) + "1" + times(")", 30) + " + " + times("(", 30) + "1" + times(")", 30) + "; end", 1);
        good("to r: note " + times("-", 30) + "1 - " + times("-", 30) + "1; end", 1);
        good("to r: note " + times("-", 30) + "1 * " + times("-", 30) + "1; end", 1);
        good("to r: note " + times("not ", 30) + "1 and " + times("not ", 30) + "1; end", 1);
        bad("to r: note " + times("not ", 30) + "1 = @-1; end", 3);
        bad("to r: note " + times("not ", 30) + "1 + @(1); end", 3);
        good("to r: note " + times("not ", 30) + "1 or (1); end", 1);
        good("to r: note " + times("1-", 300) + "1; end", 1);
        good("to r: " + times("if 1: ", 30) + times("end ", 30) + times("while 1: ", 30) + times("end ", 31), 1);
        good("to r: " + times("if 1: ", 29) + times("try: end if 1: else: end while 1: end ", 9) + times("end ", 30), 1);
        good("to r: " + times("if 1: ", 30) + times("end ", 31) + "to s: " + times("if 1: ", 30) + times("end ", 31), 2);
    }

    /** Of the faults 1 to 3 the first token counts, and they count ahead of all names. */
    private static void firstToken() {
        bad("to r: note 1 @$ note note", 1);
        bad("to r: note @note $", 2);
        bad("to r: note " + times("(", 30) + "@( $", 3);
        bad("to r: note " + times("(", 30) + "1 @$ (", 1);
        bad("to r: note " + times("(", 29) + "1 @2 ((((", 2);
        bad("var a,a; to a: b=1; break; call c; end @$", 1);
        bad("var a,a; to a: b=1; break; call c; @", 2);
        bad("var a,a; to a: b=1; break; call c; note " + times("-", 30) + "@-1; end", 3);
    }

    /** Of the faults 4 to 7 the first token counts, and at one token the least. */
    private static void firstName() {
        bad("var a,@a; to r: b=1; break; end", 4);
        bad("var a; to r: @b=1; end to a: end", 5);
        bad("var a; to r: a=1; note a+@b; note c; end to a: end", 5);
        bad("to r: @break; b=1; end to r: end", 6);
        bad("to r: call @s; end to r: end", 5);
        bad("to r: end to @r: call s; end", 4);
        bad("var " + names("v", 32) + ",@v31;", 4);
        bad("var " + names("v", 32) + ",@w,w;", 7);
        bad("to " + routines("r", 32) + " to @r7: end", 4);
        bad("to " + routines("r", 32) + " to @s: break; end", 7);
        bad("var " + names("v", 32) + ",@w; to w: end", 7);
        bad("var a; to r: a = @r; end", 5);
        bad("var a; to r: @r = 1; end", 5);
    }

    private static String names(String name, int n) {
        StringBuilder text = new StringBuilder(name + 0);
        for (int i = 1; i < n; i++) text.append(',').append(name).append(i);
        return text.toString();
    }

    private static String routines(String name, int n) {
        return names(name, n).replace(",", ":end to ") + ":end";
    }

    private static void thirtyTwo() {
        good("var " + names("v", 32) + "; to r: v31 = v0; end", 1);
        bad("var " + names("v", 32) + "; var @w;", 7);
        good("to " + routines("r", 31) + " to s: call s; call r30; end", 32);
        bad("to " + routines("r", 31) + " to s: end to @t: call s; end", 7);
        good("var " + names("v", 32) + "; to " + routines("r", 32), 32);
        RobotCellHouse x = house();
        Due.is("32 of each", Due.program(x, 0, "var " + names("v", 32) + "; to " + routines("r", 32)), 32);
        Due.is("variable 31", x.variable(0, 31), 0);
        Due.is("variable 32", x.variable(0, 32), RobotCellHouse.BAD);
        Due.is("routines", x.state(0, 4), 32);
    }

    private static void breaks() {
        good("to r: while 1: break; end end", 1);
        good("to r: while 1: if 1: break; else: break; end try: break; catch: break; finally: break; end end end", 1);
        good("to r: while 1: while 1: break; end break; end end", 1);
        bad("to r: @break; end", 6);
        bad("to r: if 1: try: @break; end end end", 6);
        bad("to r: while 1: end @break; end", 6);
        bad("to r: while 1: while 1: end end @break; end", 6);
        bad("to r: while 1: break; end end to s: @break; end", 6);
    }

    private static void namesOfRoutines() {
        good("to r: call s; run s; watch 0, s; call r; end to s: end", 2);
        bad("to r: call @t; end to s: end", 5);
        bad("to r: run @t; end to s: end", 5);
        bad("to r: watch 0, @t; end to s: end", 5);
        bad("var t; to r: call @t; end", 5);
        bad("var t; to r: watch t, @t; end", 5);
    }

    /** A text is read as if none had been read before it. */
    private static void nothingIsLeft() {
        RobotCellHouse x = house();
        Due.is("a fault within much", Due.program(x, 0, "to r: " + "try: ".repeat(30) + "$"), -10 - 156);
        Due.is("as much again", Due.program(x, 0, "to r: " + "try: ".repeat(30) + "end ".repeat(31)), 1);
        Due.is("a fault within a while", Due.program(x, 0, "to r: while 1: while 1: $"), -10 - 24);
        Due.is("break in none", Due.program(x, 0, "to r: break; end"), -10 - 6);
        Due.is("a name told in a faulty text", Due.program(x, 0, "var a; to b: $"), -10 - 13);
        Due.is("is not told", Due.program(x, 0, "to r: note a; end"), -10 - 11);
        Due.is("nor a routine", Due.program(x, 0, "to r: call b; end"), -10 - 11);
        Due.is("both can be told", Due.program(x, 0, "var a; to b: end"), 1);
        Due.is("a fault within a try", Due.program(x, 0, "to r: try: try: $"), -10 - 16);
        Due.program(x, 0, "to r: while 1: try: break; finally: note 1; end end raise 2; end");
        x.open();
        x.start(0, 0);
        x.run(1);
        Due.eventsAre("a break behind it", x, "1:1(0,1) 1:5(0,2)");
        RobotCellHouse y = house();
        String sum = "a=" + "-".repeat(30) + "1;";
        for (int i = 0; i < 2; i++) Due.is("a whole tape", Due.program(y, 0, "var a;to r:" + sum.repeat(117) + "end"), 1);
        Due.is("and another text", Due.program(y, 0, "var a;to r:" + sum.repeat(5) + "note a+6;end"), 1);
        y.open();
        y.start(0, 0);
        y.run(1);
        Due.eventsAre("behind two whole tapes", y, "1:1(0,7) 1:4(0,0)");
    }

    /** -10 less the place, which may be 0; the tape is empty then, and the program stays. */
    private static void answers() {
        RobotCellHouse x = house();
        Due.is("a program", Due.program(x, 0, "var a; to r: end"), 1);
        Due.is("a fault at place 0", Due.program(x, 0, "$"), -10);
        Due.is("fault(1)", x.fault(1), 0);
        Due.is("the tape is empty", x.count(7), 0);
        Due.is("the program stays", x.state(0, 4), 1);
        Due.is("its variable stays", x.variable(0, 0), 0);
        Due.is("a fault at the last place", Due.program(x, 0, " ".repeat(3999) + "$"), -10 - 3999);
        Due.is("a text that is not whole", Due.program(x, 0, " ".repeat(3998) + "to"), -10 - 4000);
        x.arm(0, 0, 0, 0);
        Due.is("another arm has none", x.state(1, 4), 0);
        Due.is("nor its variables", x.variable(1, 0), RobotCellHouse.BAD);
        Due.is("no routines in place of one", Due.program(x, 0, "var b, c;"), 0);
        Due.is("its routines", x.state(0, 4), 0);
        Due.is("its variables", x.variable(0, 1), 0);
    }
}
