/** Promises 22, 23, 39, 44: texts, and the first fault of each. */
public final class TextTest {
    private static final int BAD = RobotCellHouse.BAD;

    public static void main(String[] args) {
        wholeTexts();
        faultsOfTokens();
        faultsOfGrammar();
        faultsOfDepth();
        faultsOfNames();
        whatStays();
        Due.end();
    }

    private static RobotCellHouse house() {
        RobotCellHouse x = new RobotCellHouse();
        x.arm(0, 0, 0, 0);
        return x;
    }

    private static void good(String text, int routines) {
        RobotCellHouse x = house();
        Due.is("program of " + text, Due.program(x, 0, text), routines);
        Due.is("fault(0) of " + text, x.fault(0), 0);
        Due.is("fault(1) of " + text, x.fault(1), -1);
        Due.is("state(0, 4) of " + text, x.state(0, 4), routines);
    }

    /** The fault stands where the text has a '@', which is left out. */
    private static void bad(String marked, int fault) {
        int place = marked.indexOf('@');
        String text = marked.substring(0, place) + marked.substring(place + 1);
        RobotCellHouse x = house();
        Due.is("program of " + marked, Due.program(x, 0, text), -10 - place);
        Due.is("fault(0) of " + marked, x.fault(0), fault);
        Due.is("fault(1) of " + marked, x.fault(1), place);
        Due.is("state(0, 4) of " + marked, x.state(0, 4), 0);
    }

    private static void wholeTexts() {
        good("", 0);
        good(" \t\n# only a comment", 0);
        good("var a;var b,c;", 0);
        good("to a:end", 1);
        good("to a:end to b:call a;call c;end to c:end", 3);
        good("var a;#x\nto r:#y $ \u00ff\na=1;end", 1);
        good("var a;to r:a=-a*-2/(3)%4+5-6=7;a=1!=2;a=1<2;a=1<=2;a=1>2;a=1>=2;end", 1);
        good("var a;to r:a=not not 1 and 2 or 3;a=signal(1)+joint(2)+time+error+power+holding;end", 1);
        good("to r:move 1;move 1,2,3,4,5,6,7;wait 1;until 1;set 1,2;take 1;free 1;call r;run r;raise 1;note 1;"
                + "grip;drop;watch 1,r;return;while 1:break;end if 1:end if 1:else:end try:end try:catch:end "
                + "try:finally:end try:catch:finally:end end", 1);
        good("to abcdefghijklmnopqrstuvwx:end", 1);
        good("to yzABCDEFGHIJKLMNOPQRSTUV:end to WXYZ0123456789:end to Z:end to A9:end", 4);
        good("var End;to To:End=0002147483647;end", 1);
        good("to r:note 1end:end".replace("1end:", "1;"), 1);
    }

    private static void faultsOfTokens() {
        bad("to @$", 1);
        bad("to r: note 1 @! 2; end", 1);
        bad("@\u0080", 1);
        bad("to r: note @2147483648; end", 1);
        bad("to r: note @99999999999999999999; end", 1);
        bad("var @abcdefghijklmnopqrstuvwxy;", 1);
        bad("to r: note 1 @& 2; end $", 1);
        bad("to r: end @.", 1);
        // The first token counts, whatever its fault.
        bad("to @to $", 2);
        bad("to @$ to", 1);
    }

    private static void faultsOfGrammar() {
        bad("@a", 2);
        bad("var a@", 2);
        bad("var a,@;", 2);
        bad("var @;", 2);
        bad("var @end;", 2);
        bad("to a:end @var b;", 2);
        bad("to a@", 2);
        bad("to a:@", 2);
        bad("to a:end @end", 2);
        bad("to a: note 12@a; end", 2);
        bad("to a: note 1@", 2);
        bad("to a: note 1 < 2 @< 3; end", 2);
        bad("to a: note 1 + @not 2; end", 2);
        bad("to a: note @; end", 2);
        bad("to a: grip @1; end", 2);
        bad("to a: move @; end", 2);
        bad("to a: move 1,@; end", 2);
        bad("to a: set 1@; end", 2);
        bad("to a: watch 1@; end", 2);
        bad("to a: watch 1,@2; end", 2);
        bad("to a: call @1; end", 2);
        bad("to a: if 1@; end", 2);
        bad("to a: if 1: else: @else: end end", 2);
        bad("to a: @else: end", 2);
        bad("to a: try: finally: @catch: end end", 2);
        bad("to a: while 1: @catch: end end", 2);
        bad("to a: note signal @1; end", 2);
        bad("to a: note (1@; end", 2);
        bad("to a: note 1@); end", 2);
        bad("to a: b @+ 1; end", 2);
        bad("to a: end # the end\n to b: @", 2);
        // What is not whole ends behind the last byte, blanks and comments, too.
        bad("to a: note 1;  # ..@", 2);
    }

    private static String many(String s, int n) {
        return s.repeat(n);
    }

    private static void faultsOfDepth() {
        good("to a: note " + many("(", 30) + "1" + many(")", 30) + "; end", 1);
        bad("to a: note " + many("(", 30) + "@(1" + many(")", 31) + "; end", 3);
        good("to a: note " + many("-", 30) + "1 - 1; end", 1);
        bad("to a: note " + many("-", 30) + "@-1; end", 3);
        good("to a: note " + many("not ", 30) + "1; end", 1);
        bad("to a: note " + many("not ", 30) + "@not 1; end", 3);
        good("to a: " + many("if 1: ", 30) + "note 1;" + many("end ", 31), 1);
        bad("to a: " + many("if 1: ", 30) + "note @-1;" + many("end ", 31), 3);
        bad("to a: " + many("while 1: ", 30) + "note signal@(1);" + many("end ", 31), 3);
        bad("to a: " + many("try: ", 30) + "@try: end " + many("end ", 31), 3);
        good("to a: " + many("try: ", 30) + many("end ", 30) + many("if 1: ", 30) + many("end ", 31), 1);
        good("to a: note " + many("-(1)+", 40) + "1; end", 1);
        good("to a: note not(" + many("(", 28) + "1" + many(")", 28) + ")-1; end", 1);
        // A token that no text goes on with is that, however much is open.
        bad("to a: note " + many("(", 30) + "1 @(", 2);
    }

    private static String list(String name, int n, String between) {
        StringBuilder text = new StringBuilder();
        for (int i = 0; i < n; i++) text.append(i > 0 ? between : "").append(name).append(i);
        return text.toString();
    }

    private static void faultsOfNames() {
        bad("var a,@a;", 4);
        bad("var a; var b,@a;", 4);
        bad("var a; to @a: end", 4);
        bad("to a: end to @a: end", 4);
        bad("to r: @a = 1; end", 5);
        bad("to r: note @a; end", 5);
        bad("to r: note @r; end", 5);
        bad("to r: call @s; end", 5);
        bad("var a; to r: run @a; end", 5);
        bad("to r: watch 1, @s; end", 5);
        bad("to r: @break; end", 6);
        bad("to r: while 1: end @break; end", 6);
        bad("to r: while 1: end end to s: if 1: @break; end end", 6);
        good("var " + list("v", 32, ",") + ";" + many(" ", 5), 0);
        bad("var " + list("v", 32, ",") + ",@w;", 7);
        bad("var " + list("v", 32, ",") + ",@v0;", 4);
        good("to " + list("r", 32, ":end to ") + ":end", 32);
        bad("to " + list("r", 32, ":end to ") + ":end to @s: end", 7);
        // By tokens: a name far ahead of the 33rd routine.
        bad("to q: call @z; end to " + list("r", 32, ":end to ") + ":end", 5);
        // A fault of tokens or grammar comes ahead of all names.
        bad("to r: note a; end @end", 2);
        bad("var a,a; @$", 1);
        bad("to r: call @s; break; end", 5);
        bad("to r: @break; call s; end", 6);
        good("var abc,ab,abcd,ABC; to a: abc=ab+abcd+ABC; end", 1);
    }

    private static void whatStays() {
        RobotCellHouse x = house();
        Due.is("program", Due.program(x, 0, "var a,b; to r: end to s: end"), 2);
        Due.is("a faulty one", Due.program(x, 0, "to"), -12);
        Due.is("the arm's program stays", x.state(0, 4), 2);
        Due.is("its variables stay", x.variable(0, 1), 0);
        Due.is("there is no third one", x.variable(0, 2), BAD);
        Due.is("variable -1", x.variable(0, -1), BAD);
        Due.is("variable of no arm", x.variable(1, 0), BAD);
        Due.is("the tape is empty", x.count(7), 0);
        Due.tape(x, "to r: end");
        Due.is("program of no arm", x.program(1), BAD);
        Due.is("program of arm -1", x.program(-1), BAD);
        Due.is("the tape stays", x.count(7), 9);
        Due.is("fault(0) is that of the latest", x.fault(0), 2);
        Due.is("fault(1)", x.fault(1), 2);
        Due.is("fault(2)", x.fault(2), BAD);
        Due.is("fault(-1)", x.fault(-1), BAD);
        Due.is("another program", x.program(0), 1);
        Due.is("one with a name told twice", Due.program(x, 0, "var a,a;"), -16);
        Due.is("and a good one behind it", Due.program(x, 0, "to r: end"), 1);
        Due.is("fault(0)", x.fault(0), 0);
        Due.is("its place", x.fault(1), -1);
        Due.is("it is in place of the old one", x.variable(0, 0), BAD);
        x.build();
        Due.is("fault(0) behind build()", x.fault(0), 0);
        x.arm(0, 0, 0, 0);
        Due.is("no program behind build()", x.state(0, 4), 0);
        x.open();
        Due.is("program of an open cell", x.program(0), RobotCellHouse.NO);
        Due.is("start without a program", x.start(0, 0), BAD);
    }
}
