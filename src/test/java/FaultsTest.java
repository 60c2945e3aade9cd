import java.util.Random;

/** Promises 3 and 4: which fault a text has, and where. */
public final class FaultsTest {
    private static int wrong = 0;
    private static int tried = 0;

    private static void due(String text, int fault, int place) {
        CloudTakes x = new CloudTakes();
        int got = Tape.plan(x, text);
        tried++;
        if (got != fault || x.fault() != place || x.count(16) != (fault == 0 ? 0 : 1) || x.count(15) != 0) {
            wrong++;
            System.out.println("'" + text + "' has fault " + got + " at " + x.fault() + ", due is " + fault + " at "
                    + place);
        }
    }

    private static void good(String text) {
        due(text, 0, -1);
    }

    /** The fault is at the first byte of the last token, which '@' marks. */
    private static void bad(int fault, String text) {
        int place = text.indexOf('@');
        due(text.substring(0, place) + text.substring(place + 1), fault, place);
    }

    public static void main(String[] args) {
        lines();
        numbers();
        limits();
        expressions();
        depths();
        mutations();
        System.out.println(tried + " texts read, " + wrong + " wrong");
        if (wrong != 0) {
            System.exit(1);
        }
    }

    private static void lines() {
        good("");
        good("  \n ");
        good("sun5;cloud 3 ;\nday\n10;");
        bad(1, "@x");
        bad(1, "@;");
        bad(1, "@5;");
        bad(1, "@12345;");
        bad(1, "@after 0;");
        bad(1, "@Sun 5;");
        bad(1, "@sunny 5;");
        bad(1, "@su 5;");
        bad(1, "sun 5@\t;");
        bad(1, "sun 5@\r;");
        bad(1, "sun 5@" + (char) 0 + ";");
        bad(1, "sun @" + (char) 200 + ";");
        bad(1, "sun@;");
        bad(1, "sun @cloud 5;");
        bad(1, "sun 5@");
        bad(1, "sun 5   @");
        bad(1, "sun@");
        bad(1, "sun 5 @6;");
        bad(1, "sun 5;@;");
        bad(1, "sun 5@-3;");
        bad(1, "sun @-5;");
        bad(1, "wide 0 1 0 0 @before 0;");
        bad(1, "wide 0 1 0 @;");
        bad(1, "wide 0 1 0 0;wide 0 1 0 0 after@;");
        bad(1, "wide 0 1 0 0;wide 0 1 0 0 after @wide;");
        bad(1, "wide 0 1 0 0;wide 0 1 0 0 after 0 @0;");
        bad(1, "rule 1@");
        bad(1, "rule@");
    }

    private static void numbers() {
        good("sun 1;sun 480;cloud 0001;");
        bad(2, "sun @0;");
        bad(2, "sun @481;");
        bad(2, "cloud @9999;");
        bad(2, "sun @00001;");
        bad(2, "sun @99999999999999999999;");
        good("wide 0 1 0 0;near 2 30 480 480;inside 1 1 0 480;");
        bad(2, "wide @3 1 0 0;");
        bad(2, "wide 0 @0 0 0;");
        bad(2, "wide 0 @31 0 0;");
        bad(2, "wide 0 1 @481 480;");
        bad(2, "wide 0 1 0 @481;");
        bad(2, "wide 0 1 5 @4;");
        bad(2, "near 0 1 0 @00000;");
        good("wide 0 1 0 0;wide 0 1 0 0 after 0;near 0 1 0 0 after 0001;");
        bad(3, "wide 0 1 0 0 after @0;");
        bad(3, "wide 0 1 0 0;wide 0 1 0 0 after @1;");
        bad(3, "wide 0 1 0 0;wide 0 1 0 0 after @9999;");
        bad(2, "wide 0 1 0 0;wide 0 1 0 0 after @00000;");
        good("day 10;move 0;cold 0;");
        good("day 480;move 120;cold 9;");
        bad(2, "day @9;");
        bad(2, "day @481;");
        bad(2, "move @121;");
        bad(2, "cold @10;");
        bad(4, "day 10;@day 10;");
        bad(4, "move 10;day 10;@move 10;");
        bad(4, "cold 1;@cold 1;");
        bad(4, "cold 1;@cold x");
    }

    private static void limits() {
        good("sun 1;cloud 1;".repeat(8));
        bad(2, "sun 1;cloud 1;".repeat(8) + "@sun 1;");
        bad(2, "sun 1;cloud 1;".repeat(8) + "@cloud x");
        good("wide 0 1 0 0;".repeat(8));
        bad(2, "wide 0 1 0 0;".repeat(8) + "@inside 0 1 0 0;");
        good("rule 1;".repeat(4));
        bad(2, "rule 1;".repeat(4) + "@rule 1;");
        bad(1, "wide 0 1 0 0;".repeat(8) + "@wider;");
    }

    private static void expressions() {
        good("rule 9999;");
        good("rule length+kind-light*left/until<hour and waited=tries or not (1);");
        good("rule not not not not not not 1;");
        good("rule 1 and not not 2 < 3 or not 4=5;");
        bad(2, "rule @10000;");
        bad(2, "rule 1+@00001;");
        bad(1, "rule 1 @10000;");
        bad(1, "rule @;");
        bad(1, "rule 1+@;");
        bad(1, "rule (@);");
        bad(1, "rule (1@;");
        bad(1, "rule 1@);");
        bad(1, "rule @-1;");
        bad(1, "rule 1<2@<3;");
        bad(1, "rule 1<2@=3;");
        bad(1, "rule 1=2@<3;");
        good("rule (1<2)<3;");
        good("rule 1<2 and 3=4;");
        bad(1, "rule 1 @not 2;");
        bad(1, "rule 1 @length;");
        bad(1, "rule length @foo;");
        bad(1, "rule 1 @(2);");
        bad(1, "rule (1)@(2);");
        bad(1, "rule 1@>2;");
        bad(3, "rule @foo;");
        bad(3, "rule @or;");
        bad(3, "rule @zazbz;");
        bad(1, "rule @{;");
        bad(1, "rule @`;");
        bad(1, "rule @:;");
        bad(3, "rule @lengths;");
        bad(3, "rule @lengt;");
        bad(3, "rule @and 1;");
        bad(3, "rule 1 or @sun;");
        bad(3, "rule 1+@not 2;");
        bad(3, "rule 1<@not 2;");
        bad(3, "rule not @or;");
        bad(3, "rule (@after);");
        bad(1, "rule not@;");
        bad(2, "rule not not not not not not @not 1;");
        bad(2, "rule 1 or not not not not not not @not 1;");
        good("rule not not not (not not not not 1);");
        good("rule not not not 1 and not not not not 1;");
        bad(1, "rule not not not not not not @);");
        bad(3, "rule not not not not not not @foo;");
    }

    private static void depths() {
        good("rule (((((1)))));");
        bad(2, "rule ((((((@1))))));");
        bad(2, "rule ((((((@(");
        bad(2, "rule ((((((@length");
        bad(2, "rule ((((((@foo");
        bad(2, "rule ((((((@not 1");
        bad(2, "rule ((((((@12345");
        bad(1, "rule ((((((@)");
        bad(1, "rule ((((((@+");
        bad(1, "rule ((((((@;");
        bad(1, "rule ((((((@");
        bad(1, "rule ((((((@#");
        bad(2, "rule 1+(2*(3 and (not (4<(5/(@6))))));");
        good("rule (((((1))))) + (((((2)))));");
    }

    /** Good texts with a token put in, taken out or changed, against the plain model. */
    private static void mutations() {
        String[] pieces = {"sun", "cloud", "wide", "near", "inside", "after", "day", "move", "cold", "rule", "or",
            "and", "not", "length", "kind", "light", "left", "until", "hour", "waited", "tries", "foo", "0", "1",
            "2", "30", "31", "480", "481", "9999", "10000", ";", "(", ")", "+", "-", "*", "/", "<", "=", "#", "A"};
        String text = "day 60;sun 5;cloud 3;wide 1 4 0 20;near 2 3 0 30;inside 0 5 0 30 after 1;move 4;"
                + "rule left-length*(1+2)<3 and not kind=2 or until/2;cold 2;rule ((((1))));";
        Random random = new Random(7);
        for (int i = 0; i < 20000; i++) {
            StringBuilder b = new StringBuilder();
            boolean isMany = i % 2 == 0;
            int at = random.nextInt(70);
            int k = 0;
            for (PlainModel.Token token : PlainModel.tokens(text)) {
                boolean isHere = k++ == at || isMany && random.nextInt(40) == 0;
                int how = random.nextInt(3);
                if (isHere && how > 0) {
                    b.append(pieces[random.nextInt(pieces.length)]).append(' ');
                }
                if (!isHere || how == 1) {
                    b.append(token.text()).append(random.nextInt(6) == 0 ? "\n " : " ");
                }
            }
            if (b.length() <= 700) {
                String made = b.toString();
                PlainModel m = new PlainModel();
                for (int j = 0; j < made.length(); j += 20) {
                    m.feed(Tape.numbers(made, j));
                }
                int fault = m.plan(made.length());
                due(made, fault, m.faultPlace);
            }
        }
    }
}
