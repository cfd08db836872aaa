/** Promises 9 and 10, text and fault, and what the language tells (by odds and picture). */
public final class TextTest {
    private static final int NONE = ColdRing.NONE;

    private TextTest() {
    }

    public static void main(String[] args) {
        numbers();
        heads();
        sums();
        tests();
        tokens();
        limits();
        ends();
        faultStays();
        valuesOfSums();
        broken();
        valuesOfTests();
        lastThatHolds();
        wordsOfAFlight();
        Check.finish("TextTest");
    }

    private static void numbers() {
        ColdRing x = new ColdRing();
        for (int i = 0; i < 10; i++) {
            Check.due("text " + i, Check.text(x, "odds " + i), i);
            Check.due("the TAPE is empty", x.count(8), 0);
            Check.due("status", x.status(), 0);
        }
        Check.text(x, "odds");
        Check.due("the 11th, though it is none", x.status(), -5);
        Check.due("the 11th was not read", x.fault(), NONE);
        Check.due("TEXTS", x.count(1), 10);
        Check.due("REFUSED by -5", x.count(12), 1);
        Check.due("REFUSED by -6", x.count(13), 0);
    }

    private static void heads() {
        Check.faultDue("odds 1", NONE);
        Check.faultDue("move 1", NONE);
        Check.faultDue("key 1", NONE);
        Check.faultDue("stop", NONE);
        Check.faultDue("stop if 1=1", NONE);
        Check.faultDue("stop 1", 5);
        Check.faultDue("odd 1", 0);
        Check.faultDue("oddss 1", 0);
        Check.faultDue("odds1", NONE);
        Check.faultDue("Odds 1", 0);
        Check.faultDue("warmth", 0);
        Check.faultDue("if 1=1", 0);
        Check.faultDue("odds if 1=1", 5);
        Check.faultDue("odds 1 2", 7);
        Check.faultDue("odds 1 odds 2", 7);
        Check.faultDue("odds 1;", 7);
        Check.faultDue("odds 1;  ", 9);
        Check.faultDue("odds 1;;odds 2", 7);
        Check.faultDue(";odds 1", 0);
        Check.faultDue("odds 1;odds 2", NONE);
    }

    private static void sums() {
        Check.faultDue("odds 1+2-3*4/5", NONE);
        Check.faultDue("odds -1", 5);
        Check.faultDue("odds 1+", 7);
        Check.faultDue("odds 1+*2", 7);
        Check.faultDue("odds [1+2]*3", NONE);
        Check.faultDue("odds [1+2*3", 11);
        Check.faultDue("odds []", 6);
        Check.faultDue("odds 1]", 6);
        Check.faultDue("odds (1)", 5);
        Check.faultDue("odds [1)", 7);
        Check.faultDue("odds 1000", NONE);
        Check.faultDue("odds 0001000", NONE);
        Check.faultDue("odds 1001", 5);
        Check.faultDue("odds 99999999999999999999999999999999999999999999", 5);
        for (String word : new String[] {"warmth", "press", "ring", "worst", "rank", "room", "side", "doubt", "proof",
            "kind", "weight", "minute"}) {
            Check.faultDue("odds " + word, NONE);
            Check.faultDue("odds " + word + "s", 5);
            Check.faultDue("odds " + word.substring(1), 5);
        }
        Check.faultDue("odds if", 5);
        Check.faultDue("odds stop", 5);
        Check.faultDue("odds rankroom", 5);
        Check.faultDue("odds ringz", 5);
        Check.faultDue("odds ringa", 5);
        Check.faultDue("odds 90", NONE);
    }

    private static void tests() {
        Check.faultDue("stop if", 7);
        Check.faultDue("stop if 1", 9);
        Check.faultDue("stop if 1<2", NONE);
        Check.faultDue("stop if 1>2", NONE);
        Check.faultDue("stop if 1=2=3", 11);
        Check.faultDue("stop if 1==2", 10);
        Check.faultDue("stop if (1<2", 12);
        Check.faultDue("stop if (1<2)", NONE);
        Check.faultDue("stop if (1)<2", 10);
        Check.faultDue("stop if [1]<2", NONE);
        Check.faultDue("stop if [1<2]", 10);
        Check.faultDue("stop if 1<2)", 11);
        Check.faultDue("stop if not 1<2", NONE);
        Check.faultDue("stop if not not(not 1<2)", NONE);
        Check.faultDue("stop if not", 11);
        Check.faultDue("stop if 1<not 2", 10);
        Check.faultDue("stop if 1<2 or", 14);
        Check.faultDue("stop if or 1<2", 8);
        Check.faultDue("stop if 1<2 and 3", 17);
        Check.faultDue("stop if 1<2 or 1<2 and not(1<2 or 1<2)or 1<2", NONE);
        Check.faultDue("stop if 1<2 if 1<2", 12);
        Check.faultDue("odds 1 if 1<2;stop if 1>2", NONE);
        Check.faultDue("odds 1 or 2", 7);
        Check.faultDue("stop if (1<2;stop)", 12);
    }

    private static void tokens() {
        Check.faultDue("  odds   1  +  2  ", NONE);
        Check.faultDue("odds\t1", 4);
        Check.faultDue("odds 1\n", 6);
        Check.faultDue("odds 1" + (char) 0, 6);
        Check.faultDue("odds " + (char) 233, 5);
        Check.faultDue((char) 255 + "odds 1", 0);
        Check.faultDue("odds 12if1<2", NONE);
        Check.faultDue("odds 1 2", 7);
        Check.faultDue("odds 1.5", 6);
        Check.faultDue("stop if1<2", NONE);
        Check.faultDue("stopif 1<2", 0);
        Check.faultDue("stop if 1 < 2or 3>4and 5=5", NONE);
        Check.faultDue("odds 1_", 6);
    }

    private static void limits() {
        String clause = ";odds 1";
        Check.faultDue("stop" + clause.repeat(11), NONE);
        Check.faultDue("stop" + clause.repeat(12), 4 + 11 * 7 + 1);
        Check.faultDue("stop" + clause.repeat(11) + " ;  Q", 4 + 11 * 7 + 4);
        Check.faultDue("stop" + clause.repeat(11) + "; ", 4 + 11 * 7 + 2);
        Check.faultDue("odds 1" + "+1".repeat(49), NONE);
        Check.faultDue("odds 1" + "+1".repeat(50), 6 + 49 * 2 + 1);
        Check.faultDue("odds ring" + "+ring".repeat(48) + "+1", NONE);
        Check.faultDue("odds ring" + "+ring".repeat(48) + "+1;odds 1", 9 + 48 * 5 + 2 + 6);
        Check.faultDue("odds ring" + "+ring".repeat(48) + "+1;stop", NONE);
        Check.faultDue("odds " + "[".repeat(8) + "1" + "]".repeat(8), NONE);
        Check.faultDue("odds " + "[".repeat(9) + "1" + "]".repeat(9), 13);
        Check.faultDue("odds " + "[1]+".repeat(12) + "1", NONE);
        Check.faultDue("stop if " + "(".repeat(8) + "1=1" + ")".repeat(8), NONE);
        Check.faultDue("stop if " + "(".repeat(9) + "1=1" + ")".repeat(9), 16);
        Check.faultDue("stop if ((((([[[1]]]=1)))))", NONE);
        Check.faultDue("stop if ((((([[[[1]]]]=1)))))", 16);
        Check.faultDue("stop if ((((([[[1]]]=[[[[1]]]])))))", 24);
        Check.faultDue("stop if " + "not ".repeat(97) + "1=1", NONE);
        Check.faultDue("odds 1" + " ".repeat(394), NONE);
        Check.faultDue("odds" + " ".repeat(396), 400);
    }

    private static void ends() {
        Check.faultDue("", 0);
        Check.faultDue("   ", 3);
        Check.faultDue("odds  ", 6);
        Check.faultDue("stop if 1 <   ", 14);
    }

    private static void faultStays() {
        ColdRing x = new ColdRing();
        Check.due("no TEXT", Check.text(x, "odds Q"), -6);
        Check.due("status", x.status(), -6);
        Check.due("the TAPE is empty then too", x.count(8), 0);
        Check.due("FAULT", x.fault(), 5);
        x.flight(0, 0, 1);
        Check.put(x, "stop");
        Check.due("FAULT still", x.fault(), 5);
        Check.due("a TEXT", x.text(), 0);
        Check.due("FAULT no more", x.fault(), NONE);
        for (int i = 1; i < 10; i++) {
            Check.text(x, "stop");
        }
        x.image(0);
        Check.due("no room for it", Check.text(x, "Q"), -5);
        Check.due("FAULT is not told", x.fault(), NONE);
        Check.due("TAPE", x.count(8), 0);
    }

    private static void oddsDue(String law, int want) {
        ColdRing x = new ColdRing();
        Check.text(x, law);
        Check.due("odds of '" + law + "'", x.odds(0, 60, 4, 3), want);
    }

    private static void valuesOfSums() {
        oddsDue("odds 2+3*4", 14);
        oddsDue("odds [2+3]*4", 20);
        oddsDue("odds 90-30-20", 40);
        oddsDue("odds 90-[30-20]", 80);
        oddsDue("odds 900/30/3", 10);
        oddsDue("odds 900/[30/3]", 90);
        oddsDue("odds 7/2*2", 6);
        oddsDue("odds 50+[0-7]/2", 47);
        oddsDue("odds 50-7/[0-2]", 53);
        oddsDue("odds 1+2*3-4*5/2+9", 6);
        oddsDue("odds 99-2*3*4-1", 74);
        oddsDue("odds warmth+press*10-ring", 97);
        oddsDue("odds 10+worst+rank+room+side+doubt+proof+kind+weight+minute", 10);
        oddsDue("odds 0", 1);
        oddsDue("odds 100", 99);
        oddsDue("odds 0-1000", 1);
        oddsDue("stop", 50);
        oddsDue("move 7;key 8", 50);
    }

    private static void broken() {
        oddsDue("odds 1000*1000*1000", 99);
        oddsDue("odds 1000*1000*1000/1000/1000/20", 50);
        oddsDue("odds 1000*1000*1000/1000/1000/50", 20);
        oddsDue("odds 1000*1000*1000+1", 50);
        oddsDue("odds [1000*1000*1000+1]-1000*1000*1000", 50);
        oddsDue("odds 1+1000*1000*1000-1000*1000*1000", 50);
        oddsDue("odds 0-1000*1000*1000", 1);
        oddsDue("odds 0-1000*1000*1000-1", 50);
        oddsDue("odds 1000*1000*1000*1000*1000*1000*1000*1000*1000*1000*1000*0", 50);
        oddsDue("odds 7/0", 50);
        oddsDue("odds 7/[ring-3]", 50);
        oddsDue("odds 7*[0/1]", 1);
        oddsDue("odds 7;odds 1/0", 7);
        oddsDue("odds 7;odds 8 if 1/0=1", 7);
        oddsDue("odds 7;odds 8 if not 1/0=1", 7);
        oddsDue("odds 7;odds 8 if 1=1/0", 7);
        oddsDue("odds 7;odds 8 if 1/0=1 or 1=1", 7);
        oddsDue("odds 7;odds 8 if 1=1 or 1/0=1", 8);
        oddsDue("odds 7;odds 8 if not(1=2 and 1/0=1)", 8);
        oddsDue("odds 7;odds 8 if not(1=1 and 1/0=1)", 7);
        oddsDue("odds 7;odds 8 if 1=2 and 1/0=1 or 1=1", 8);
        oddsDue("odds 7;odds 8 if 1=1 or 1/0=1 and 1/0=1", 8);
        oddsDue("odds 7;odds 8 if (1=1 or 1/0=1) and 1/0=1", 7);
        oddsDue("odds 7;odds 8 if (1=2 or 1/0=1) or 1=1", 7);
    }

    private static void valuesOfTests() {
        String[] so = {"1<2", "2>1", "1=1", "not 1=2", "not not 1=1", "warmth=60", "press=4 and ring=3",
            "1=2 or 1=1", "1=1 or 1=2", "1=2 and 1=2 or 1=1", "1=1 or 1=2 and 1=2", "not 1=2 and 1=1",
            "not(1=2 or 1=2)", "not(1=1 and 1=2)", "1=2 or 1=2 or 1=1", "1=1 and 1=1 and 1=1",
            "1=2 and 1=1 or 1=1 and 1=1", "(1=2 or 1=1) and 1=1", "1+1=2*1"};
        String[] not = {"2<1", "1<1", "1>2", "1>1", "1=2", "not 1=1", "1=1 and 1=2", "1=2 and 1=1", "1=2 or 1=2",
            "1=1 and 1=1 and 1=2", "1=2 and 1=1 or 1=2", "not 1=1 or 1=2", "not(1=1 or 1=2)", "(1=1 or 1=1) and 1=2",
            "worst>0", "not 1=2 and 1=2", "1=2 or 1=2 and 1=1"};
        for (String test : so) {
            oddsDue("odds 7 if " + test, 7);
        }
        for (String test : not) {
            oddsDue("odds 7 if " + test, 50);
        }
    }

    private static void lastThatHolds() {
        oddsDue("odds 7;odds 8;odds 9", 9);
        oddsDue("odds 7;odds 8;odds 9 if 1=2", 8);
        oddsDue("odds 7;move 9;key 10;stop", 7);
        oddsDue("odds 7 if 1=1;odds 8 if 1=2;odds 9 if 1/0=0", 7);
        oddsDue("odds 7 if 1=2;odds 8 if 1=2", 50);
    }

    private static void wordsOfAFlight() {
        ColdRing x = new ColdRing();
        x.flight(60, 4, 6);
        x.flight(60, 3, 6);
        x.ring(1, 5, 8);
        Check.text(x, "key 100*worst+press");
        Check.text(x, "key 5-press+ring*100+rank*100+doubt*100+minute*100");
        Check.due("by worst", x.picture(0, 0, 0), 0);
        Check.due("by press", x.picture(1, 0, 0), 0);
        Check.text(x, "key 0-worst");
        Check.due("by worst the other way", x.picture(2, 0, 0), 1);
    }
}
