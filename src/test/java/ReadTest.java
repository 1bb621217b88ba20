/** Promise 5: which texts are a QUERY, which are SINGULAR, and where SYNTAX is broken. */
public final class ReadTest {
    private static final String SYNTAX = Bench.SYNTAX;

    public static void main(String[] args) {
        segments();
        brokenSegments();
        selectors();
        brokenSelectors();
        quoted();
        filters();
        brokenFilters();
        comparisons();
        brokenComparisons();
        functions();
        open();
        Bench.finish();
    }

    private static void good(String query, int singular) {
        Bench b = new Bench();
        Bench.due("read " + query, b.read(query), Integer.toString(singular));
        Bench.due("place of " + query, b.place(), -1);
    }

    private static void broken(String query, int place) {
        Bench b = new Bench();
        Bench.due("read " + query, b.read(query), SYNTAX);
        Bench.due("place of " + query, b.place(), place);
    }

    /** The filter alone, in $[? ]; the place counts from the filter's first byte. */
    private static void goodFilter(String filter) {
        good("$[?" + filter + "]", 0);
    }

    private static void brokenFilter(String filter, int place) {
        broken("$[?" + filter + "]", 3 + place);
    }

    private static void segments() {
        good("$", 1);
        good("$.a", 1);
        good("$._aZ09_", 1);
        good("$.azAZ", 1);
        good("$.z.A.Z._", 1);
        good("$.a.b.c", 1);
        good("$ .a\t\n\r [0]", 1);
        good("$['a'][0][-1][\"b\"].c", 1);
        good("$[ 'a' ]", 1);
        good("$[\n0\t]", 1);
        good("$.*", 0);
        good("$.a.*", 0);
        good("$..a", 0);
        good("$..*", 0);
        good("$..[0]", 0);
        good("$..['a']", 0);
        good("$ ..a ..[ * ]", 0);
        good("$['a','b']", 0);
        good("$['a']['b',0].c", 0);
    }

    private static void brokenSegments() {
        broken("", 0);
        broken(" ", 0);
        broken(" $", 0);
        broken("@", 0);
        broken("$ ", 2);
        broken("$.a \n", 5);
        broken("$$", 1);
        broken("$a", 1);
        broken("$.a b", 4);
        broken("$ x", 2);
        broken("$.", 2);
        broken("$. a", 2);
        broken("$..", 3);
        broken("$.. a", 3);
        broken("$...a", 3);
        broken("$.1", 2);
        broken("$.a-b", 3);
        broken("$.a@", 3);
        broken("$.a`", 3);
        broken("$.a{", 3);
        broken("$.a^", 3);
        broken("$.a:", 3);
        broken("$.a/", 3);
        broken("$.\u00e9", 2);
        broken("$.a\u00e9", 3);
        broken("$.'a'", 2);
        broken("$.[0]", 2);
        broken("$.**", 3);
        broken("$..1", 3);
        broken("$.a]", 3);
    }

    private static void selectors() {
        good("$[*]", 0);
        good("$[ * , * ]", 0);
        good("$[0]", 1);
        good("$[9007199254740991]", 1);
        good("$[-9007199254740991]", 1);
        good("$[:]", 0);
        good("$[::]", 0);
        good("$[1:]", 0);
        good("$[:1]", 0);
        good("$[1:2]", 0);
        good("$[1:2:]", 0);
        good("$[::3]", 0);
        good("$[ -1 : -2 : -3 ]", 0);
        good("$[ : : ]", 0);
        good("$[0:0:0]", 0);
        good("$['a' , 0 , 1:2 , * , ?@.a , \"b\"]", 0);
    }

    private static void brokenSelectors() {
        broken("$[", 2);
        broken("$[ ", 3);
        broken("$[]", 2);
        broken("$[ ]", 3);
        broken("$[a]", 2);
        broken("$[.a]", 2);
        broken("$[0", 3);
        broken("$[0 ", 4);
        broken("$[0 1]", 4);
        broken("$[0,]", 4);
        broken("$[,0]", 2);
        broken("$[0,,1]", 4);
        broken("$[00]", 3);
        broken("$[01]", 3);
        broken("$[-0]", 3);
        broken("$[-01]", 3);
        broken("$[-]", 3);
        broken("$[- 1]", 3);
        broken("$[-", 3);
        broken("$[+1]", 2);
        broken("$[1.0]", 3);
        broken("$[1e0]", 3);
        broken("$[9007199254740992]", 2);
        broken("$[ -9007199254740992]", 3);
        broken("$[99999999999999999999999999]", 2);
        broken("$[1:9007199254740992]", 4);
        broken("$[1:2: -9007199254740992]", 7);
        broken("$[9007199254740992:1]", 2);
        broken("$[1:a]", 4);
        broken("$[1:-]", 5);
        broken("$[:-0]", 4);
        broken("$[1:2:01]", 7);
        broken("$[1:2:3:4]", 7);
        broken("$[1:2 3]", 6);
        broken("$['a':1]", 5);
        broken("$[*:1]", 3);
        broken("$[$]", 2);
        broken("$[0)", 3);
    }

    private static void quoted() {
        good("$['']", 1);
        good("$[\"\"]", 1);
        good("$['\"']", 1);
        good("$[\"'\"]", 1);
        good("$['\\'\\\\\\/\\b\\f\\n\\r\\t\\u0041\\ud83d\\ude00']", 1);
        good("$[\"\\\"\\\\\\/\\b\\f\\n\\r\\t\\u00fF\"]", 1);
        broken("$['\\\"']", 3);
        broken("$[\"\\'\"]", 3);
        broken("$['a", 4);
        broken("$['a]", 5);
        broken("$['a\"]", 6);
        broken("$['a'", 5);
        broken("$['a'b']", 5);
        broken("$['a\\", 4);
        broken("$['a\\q']", 4);
        broken("$['a\\u12']", 4);
        broken("$['a\\u12", 4);
        broken("$['a\\ud800']", 4);
        broken("$['a\\ud800\\u0020']", 4);
        broken("$['a\\udc00']", 4);
        broken("$['a\nb']", 4);
        broken("$['a\u007f']", 4);
        broken("$['a\u00e9']", 4);
    }

    private static void filters() {
        goodFilter("@");
        goodFilter("$");
        goodFilter("@.a");
        goodFilter(" @.a ");
        goodFilter("@ .a [0] ");
        goodFilter("@..*");
        goodFilter("@.*");
        goodFilter("@[1:2,'a']");
        goodFilter("!@.a");
        goodFilter("! @.a");
        goodFilter("!$..a");
        goodFilter("(@.a)");
        goodFilter("!(@.a)");
        goodFilter("! ( ! ( @.a ) )");
        goodFilter("(!@.a)");
        goodFilter("@.a&&@.b");
        goodFilter("@.a || @.b && !@.c || (@.d || @.e) && @.f");
        goodFilter("@[?@[?@.a==1]]");
        goodFilter("@.a,?@.b,0");
        good("$..[?@.a]", 0);
        good("$.a[?@.b]['c']", 0);
    }

    private static void brokenFilters() {
        broken("$[?", 3);
        brokenFilter("", 0);
        brokenFilter(" ", 1);
        brokenFilter("x", 0);
        brokenFilter("@a", 1);
        brokenFilter("@.a b", 4);
        brokenFilter("@ @", 2);
        brokenFilter("@.", 2);
        brokenFilter("!", 1);
        brokenFilter("!!@", 1);
        brokenFilter("!1==1", 1);
        brokenFilter("!'a'", 1);
        brokenFilter("!length(@)==1", 1);
        brokenFilter("!@.a==1", 4);
        brokenFilter("!@.a<1", 4);
        brokenFilter("()", 1);
        brokenFilter("(@.a", 4);
        brokenFilter("(@.a))", 5);
        brokenFilter("(@.a)==1", 5);
        brokenFilter("@.a)", 3);
        brokenFilter("@.a&@.b", 4);
        brokenFilter("@.a|@.b", 4);
        brokenFilter("@.a& &@.b", 4);
        brokenFilter("@.a&&", 5);
        brokenFilter("@.a||", 5);
        brokenFilter("&&@.a", 0);
        brokenFilter("@.a && || @.b", 7);
        brokenFilter("@.a !", 5);
        brokenFilter("@.a?@.b", 3);
        broken("$[?@.a", 6);
        broken("$[?@.a ", 7);
        broken("$[?@.a]]", 7);
        broken("$?@.a", 1);
        broken("$.?@.a", 2);
    }

    private static void comparisons() {
        goodFilter("@.a==1");
        goodFilter("@.a != 'x'");
        goodFilter("1<2");
        goodFilter("1<=2");
        goodFilter("1>2");
        goodFilter("1>=2");
        goodFilter("true==false");
        goodFilter("null == null");
        goodFilter("'a'==\"a\"");
        goodFilter("@==$");
        goodFilter("@ == @['a'][0].b");
        goodFilter("-1 == @[-1]");
        goodFilter("0==@[ 'a' ] [ 0 ] .b ");
        goodFilter("@.a\n==\n$.b");
        goodFilter("(1==1)&&(@.a<3||!@.b)");
        goodFilter("9007199254740991==-9007199254740991");
    }

    private static void brokenComparisons() {
        brokenFilter("1", 1);
        brokenFilter("'a'", 3);
        brokenFilter("true", 4);
        brokenFilter("true&&false", 4);
        brokenFilter("tru==1", 3);
        brokenFilter("True==1", 0);
        brokenFilter("nulll==1", 4);
        brokenFilter("1=1", 2);
        brokenFilter("1===1", 3);
        brokenFilter("1= =1", 2);
        brokenFilter("1!1", 2);
        brokenFilter("1<>1", 2);
        brokenFilter("1< =1", 3);
        brokenFilter("1=<1", 2);
        brokenFilter("1==", 3);
        brokenFilter("==1", 0);
        brokenFilter("1==1==1", 4);
        brokenFilter("1==1 2", 5);
        brokenFilter("1==(1)", 3);
        brokenFilter("1==!@", 3);
        brokenFilter("1==01", 4);
        brokenFilter("1==-0", 4);
        brokenFilter("1==1.5", 4);
        brokenFilter("1==1e5", 4);
        brokenFilter("1==9007199254740992", 3);
        brokenFilter("-9007199254740992==1", 0);
        brokenFilter("1=='a", 6);
        brokenFilter("1=='\\\"'", 4);
        // Before OP any QUERY is read, and it is OP that can't go on.
        brokenFilter("@.*==1", 3);
        brokenFilter("@..a ==1", 5);
        brokenFilter("@[0,1]!=1", 6);
        brokenFilter("@[:]  <1", 6);
        brokenFilter("@[?@.a]>1", 7);
        brokenFilter("$..*=", 4);
        // Behind OP it is read as SINGULAR.
        brokenFilter("1==@.*", 5);
        brokenFilter("1==@..a", 5);
        brokenFilter("1==@[*]", 5);
        brokenFilter("1==@[?@]", 5);
        brokenFilter("1==@[0,1]", 6);
        brokenFilter("1==@['a' ,1]", 9);
        brokenFilter("1==@[0:1]", 6);
        brokenFilter("1==@[:]", 5);
        brokenFilter("1==@[]", 5);
        brokenFilter("1==@[0", 7);
        brokenFilter("1==@a", 4);
        brokenFilter("1==@.", 5);
        brokenFilter("1==x", 3);
        brokenFilter("[1]==@", 0);
        brokenFilter("{}==@", 0);
    }

    private static void functions() {
        goodFilter("length(@)==1");
        goodFilter("length( @.a ) == 1");
        goodFilter("length('abc')==length(length(1))");
        goodFilter("length(true)==length(null)");
        goodFilter("length(count(@.*))<length(value(@..a))");
        goodFilter("count(@.*)>1");
        goodFilter("count( $..* )>1");
        goodFilter("value(@..a)==1");
        goodFilter("1 == value( @..[?@.a] )");
        brokenFilter("length(@)", 9);
        brokenFilter("!count(@)", 1);
        brokenFilter("count(@)&&@", 8);
        brokenFilter("length (@)==1", 6);
        brokenFilter("length()==1", 7);
        brokenFilter("length(@.*)==1", 9);
        brokenFilter("length(@..a)==1", 9);
        brokenFilter("length(@,@)==1", 8);
        brokenFilter("length(@==1)==1", 8);
        brokenFilter("lengt(@)==1", 5);
        brokenFilter("lengths(@)==1", 6);
        brokenFilter("len", 3);
        brokenFilter("count()==1", 6);
        brokenFilter("count(1)==1", 6);
        brokenFilter("count('a')==1", 6);
        brokenFilter("count (@)==1", 5);
        brokenFilter("count(@ @)==1", 8);
        brokenFilter("count(!@)==1", 6);
        brokenFilter("count(@]", 7);
        brokenFilter("value(1)==1", 6);
        brokenFilter("value(length(@))==1", 6);
        brokenFilter("values(@)==1", 5);
        brokenFilter("match(@,'a')", 0);
        brokenFilter("search(@,'a')", 0);
        brokenFilter("1==length(@[0,1])", 13);
        broken("$[?length(", 10);
        broken("$[?length(@", 11);
    }

    private static void open() {
        // The outermost [ is one of the 16.
        goodFilter(Bench.repeat("(", 15) + "@" + Bench.repeat(")", 15));
        brokenFilter(Bench.repeat("(", 16) + "@" + Bench.repeat(")", 16), 15);
        goodFilter(Bench.repeat("!(", 15) + "@" + Bench.repeat(")", 15));
        brokenFilter(Bench.repeat("!(", 16) + "@" + Bench.repeat(")", 16), 31);
        goodFilter(Bench.repeat("(", 14) + "@[0]==1" + Bench.repeat(")", 14));
        goodFilter(Bench.repeat("(", 14) + "@.a==@[0]" + Bench.repeat(")", 14));
        brokenFilter(Bench.repeat("(", 15) + "@[0]" + Bench.repeat(")", 15), 16);
        brokenFilter(Bench.repeat("(", 15) + "1==@[0]" + Bench.repeat(")", 15), 19);
        brokenFilter(Bench.repeat("(", 15) + "@..[0]" + Bench.repeat(")", 15), 18);
        goodFilter(Bench.repeat("length(", 15) + "@" + Bench.repeat(")", 15) + "==1");
        brokenFilter(Bench.repeat("length(", 16) + "@" + Bench.repeat(")", 16) + "==1", 15 * 7 + 6);
        brokenFilter(Bench.repeat("(", 15) + "count(@)==1" + Bench.repeat(")", 15), 15 + 5);
        brokenFilter(Bench.repeat("(", 15) + "value(@)==1" + Bench.repeat(")", 15), 15 + 5);
        good("$" + Bench.repeat("[?@", 16) + Bench.repeat("]", 16), 0);
        broken("$" + Bench.repeat("[?@", 17) + Bench.repeat("]", 17), 1 + 16 * 3);
        // What is closed is not open any more.
        good("$" + Bench.repeat("[0]", 1300), 1);
        goodFilter(Bench.repeat("(@[0])&&", 400) + "@");
        goodFilter(Bench.repeat("length('')==count(@[0])||", 150) + "@");
        good("$" + Bench.repeat(".a", 2000), 1);
        // A broken read leaves no ( or [ open for the next one.
        Bench b = new Bench();
        b.read("$[?((((((((((");
        Bench.due("after a broken one", b.read("$[?" + Bench.repeat("(", 15) + "@" + Bench.repeat(")", 15) + "]"), "0");
    }
}
