/** Promises 30 to 35: scripts, their faults, facts, runs, outputs, errors and demands. */
public final class ScriptTest {
    public static void main(String[] args) {
        counts();
        faults();
        depths();
        functionsAndStatements();
        reckoning();
        facts();
        list();
        blocks();
        errors();
        acts();
        closings();
        queries();
        functions();
        steps();
        outputs();
        demands();
        runsOfNothing();
        factsOfBoards();
        Bench.finish("ScriptTest");
    }

    private static Bench good(String text, int statements) {
        Bench b = new Bench();
        Bench.due("program " + text, b.program(text), statements);
        b.told(0);
        return b;
    }

    private static void fault(String marked) {
        int place = marked.indexOf('$');
        Bench b = new Bench();
        Bench.due("program " + marked, b.program(marked.substring(0, place) + marked.substring(place + 1)), -2 - place);
        b.told(2);
    }

    /** A run of a script: what it answers, and its outputs. */
    private static Bench runs(String text, int steps, int want, long... outputs) {
        Bench b = new Bench();
        Bench.due("program " + text, b.program(text) >= 0, true);
        runs(b, text, steps, want, outputs);
        return b;
    }

    private static void runs(Bench b, String text, int steps, int want, long... outputs) {
        Bench.due("run(" + steps + ") of " + text, b.mill.run(steps), want);
        b.told(0);
        for (int i = 0; i < outputs.length; i++) {
            Bench.due("output(" + i + ") of " + text, b.mill.output(i), outputs[i]);
        }
        Bench.due("output behind the last of " + text, b.mill.output(outputs.length), 1L << 40);
        Bench.due("output(-1)", b.mill.output(-1), 1L << 40);
    }

    private static void errorIs(Bench b, int kind, int place, int value) {
        Bench.due("error(0)", b.mill.error(0), kind);
        Bench.due("error(1)", b.mill.error(1), place);
        Bench.due("error(2)", b.mill.error(2), value);
        Bench.due("error(3)", b.mill.error(3), -1);
        Bench.due("error(-1)", b.mill.error(-1), -1);
    }

    /** A script ends with an error of a kind at the place that is marked. */
    private static Bench fails(String marked, int kind, int value, long... outputs) {
        int place = marked.indexOf('$');
        String text = marked.substring(0, place) + marked.substring(place + 1);
        Bench b = runs(text, 300, 1, outputs);
        errorIs(b, kind, place, value);
        return b;
    }

    private static void counts() {
        good("", 0);
        good("\n\n\n", 0);
        good("\na=1;\n\nb=2;\n", 2);
        good("?1{\n}{\n\n!1;\n!2;}", 3);
        good(":A{!1;}A;", 3);
    }

    private static void faults() {
        fault("$ ");
        fault("a$");
        fault("a$+1;");
        fault("a=$;");
        fault("a=1$");
        fault("a=1$\n;");
        fault("a=1;$ b=1;");
        fault("a=1;$;");
        fault("a=1234$5;");
        fault("a=1$a;");
        fault("a=1+$;");
        fault("a=1+$+1;");
        fault("a=(1$;");
        fault("a=($);");
        fault("a=1<2$<3;");
        fault("a=1=2$=3;");
        fault("a=1=2$<3;");
        fault("a=$A;");
        fault("a=@1$;");
        fault("a=@1:$6;");
        fault("a=@1:$a;");
        fault("a=@1:$");
        fault("a='$;");
        fault("a=#$1;");
        fault("@1$=2;");
        fault("@1:0$;");
        fault("@1:$6=2;");
        fault("@1$+1:0=2;");
        fault("'1$;");
        fault("'1$+1=2;");
        fault("'1=2$");
        fault("!$;");
        fault("^$}");
        fault("?1$;");
        fault("?1{$");
        fault("?1{$]");
        fault("?1{}\n${}");
        fault("?1{}{}${}");
        fault("*1{}${}");
        fault("*1$\n{}");
        fault("~{}$");
        fault("~{}$;");
        fault("~{}$\n");
        fault("[$}");
        fault("[a=1;$");
        fault("$]");
        fault("$}");
        fault("A$");
        fault("A$=1;");
        fault(":$");
        fault(":$a{}");
        fault(":A$;");
        fault(":A{$");
        fault("$,");
        fault("${}");
        fault("<1$");
        fault("|1$}");
        fault("a=1;\nb=2;\n$#");
    }

    private static void depths() {
        good("a=(((1)));", 1);
        fault("a=((($(1))));");
        good("a=---1;", 1);
        fault("a=---$-1;");
        good("a=1---1;", 1);
        good("a=1----1;", 1);
        fault("a=1----$-1;");
        good("a=(-(1));", 1);
        fault("a=(-($-1));");
        fault("a=@'($(1)):0;");
        good("a=@'(1):0;", 1);
        good("@@'(1):0:0='((1));", 1);
        good("@-((1)):0=1;", 1);
        fault("@-(($(1))):0=1;");
        good("'---1=1;", 1);
        fault("'---$-1=1;");
        good("'''0=1;", 1);
        good("''''0=1;", 1);
        fault("''''$'0=1;");
        good("a=(1)+(2)*(3)-(-(4));", 1);
        good("?1{?1{!1;}{!2;}}", 4);
        fault("?1{?1{?1${}}}");
        fault("?1{?1{}{?1${}}}");
        fault("?1{*1{$[]}}");
        fault("[[$[]]]");
        fault("~{~{~${}{}}{}}{}");
        fault("~{}{~{}{~${}{}}}");
        fault(":A{?1{*1${}}}");
        fault(":A{[?1${}]}");
        good(":A{[!1;]}", 3);
        good("[?1{a=1;}]", 3);
    }

    private static void functionsAndStatements() {
        good(":A{}:B{}:Z{}", 3);
        fault(":A{}$:A{}");
        fault("?1{$:A{}}");
        fault("?1{:$a{}}");
        fault("?1{:$");
        fault(":A{$:B{}}");
        fault(":A{$:A{}}");
        good("a=1;".repeat(100), 100);
        fault("a=1;".repeat(99) + "?1{$b=1;}");
        good("a=1;".repeat(99) + "?1{}", 100);
        fault("A;".repeat(100) + "$A;");
        fault("A;".repeat(100) + "\n$#");
        good("A;".repeat(100) + "\n\n", 100);
        fault("A;".repeat(99) + ":A{$B;}");
        // a script that is none leaves the one that is there
        Bench b = good("!7;", 1);
        Bench.due("a faulty one", b.program("!7"), -4);
        runs(b, "!7;", 9, 0, 7);
        Bench.due("a faulty one leaves the run", b.program("!"), -3);
        Bench.due("output", b.mill.output(0), 7);
        Bench.due("a good one does not", b.program("!8;"), 1);
        Bench.due("output", b.mill.output(0), 1L << 40);
        // a text that was no script leaves nothing behind
        Bench.due("a faulty one", b.program(":A{!1;}x"), -10);
        Bench.due("a good one", b.program("A;"), 1);
        runs(b, "A;", 9, 1);
        errorIs(b, 6, 0, 0);
    }

    private static void reckoning() {
        runs("!1+2*3-4;!7/2;!-7/2;!-7%3;!7%-3;!8-2-1;!64/4/2;!2*3%4;!9999;", 99, 0, 3, 3, -3, -1, 1, 5, 8, 2, 9999);
        runs("!1<2;!2<1;!2<2;!2=2;!1=2;!1+1=2;!1<1+1;!-1<0;a=b=0;!a;", 99, 0, 1, 0, 0, 1, 0, 1, 1, 1, 1);
        runs("!(1+2)*3;!2*-3;!--3;!1--1;!(1<2)+(3=3);", 99, 0, 9, -6, 3, 2, 2);
        runs("!a;a=5;!a;a=a*a;!a;z=a;!z;", 99, 0, 0, 5, 25, 25);
        // 2^63 wraps, and what is put out are the lowest 32 bits
        runs("a=1;*i<63{a=a*2;i=i+1;}!a;!a-1;!a<0;!a/(0-1)=a;!a%-1;!-a=a;b=9999*9999*100;!b;!-b;", 300, 0,
            0, -1, 1, 1, 0, 1, (int) 9998000100L, (int) -9998000100L);
    }

    private static void facts() {
        runs("!#;+7;!#;!@0:0;!@0:5;+9;@1:3=@0:0*2;!@1:3;!@1:0;!@(#-1):0;", 99, 0, 0, 1, 7, 0, 14, 9, 9);
        Bench b = runs("+1;+2;", 99, 0);
        b.program("!#;!@1:0;@0:5=4;");
        runs(b, "facts stay", 99, 0, 2, 2);
        b.program("!@0:5;");
        runs(b, "facts stay", 99, 0, 4);
        fails("*i<13{$+i;i=i+1;}", 3, 0);
        runs("*i<12{+i;i=i+1;}!#;!@(11):0;", 99, 0, 12, 11);
        fails("*i<12{+i;i=i+1;}$+1/0;", 1, 0);
        fails("$!@0:0;", 2, 0);
        fails("+1;$!@1:0;", 2, 0);
        fails("+1;$!@-1:0;", 2, 0);
        fails("$@0:0=1;", 2, 0);
        fails("+1;$@-1:0=1;", 2, 0);
        fails("$@0:0=1/0;", 2, 0);
        fails("$@(1/0):0=@9:0;", 1, 0);
        fails("+1;$@0:0=1/0;", 1, 0);
        // a place far away is none, even when its lowest bits are
        fails("+1;a=9999*9999*9999*9999;$!@a:0;", 2, 0);
        fails("+1;a=1;*i<32{a=a*2;i=i+1;}$!@a:0;", 2, 0);
        fails("<1;a=1;*i<32{a=a*2;i=i+1;}$!'a;", 2, 0);
        fails("a=1;*i<32{a=a*2;i=i+1;}$<a;", 3, 0);
    }

    private static void list() {
        runs("<3;'0=5;'2='0+1;!'0;!'1;!'2;<3;!'0;", 99, 0, 5, 0, 6, 0);
        runs("<20;'19=1;!'19;<0;", 99, 0, 1);
        fails("$!'0;", 2, 0);
        fails("<2;$!'2;", 2, 0);
        fails("<2;$!'-1;", 2, 0);
        fails("<2;$'2=1;", 2, 0);
        fails("<2;$'-1=1;", 2, 0);
        fails("$'0=1/0;", 2, 0);
        fails("$'(1%0)=@9:0;", 1, 0);
        fails("<1;$'0=1%0;", 1, 0);
        fails("$<21;", 3, 0);
        fails("$<-1;", 3, 0);
        fails("$<1/0;", 1, 0);
        Bench b = runs("<2;'1=8;", 99, 0);
        b.program("!'1;<3;");
        runs(b, "the list stays", 99, 0, 8);
        b.program("!'2;<21;");
        runs(b, "the list stays", 99, 1, 0);
        b.program("!'2;!'3;");
        runs(b, "the list stays by an error", 99, 1, 0);
    }

    private static void blocks() {
        runs("?1{!1;}?0{!2;}?0{!3;}{!4;}?-1{!5;}{!6;}", 99, 0, 1, 4, 5);
        runs("*i<3{!i;i=i+1;}!9;*0{!8;}", 99, 0, 0, 1, 2, 9);
        runs("*i<2{j=0;*j<2{!i*2+j;j=j+1;}i=i+1;}", 99, 0, 0, 1, 2, 3);
        runs("?1{}{}\n?0{}\n!1;", 99, 0, 1);
        runs("[!1;[!2;]]!3;", 99, 0, 1, 2, 3);
        runs("\n?1{\n!1;\n\n!2;\n}{\n!3;}\n\n!4;\n", 99, 0, 1, 2, 4);
    }

    private static void errors() {
        fails("$!1/0;", 1, 0);
        fails("!3;$!1%0;!4;", 1, 0, 3);
        fails("$^7;", 4, 7);
        fails("$^-1;", 4, -1);
        fails("$^9999*9999*100;", 4, (int) 9998000100L);
        fails("$^1/0;", 1, 0);
        fails("?1{$^2;!1;}!3;", 4, 2);
        fails("$?1/0{!1;}{!2;}", 1, 0);
        fails("$*2/(2-i){i=i+1;}", 1, 0);
        fails("$!1/0+@9:0;", 1, 0);
        fails("$!@9:0+1/0;", 2, 0);
        fails("$!(@9:0)/0;", 2, 0);
        fails("$a=1/0;", 1, 0);
        Bench b = fails("a=3;$a=1/0;", 1, 0);
        b.program("!a;");
        runs(b, "variables are 0 at first", 9, 0, 0);
        errorIs(b, 0, -1, 0);
        Bench.due("run(0)", b.mill.run(0), -1);
        b.told(2);
        Bench.due("run(301)", b.mill.run(301), -1);
        b.told(2);
        Bench.due("the run before stays", b.mill.output(0), 0);
    }

    private static void acts() {
        Bench b = fails("+1;+2;[@0:0=9;+3;<2;a=5;$^1;]!7;", 4, 1);
        b.program("!#;!@0:0;!'1;");
        runs(b, "facts are put back, the list is not", 9, 0, 2, 1, 0);
        Bench c = fails("+1;[@0:0=2;[@0:0=3;$^1;]]", 4, 1);
        c.program("!@0:0;");
        runs(c, "by the outer one", 9, 0, 1);
        Bench d = fails("+1;[@0:0=2;]@0:1=5;$^1;", 4, 1);
        d.program("!@0:0;!@0:1;");
        runs(d, "an act without an error stays", 9, 0, 2, 5);
        Bench e = fails("+1;:F{[@0:0=3;$^6;]}[@0:0=2;~{F;}{!@0:0;@0:1=4;}]", 4, 6, 2);
        e.program("!@0:0;!@0:1;");
        runs(e, "first by the inner one, then by the outer one", 9, 0, 1, 0);
        Bench g = fails("*i<12{+i+1;@i:5=i*i;i=i+1;}[i=0;*i<12{@i:5=7;@i:0=8;i=i+1;}$^1;]", 4, 1);
        g.program("*i<12{!@i:0;!@i:5;i=i+1;}");
        runs(g, "twelve facts are put back", 99, 0, 1, 0, 2, 1, 3, 4, 4, 9, 5, 16, 6, 25, 7, 36, 8, 49, 9, 64, 10, 81, 11, 100, 12, 121);
        Bench h = fails("*i<9{+i;i=i+1;}[@2:0=70;@3:0=71;@8:5=72;[@2:0=80;@3:0=81;@8:5=82;@0:0=83;$^1;]]", 4, 1);
        h.program("!@0:0;!@2:0;!@3:0;!@8:0;!@8:5;");
        runs(h, "each act has its own", 99, 0, 0, 2, 3, 8, 0);
        Bench f = fails("+1;:F{[@0:0=8;$^3;]}[F;]", 4, 3);
        f.program("!#;!@0:0;");
        runs(f, "an act in a function", 9, 0, 1, 1);
    }

    private static void closings() {
        runs("~{!1;}{!2;}!3;", 99, 0, 1, 2, 3);
        fails("~{!1;$^5;!9;}{!2;}!3;", 4, 5, 1, 2);
        fails("~{!1;^5;}{!2;$!1/0;}!3;", 1, 0, 1, 2);
        fails("~{!1;}{!2;$^6;}!3;", 4, 6, 1, 2);
        fails("~{~{$^1;}{!1;}}{!2;}", 4, 1, 1, 2);
        fails("~{~{^1;}{$^2;}}{!2;}", 4, 2, 2);
        fails("~{^1;}{~{$^2;}{!3;}}", 4, 2, 3);
        fails("~{$^8;}{[a=1;]}", 4, 8);
        Bench b = fails("+1;~{@0:0=3;$^8;}{@0:1=4;}", 4, 8);
        b.program("!@0:0;!@0:1;");
        runs(b, "a closing puts nothing back", 9, 0, 3, 4);
    }

    private static void queries() {
        runs("+1;+2;z=7;|z;!z;", 99, 0, 7);
        fails("+4;+0;+2;z=7;$|1/@z:0;", 1, 0);
        Bench b = fails("+4;+0;+2;z=7;~{$|1/@z:0;}{!z;}", 1, 0, 1);
        errorIs(b, 1, 15, 0);
        runs("z=7;|1/0;!z;", 99, 0, 7);
        runs("+1;+1;a=3;|a/(2-z);!z;!a;", 99, 0, 0, 3);
        runs("+1;z=5;*i<2{|@z:0;!z;i=i+1;}", 99, 0, 5, 5);
    }

    private static void functions() {
        runs("F;:F{!1;}F;", 99, 0, 1, 1);
        fails("$F;", 6, 0);
        fails(":G{}~{$F;}{G;}", 6, 0);
        runs(":A{!1;B;}:B{!2;}A;B;", 99, 0, 1, 2, 2);
        fails(":A{!1;B;}:B{!2;$C;}:C{!3;}A;", 5, 0, 1, 2);
        fails(":A{!1;B;}:B{!2;$D;}:C{!3;}A;", 6, 0, 1, 2);
        fails(":A{!1;$A;}A;", 5, 0, 1, 1);
        runs(":A{!a;a=a+1;?a<2{B;}}:B{!9;}*a<2{A;}", 99, 0, 0, 9, 1);
        runs(":A{?1{B;}}:B{?1{!1;}}?1{[A;]}", 99, 0, 1);
        fails(":A{?1{B;}}:B{[$A;]}?1{[A;]}", 5, 0);
        // a function is only what the text tells
        runs("?0{F;}", 99, 0);
    }

    private static void steps() {
        runs("!1;!2;!3;", 3, 0, 1, 2, 3);
        runs("!1;!2;!3;", 2, 2, 1, 2);
        runs("!1;!2;:A{}", 2, 0, 1, 2);
        runs("*i<2{!i;i=i+1;}", 7, 0, 0, 1);
        runs("*i<2{!i;i=i+1;}", 6, 2, 0, 1);
        runs("*i<2{!i;i=i+1;}", 1, 2);
        runs("*1{}", 300, 2);
        runs("*1{!1;}", 3, 2, 1);
        runs("?1{!1;}", 1, 2);
        runs("?1{!1;}", 2, 0, 1);
        runs(":A{!1;}A;", 2, 0, 1);
        runs(":A{!1;}A;", 1, 2);
        runs("[]~{}{}", 2, 0);
        runs("[]~{}{}", 1, 2);
        Bench b = runs("+1;[@0:0=5;!1;!2;]", 4, 2, 1);
        errorIs(b, 0, -1, 0);
        b.program("!@0:0;");
        runs(b, "nothing is put back", 9, 0, 5);
        runs("~{!1;!2;}{!3;}", 2, 2, 1);
        Bench c = runs("~{!1;^2;}{!3;!4;}", 4, 2, 1, 3);
        errorIs(c, 0, -1, 0);
        fails("~{!1;$^2;}{!3;!4;}", 4, 2, 1, 3, 4);
        Bench d = new Bench();
        d.program("+1;+2;+3;|z;|z;&1;!#;");
        runs(d, "a query is one step", 7, 0, 3);
    }

    private static void outputs() {
        Bench b = good("*i<50{!i;i=i+1;}", 3);
        Bench.due("run", b.mill.run(300), 0);
        for (int i = 0; i < 40; i++) {
            Bench.due("output", b.mill.output(i), i);
        }
        Bench.due("output(40)", b.mill.output(40), 1L << 40);
        Bench.due("output(MAX)", b.mill.output(Integer.MAX_VALUE), 1L << 40);
        runs(b, "a run anew", 2, 2, 0);
    }

    private static void demandsAre(Bench b, int... want) {
        for (int k = 0; k < want.length; k++) {
            Bench.due("demand(" + k + ")", b.mill.demand(k), want[k]);
        }
        Bench.due("demand behind the last", b.mill.demand(want.length), -1);
        Bench.due("demand(-1)", b.mill.demand(-1), -1);
    }

    private static void demands() {
        Bench b = runs("&a=3;a=3;&1/0;&@0:0;&'0;&-5;&0;", 99, 0);
        demandsAre(b, 1, -2, -2, -2, 1, 0);
        b = runs("+4;&@0:0=4;@0:0=5;&@0:0=5;<1;&'0;'0=1;", 99, 0);
        demandsAre(b, 0, 1, 1);
        b = runs("*i<12{&i;i=i+1;}", 99, 0);
        demandsAre(b, 1, 1, 1, 1, 1, 1, 1, 1);
        b = runs("&1;&2;^3;&4;", 99, 1);
        demandsAre(b, 1, 1);
        Bench.due("demand leaves the error", b.mill.error(0), 4);
        b = runs("&0;&z=0;|5;&1;", 3, 2);
        demandsAre(b, 0, 1);
        b.program("x");
        demandsAre(b, 0, 1);
        b.program("&1;");
        demandsAre(b);
        b.mill.run(1);
        demandsAre(b, 1);
    }

    private static void runsOfNothing() {
        Bench b = new Bench();
        Bench.due("run without a script", b.mill.run(1), 0);
        b.told(0);
        errorIs(b, 0, -1, 0);
        Bench.due("run", b.mill.run(-1), -1);
        b.told(2);
    }

    private static void factsOfBoards() {
        Bench b = new Bench();
        Bench.due("facts without a board", b.mill.facts(), false);
        b.told(3);
        b = Sixty.drawn(14);
        b.mill.board(4, 3, 1, 5);
        b.mill.bar(0, 3, 2);
        b.mill.put(13, 0, 0, 3, 2);
        b.mill.put(2, 0, 0, 0, 0);
        b.mill.put(16, 0, 0, 3, 0);
        b.mill.put(3, 0, 0, 1, 0);
        b.mill.put(17, 0, 0, 1, 2);
        b.mill.put(7, 0, 0, 0, 1);
        Bench.due("facts", b.mill.facts(), true);
        b.told(0);
        b.program("!#;f=0;*f<4{!@f:0;!@f:1;!@f:2;!@f:3;!@f:4;!@f:5;f=f+1;}");
        runs(b, "facts of open nets", 60, 0, 12, 13, 0, 0, -1, 0, -1, 2, 2, 0, -1, 0, -1, 3, 2, 0, -1, 0, -1, 7, 1, 0, -1, 0, -1);
        b.mill.cut();
        b.mill.facts();
        runs(b, "facts of a cut", 60, 0, 12, 13, 0, 0, -1, 0, 0, 2, 2, 0, -1, 0, 1, 3, 2, 0, -1, 0, 1, 7, 1, 0, -1, 0, 0);
        b.program("!@4:0;!@11:5;!@4:1;!@4:2;!@4:3;!@4:4;!@4:5;!@12:0;");
        runs(b, "of no route nets", 60, 1, -1, -1, -1, -1, -1, -1, -1);
        b.mill.route(1);
        b.mill.facts();
        b.program("f=1;*f<4{!@f:2;!@f:3;!@f:4;!@f:5;f=f+1;}");
        Bench.due("run", b.mill.run(60), 0);
        for (int net = 1; net < 4; net++) {
            Bench.due("led", b.mill.output(4 * net - 4), b.mill.costOf(net) >= 0 ? 1 : 0);
            Bench.due("cost", b.mill.output(4 * net - 3), b.mill.costOf(net));
            Bench.due("airlines of the cut then", b.mill.output(4 * net - 1), net == 3 ? 0 : 1);
        }
        b.mill.board(1, 1, 1, 0);
        b.mill.put(0, 0, 0, 0, 0);
        b.mill.facts();
        b.program("!@0:0;!@0:1;!@0:5;!@1:0;");
        runs(b, "of the latest board, which has no cut", 9, 0, 0, 1, -1, -1);
    }
}
