#!/bin/bash
# Compares the class with oracle.py: fuzz.sh GENERATOR FIRST_SEED LAST_SEED [PROGRAMS A SEED]
# e.g. tools/oracle/fuzz.sh gen_acts 1 20. Prints the seeds that differ; their files stay in $out.
set -u
cd "$(dirname "$0")/../.." || exit 1
out=$(mktemp -d) || exit 1
javac -d "$out/classes" src/main/java/TableTongue.java src/test/java/Bench.java \
  src/test/java/RunsTest.java || exit 1
differ=0
for seed in $(seq "$2" "$3"); do
  python3 "tools/oracle/$1.py" "$seed" "${4:-100}" > "$out/$seed.runs"
  python3 tools/oracle/oracle.py "$out/$seed.runs" > "$out/$seed.due" || echo "oracle: seed $seed"
  java -cp "$out/classes" RunsTest "$out/$seed.runs" > "$out/$seed.seen"
  if cmp -s "$out/$seed.due" "$out/$seed.seen"; then
    rm "$out/$seed".*
  else
    echo "seed $seed differs"
    differ=$((differ + 1))
  fi
done
echo "$differ seeds differ; files: $out"
[ "$differ" -eq 0 ]
